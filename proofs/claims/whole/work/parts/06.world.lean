/-! ===== the machine is right: the words, the world of the flat memory ===== -/
noncomputable def GW : List Cond := lw_tbl.filter goodWord
theorem xw_in {i : Nat} {w : Cond} (h : xw i w = true) : w ∈ GW := by
  unfold xw at h
  rw [Bool.and_eq_true] at h
  exact List.mem_filter.mpr ⟨List.mem_of_getElem? (of_decide_eq_true h.1), h.2⟩
abbrev xKK : Type := Launch × Nat × va_G × (Nat → ClassId)
/-- what a value is to the machine: .ref a is cell a from the first on; .retAddr a stands for the heap's own a -/
def xcv (b : Nat) (v : Value) : Value := match v with
  | .ref a => .ref (b + a)
  | .retAddr a => .ref a
  | v => v
theorem xcv_cat (b : Nat) (v : Value) : (xcv b v).category = v.category := by cases v <;> rfl
theorem xcat_eq (b : Nat) : ∀ st : List Value, ((st.map (xcv b)).map fun v => v.category).sum = xcat st
  | [] => rfl
  | v :: st => by
    have h := xcat_eq b st
    simp only [List.map_cons, List.sum_cons, xcat, xcv_cat]
    rw [h]
def xtys (dA : Nat → ClassId) : List (ClassId × FieldType) := [(dA 0, .int), (dA 1, .long), (dA 2, .boolean), (dA 3, .object "MastWind$Piece"), (dA 4, .object "MastWind$Rope"), (dA 5, .object "MastWind$Shelf"), (dA 6, .array .int)]
def xval (b : Nat) (ex : Bool) (M : xM) (a kd k : Nat) : Value := match kd with
  | 1 => .long (gJ M a k)
  | 2 => xcv b (xrf (xpr ex M a k))
  | _ => .int (gI M a k)
def xfs (b : Nat) (ex : Bool) (M : xM) (a : Nat) (ks : List Nat) : List Value := ks.zipIdx.map (fun q => xval b ex M a q.1 q.2)
def xqs (b : Nat) (ex : Bool) (M : xM) (a : Nat) : Nat → Option Nat := fun j => (xpr ex M a j).map (fun q => b + q)
def xav (b : Nat) (ex : Bool) (M : xM) (a kd : Nat) : (Nat → Int32) ⊕ (Nat → Int64) ⊕ (Nat → UInt32) ⊕ (Nat → UInt64) ⊕ (Nat → Option Nat) := match kd with
  | 0 => .inl (gI M a)
  | 1 => .inr (.inl (gJ M a))
  | 2 => .inl (gI M a)
  | _ => .inr (.inr (.inr (.inr (xqs b ex M a))))
def xcell (b : Nat) (dA : Nat → ClassId) (ex : Bool) (M : xM) (a : Nat) (e : xE) : va_E := match e with
  | .inl c => .inr (c, xfs b ex M a (xks.getD c []))
  | .inr (kd, len) => .inl (dA kd, len, xav b ex M a kd)
def xws (κ : xKK) (ex : Bool) (M : xM) (n : Nat) : va_W := (List.range n).map (fun a => (κ.2.1 + a, xcell κ.2.1 κ.2.2.2 ex M a (shp.getD a (.inl 0))))
theorem xws_at {κ : xKK} {ex : Bool} {M : xM} {n a : Nat} {e : xE} (ha : a < n) (he : shp[a]? = some e) : (xws κ ex M n)[a]? = some (κ.2.1 + a, xcell κ.2.1 κ.2.2.2 ex M a e) := by
  unfold xws
  rw [List.getElem?_map, List.getElem?_range ha]
  simp only [Option.map_some, List.getD_eq_getElem?_getD, he, Option.getD_some]
theorem xws_inv {κ : xKK} {ex : Bool} {M : xM} {n k : Nat} {q : Nat × va_E} (h : (xws κ ex M n)[k]? = some q) : k < n ∧ q = (κ.2.1 + k, xcell κ.2.1 κ.2.2.2 ex M k (shp.getD k (.inl 0))) := by
  unfold xws at h
  rw [List.getElem?_map] at h
  by_cases hk : k < n
  · rw [List.getElem?_range hk] at h
    exact ⟨hk, (Option.some.inj h).symm⟩
  · rw [List.getElem?_eq_none (by simp; omega)] at h
    cases h
theorem xwsD (κ : xKK) (ex : Bool) (M : xM) (n : Nat) : va_D (fun q => κ.2.1 ≤ q) (xws κ ex M n) := by
  refine ⟨fun i j p q hi hj h => ?_, fun k q hk => ?_⟩
  · have h1 := (xws_inv hi).2
    have h2 := (xws_inv hj).2
    subst h1; subst h2
    exact Nat.add_left_cancel h
  · have h1 := (xws_inv hk).2
    subst h1
    exact Nat.le_add_right _ _
theorem xws_set {κ : xKK} {ex : Bool} {M M' : xM} {n a : Nat} {e : xE} {x : va_E} (ha : a < n) (he : shp[a]? = some e) (hx : x = xcell κ.2.1 κ.2.2.2 ex M' a e) (ho : ∀ a' : Nat, a' ≠ a → ∀ e', xcell κ.2.1 κ.2.2.2 ex M' a' e' = xcell κ.2.1 κ.2.2.2 ex M a' e') : (xws κ ex M n).set a (κ.2.1 + a, x) = xws κ ex M' n := by
  subst hx
  apply List.ext_getElem?
  intro j
  rw [List.getElem?_set]
  by_cases hj : a = j
  · subst hj
    have hl : a < (xws κ ex M n).length := by simp [xws, ha]
    rw [if_pos rfl, if_pos hl, xws_at ha he]
  · rw [if_neg hj]
    unfold xws
    rw [List.getElem?_map, List.getElem?_map]
    by_cases hn : j < n
    · rw [List.getElem?_range hn]
      simp [ho j (fun e => hj e.symm)]
    · rw [List.getElem?_eq_none (by simp; omega)]
      rfl
theorem xfk_at {c k d : Nat} (h : xfk c k = d) (hd : d ≠ 9) : (xks.getD c [])[k]? = some d := by
  unfold xfk at h
  rw [List.getD_eq_getElem?_getD (l := xks.getD c [])] at h
  cases hq : (xks.getD c [])[k]? with
  | none => rw [hq] at h; exact absurd h.symm hd
  | some y => rw [hq] at h; exact congrArg some h
theorem xfs_at {b : Nat} {ex : Bool} {M : xM} {a k d : Nat} {ks : List Nat} (h : ks[k]? = some d) : (xfs b ex M a ks)[k]? = some (xval b ex M a d k) := by
  unfold xfs
  rw [List.getElem?_map, List.getElem?_zipIdx, h]
  simp
theorem xfs_len {b : Nat} {ex : Bool} {M : xM} {a : Nat} {ks : List Nat} : (xfs b ex M a ks).length = ks.length := by simp [xfs]
theorem xfs_set {b : Nat} {ex : Bool} {M M' : xM} {a k d : Nat} {ks : List Nat} {x : Value} (h : ks[k]? = some d) (hx : xval b ex M' a d k = x) (ho : ∀ j d', j ≠ k → xval b ex M' a d' j = xval b ex M a d' j) : (xfs b ex M a ks).set k x = xfs b ex M' a ks := by
  apply List.ext_getElem?
  intro j
  rw [List.getElem?_set]
  by_cases hj : k = j
  · subst hj
    have hl : k < (xfs b ex M a ks).length := by rw [xfs_len]; exact (List.getElem?_eq_some_iff.mp h).1
    rw [if_pos rfl, if_pos hl, xfs_at h, hx]
  · rw [if_neg hj]
    cases hq : ks[j]? with
    | none =>
      have h1 : ∀ M0, (xfs b ex M0 a ks)[j]? = none := fun M0 => List.getElem?_eq_none (by rw [xfs_len]; exact List.getElem?_eq_none_iff.mp hq)
      rw [h1, h1]
    | some d' => rw [xfs_at hq, xfs_at hq, ho j d' (fun e => hj e.symm)]
theorem beq_ne {a b : Nat} (h : a ≠ b) : Nat.beq a b = false := by
  cases hb : Nat.beq a b with
  | false => rfl
  | true => exact absurd (Nat.eq_of_beq_eq_true hb) h
theorem beq_rf (a : Nat) : Nat.beq a a = true := Nat.beq_refl a
theorem gI_self (M : xM) (a k : Nat) (v : Int32) : gI (sI M a k v) a k = v := by simp [gI, sI, beq_rf]
theorem gI_ne {M : xM} {a k a' k' : Nat} {v : Int32} (h : a' ≠ a ∨ k' ≠ k) : gI (sI M a k v) a' k' = gI M a' k' := by
  rcases h with h | h <;> simp [gI, sI, beq_ne h]
theorem gJ_self (M : xM) (a k : Nat) (v : Int64) : gJ (sJ M a k v) a k = v := by simp [gJ, sJ, beq_rf]
theorem gJ_ne {M : xM} {a k a' k' : Nat} {v : Int64} (h : a' ≠ a ∨ k' ≠ k) : gJ (sJ M a k v) a' k' = gJ M a' k' := by
  rcases h with h | h <;> simp [gJ, sJ, beq_ne h]
theorem gP_self (M : xM) (a k : Nat) (v : Option Nat) : gP (sP M a k v) a k = v := by simp [gP, sP, beq_rf]
theorem gP_ne {M : xM} {a k a' k' : Nat} {v : Option Nat} (h : a' ≠ a ∨ k' ≠ k) : gP (sP M a k v) a' k' = gP M a' k' := by
  rcases h with h | h <;> simp [gP, sP, beq_ne h]
theorem xpr_ne {ex : Bool} {M : xM} {a k a' k' : Nat} {v : Option Nat} (h : a' ≠ a ∨ k' ≠ k) : xpr ex (sP M a k v) a' k' = xpr ex M a' k' := by
  unfold xpr; rw [gP_ne h]
theorem xpr_self {ex : Bool} {M : xM} {a k : Nat} {v : Option Nat} (h : (ex || xdyn a k) = true) : xpr ex (sP M a k v) a k = v := by
  unfold xpr
  rw [gP_self]
  cases ex
  · rw [Bool.false_or] at h; rw [h]; rfl
  · rfl
/-- two memories that differ in no cell but one -/
def xOff (ex : Bool) (M M' : xM) (a : Nat) : Prop := ∀ a' k : Nat, a' ≠ a → gI M' a' k = gI M a' k ∧ gJ M' a' k = gJ M a' k ∧ xpr ex M' a' k = xpr ex M a' k
theorem xval_off {b : Nat} {ex : Bool} {M M' : xM} {a' k d : Nat} (h : gI M' a' k = gI M a' k ∧ gJ M' a' k = gJ M a' k ∧ xpr ex M' a' k = xpr ex M a' k) : xval b ex M' a' d k = xval b ex M a' d k := by
  unfold xval
  rw [h.1, h.2.1, h.2.2]
theorem xcell_off {b : Nat} {dA : Nat → ClassId} {ex : Bool} {M M' : xM} {a : Nat} (h : xOff ex M M' a) (a' : Nat) (ha : a' ≠ a) (e : xE) : xcell b dA ex M' a' e = xcell b dA ex M a' e := by
  have hI : gI M' a' = gI M a' := funext fun k => (h a' k ha).1
  have hJ : gJ M' a' = gJ M a' := funext fun k => (h a' k ha).2.1
  have hq : xqs b ex M' a' = xqs b ex M a' := funext fun k => by unfold xqs; rw [(h a' k ha).2.2]
  rcases e with c | ⟨kd, len⟩
  · have hf : xfs b ex M' a' (xks.getD c []) = xfs b ex M a' (xks.getD c []) := List.map_congr_left (fun q _ => xval_off (h a' q.2 ha))
    unfold xcell
    dsimp only
    rw [hf]
  · unfold xcell xav
    dsimp only
    rw [hI, hJ, hq]
theorem xOff_I {ex : Bool} {M : xM} {a k : Nat} {v : Int32} : xOff ex M (sI M a k v) a := fun _ _ h => ⟨gI_ne (Or.inl h), rfl, rfl⟩
theorem xOff_J {ex : Bool} {M : xM} {a k : Nat} {v : Int64} : xOff ex M (sJ M a k v) a := fun _ _ h => ⟨rfl, gJ_ne (Or.inl h), rfl⟩
theorem xOff_P {ex : Bool} {M : xM} {a k : Nat} {v : Option Nat} : xOff ex M (sP M a k v) a := fun _ _ h => ⟨rfl, rfl, xpr_ne (Or.inl h)⟩
theorem xOff_C {ex : Bool} {M : xM} {a i b j n : Nat} : xOff ex M (sC M a i b j n) b := fun a' _ h => ⟨by simp [gI, sC, beq_ne h], rfl, rfl⟩
/-- the locals -/
def xLR (b : Nat) (ls : Array Slot) (nL : Nat) (L : xLc) : Prop := ∃ lv : List (Nat × Value), lv_has ls nL lv ∧ ∀ i v, xget L i = some v → (i, xcv b v) ∈ lv
theorem xget_nil (i : Nat) : xget [] i = none := by simp [xget]
theorem xget_0 (a : Option Value) (l : xLc) : xget (a :: l) 0 = a := by simp [xget]
theorem xget_s (a : Option Value) (l : xLc) (i : Nat) : xget (a :: l) (i + 1) = xget l i := by simp [xget]
theorem xget_ne : ∀ (L : xLc) (i j : Nat) (o : Option Value), j ≠ i → xget (xset L i o) j = xget L j
  | [], _, _, _, _ => by simp [xset]
  | _ :: l, 0, 0, _, h => absurd rfl h
  | _ :: l, 0, j + 1, _, _ => by rw [xset, xget_s, xget_s]
  | _ :: l, i + 1, 0, _, _ => by rw [xset, xget_0, xget_0]
  | _ :: l, i + 1, j + 1, o, h => by rw [xset, xget_s, xget_s]; exact xget_ne l i j o (fun e => h (by rw [e]))
theorem xget_self : ∀ (L : xLc) (i : Nat) (o : Option Value) (w : Value), xget (xset L i o) i = some w → o = some w
  | [], _, _, _, h => by rw [xset, xget_nil] at h; cases h
  | _ :: l, 0, o, _, h => by rw [xset, xget_0] at h; exact h
  | _ :: l, i + 1, o, w, h => by rw [xset, xget_s] at h; exact xget_self l i o w h
theorem xkill_get {L : xLc} {i j : Nat} {w : Value} (h : xget (xkill L i) j = some w) : xget L j = some w ∧ ¬ (j + 1 = i ∧ w.category = 2) := by
  cases i with
  | zero => exact ⟨h, fun q => by omega⟩
  | succ i0 =>
    unfold xkill at h
    dsimp only at h
    by_cases e : j = i0
    · subst e
      split at h
      · exact absurd (xget_self _ _ _ _ h) (by intro q; cases q)
      · exact absurd (xget_self _ _ _ _ h) (by intro q; cases q)
      · rename_i h1 h2
        refine ⟨h, fun q => ?_⟩
        cases w with
        | long x => exact h1 x h
        | double x => exact h2 x h
        | _ => exact absurd q.2 (by simp [Value.category])
    · have h2 : xget L j = some w := by
        split at h
        · rwa [xget_ne _ _ _ _ e] at h
        · rwa [xget_ne _ _ _ _ e] at h
        · exact h
      exact ⟨h2, fun q => e (by omega)⟩
theorem xLR_s1 {b nL i : Nat} {ls' : Array Slot} {lv : List (Nat × Value)} {L : xLc} {v : Value} (h2 : ∀ j w, xget L j = some w → (j, xcv b w) ∈ lv) (h' : lv_has ls' nL ((i, xcv b v) :: lv.filter (fun q => !(q.1 == i) && !(q.1 + 1 == i && q.2.category == 2)))) : xLR b ls' nL (xsto1 L i v) := by
  refine ⟨_, h', fun j w h => ?_⟩
  unfold xsto1 at h
  by_cases e : j = i
  · subst e
    have := xget_self _ _ _ _ h
    cases this
    exact List.mem_cons_self
  · rw [xget_ne _ _ _ _ e] at h
    obtain ⟨h3, h4⟩ := xkill_get h
    refine List.mem_cons_of_mem _ (List.mem_filter.mpr ⟨h2 j w h3, ?_⟩)
    simp only [Bool.and_eq_true, Bool.not_eq_true', beq_eq_false_iff_ne, Bool.and_eq_false_iff, xcv_cat]
    refine ⟨e, ?_⟩
    by_cases q : j + 1 = i
    · exact Or.inr (fun z => h4 ⟨q, z⟩)
    · exact Or.inl q
theorem xLR_s2 {b nL i : Nat} {ls' : Array Slot} {lv : List (Nat × Value)} {L : xLc} {v : Value} (h2 : ∀ j w, xget L j = some w → (j, xcv b w) ∈ lv) (h' : lv_has ls' nL ((i, xcv b v) :: lv.filter (fun q => !(q.1 == i) && (!(q.1 == i + 1) && !(q.1 + 1 == i && q.2.category == 2))))) : xLR b ls' nL (xsto2 L i v) := by
  refine ⟨_, h', fun j w h => ?_⟩
  unfold xsto2 at h
  by_cases e : j = i
  · subst e
    have := xget_self _ _ _ _ h
    cases this
    exact List.mem_cons_self
  · rw [xget_ne _ _ _ _ e] at h
    by_cases e2 : j = i + 1
    · subst e2
      exact absurd (xget_self _ _ _ _ h) (by intro q; cases q)
    · rw [xget_ne _ _ _ _ e2] at h
      obtain ⟨h3, h4⟩ := xkill_get h
      refine List.mem_cons_of_mem _ (List.mem_filter.mpr ⟨h2 j w h3, ?_⟩)
      simp only [Bool.and_eq_true, Bool.not_eq_true', beq_eq_false_iff_ne, Bool.and_eq_false_iff, xcv_cat]
      refine ⟨e, e2, ?_⟩
      by_cases q : j + 1 = i
      · exact Or.inr (fun z => h4 ⟨q, z⟩)
      · exact Or.inl q
theorem xLR_get {b nL i : Nat} {ls : Array Slot} {L : xLc} {v : Value} (h : xLR b ls nL L) (hv : xget L i = some v) : ls[i]? = some (.val (xcv b v)) := by
  obtain ⟨lv, h1, h2⟩ := h
  exact h1.2.2 _ (h2 i v hv)
/-- which classes there are, with what a program decides of them -/
def xrT (t : FieldType) : Bool := match t with
  | .object _ => true
  | .array _ => true
  | _ => false
def xckC (c : Nat) (n : Nat) (ty : Nat → FieldType) : Bool := (List.range n).all fun k => match xfk c k with
  | 0 => decide (ty k = .int)
  | 1 => decide (ty k = .long)
  | 2 => xrT (ty k)
  | 3 => decide (ty k = .boolean)
  | _ => false
def xGood (c : Nat) (C : String) (T : u_T) (n : Nat) : Prop := (∀ w ∈ u_ws C T n, w ∈ GW) ∧ (∀ a, a < n → ∀ b, b < n → a ≠ b → (T a).2.1 ≠ (T b).2.1) ∧ (xks.getD c []).length = n ∧ ∃ ty : Nat → FieldType, (∀ k, k < n → parseFieldDescriptor (T k).2.2.1 = some (ty k)) ∧ xckC c n ty = true
theorem xin0 {C : String} {T : u_T} {n : Nat} (h : (u_ws C T n).all (fun w => lw_tbl.contains w && goodWord w) = true) : ∀ w ∈ u_ws C T n, w ∈ GW := fun w hw => by
  have h1 := List.all_eq_true.mp h w hw
  rw [Bool.and_eq_true] at h1
  exact List.mem_filter.mpr ⟨List.contains_iff_mem.mp h1.1, h1.2⟩
theorem xg0 : xGood 0 RX0 TX0 6 := ⟨xin0 (by decide +kernel), nmX0, by decide +kernel, tyX0, tyX0_ok, by decide +kernel⟩
theorem xg1 : xGood 1 RX1 TX1 10 := ⟨xin0 (by decide +kernel), nmX1, by decide +kernel, tyX1, tyX1_ok, by decide +kernel⟩
theorem xg2 : xGood 2 RX2 TX2 4 := ⟨xin0 (by decide +kernel), nmX2, by decide +kernel, tyX2, tyX2_ok, by decide +kernel⟩
theorem xg3 : xGood 3 RX3 TX3 8 := ⟨xin0 (by decide +kernel), nmX3, by decide +kernel, tyX3, tyX3_ok, by decide +kernel⟩
theorem xg4 : xGood 4 RX4 TX4 8 := ⟨xin0 (by decide +kernel), nmX4, by decide +kernel, tyX4, tyX4_ok, by decide +kernel⟩
theorem xg5 : xGood 5 RX5 TX5 7 := ⟨xin0 (by decide +kernel), nmX5, by decide +kernel, tyX5, tyX5_ok, by decide +kernel⟩
theorem xg6 : xGood 6 RX6 TX6 10 := ⟨xin0 (by decide +kernel), nmX6, by decide +kernel, tyX6, tyX6_ok, by decide +kernel⟩
theorem xg7 : xGood 7 RX7 TX7 4 := ⟨xin0 (by decide +kernel), nmX7, by decide +kernel, tyX7, tyX7_ok, by decide +kernel⟩
theorem xg8 : xGood 8 RX8 TX8 5 := ⟨xin0 (by decide +kernel), nmX8, by decide +kernel, tyX8, tyX8_ok, by decide +kernel⟩
theorem xg9 : xGood 9 RX9 TX9 3 := ⟨xin0 (by decide +kernel), nmX9, by decide +kernel, tyX9, tyX9_ok, by decide +kernel⟩
theorem xg10 : xGood 10 RX10 TX10 9 := ⟨xin0 (by decide +kernel), nmX10, by decide +kernel, tyX10, tyX10_ok, by decide +kernel⟩
theorem xg11 : xGood 11 RX11 TX11 14 := ⟨xin0 (by decide +kernel), nmX11, by decide +kernel, tyX11, tyX11_ok, by decide +kernel⟩
theorem xg12 : xGood 12 RX12 TX12 32 := ⟨xin0 (by decide +kernel), nmX12, by decide +kernel, tyX12, tyX12_ok, by decide +kernel⟩
theorem xgood {c n : Nat} {C : String} {T : u_T} (h : vwCl[c]? = some (C, T, n)) : xGood c C T n := by
  match c, h with
  | 0, h => cases h; exact xg0
  | 1, h => cases h; exact xg1
  | 2, h => cases h; exact xg2
  | 3, h => cases h; exact xg3
  | 4, h => cases h; exact xg4
  | 5, h => cases h; exact xg5
  | 6, h => cases h; exact xg6
  | 7, h => cases h; exact xg7
  | 8, h => cases h; exact xg8
  | 9, h => cases h; exact xg9
  | 10, h => cases h; exact xg10
  | 11, h => cases h; exact xg11
  | 12, h => cases h; exact xg12
  | c + 13, h => simp [vwCl] at h
theorem xgood_k {c n k : Nat} {ty : Nat → FieldType} (h : xckC c n ty = true) (hk : k < n) : (xfk c k = 0 → ty k = .int) ∧ (xfk c k = 1 → ty k = .long) ∧ (xfk c k = 2 → xrT (ty k) = true) ∧ (xfk c k = 3 → ty k = .boolean) := by
  have h1 := List.all_eq_true.mp h k (List.mem_range.mpr hk)
  refine ⟨fun q => ?_, fun q => ?_, fun q => ?_, fun q => ?_⟩ <;> rw [q] at h1 <;> first | exact h1 | exact of_decide_eq_true h1
/-! ===== a state of the machine, and what the law's machine does from it ===== -/
def xckL (m : xMI) : Bool := m.2.2.2.all fun q => q.2.all fun r => match r.2.1 with
  | .istore_n _ => Nat.blt r.2.2.2.1.1 m.2.1.1
  | .istore _ => Nat.blt r.2.2.2.1.1 m.2.1.1
  | .astore_n _ => Nat.blt r.2.2.2.1.1 m.2.1.1
  | .astore _ => Nat.blt r.2.2.2.1.1 m.2.1.1
  | .iinc _ _ => Nat.blt r.2.2.2.1.1 m.2.1.1
  | .lstore_n _ => Nat.blt (r.2.2.2.1.1 + 1) m.2.1.1
  | .lstore _ => Nat.blt (r.2.2.2.1.1 + 1) m.2.1.1
  | .putfield _ => (match vwCl[r.2.2.2.1.1]? with
    | some (_, T, _) => !(T r.2.2.2.1.2.1).2.2.2 || (decide (m.1.2.1.name = "<init>") && decide ((T r.2.2.2.1.2.1).1 = m.1.1))
    | none => false)
  | _ => true
abbrev xRm : Type := Nat × Nat × Nat
def xC (κ : xKK) (m : xMI) (r : xRm) (p : Program) (e : Env) (R : Room) (s : State) (me : MethodId) (args : Array Value) (below : List Frame) (meth : Method) (c : Code) : Prop :=
  p.tables.exec = Jvm.exec ∧ c.code = m.1.2.2 ∧ c.maxLocals = m.2.1.1 ∧ s.vm.findClass m.1.1 = some me.cls ∧ (∀ w ∈ GW, w.before args s = true) ∧ va_K κ.2.2.1 vwCl (xtys κ.2.2.2) s ∧ r.1 + 1 ≤ R.frames ∧ 40 * (r.1 + 1) ≤ R.locals ∧ r.2.1 ≤ R.cells ∧ r.2.2 ≤ R.slots ∧ κ.2.1 ≤ s.heap.size ∧ (m.1.2.1.name = "<init>" → meth.name = "<init>") ∧ xckI m = true ∧ xckL m = true
/-- the machine at a state, with what is still to come -/
def xA (κ : xKK) (m : xMI) (r : xRm) (p : Program) (e : Env) (R : Room) (s : State) (me : MethodId) (args : Array Value) (below : List Frame) (meth : Method) (c : Code) (Q : State → Prop) (X : xX) : Prop :=
  ∀ (H : Heap) (locs : List Loc) (ls : Array Slot), va_P κ.2.2.1 vwCl (xws κ X.2.2.2.2.2.1 X.2.2.2.1 X.2.2.2.2.1) H → (X.2.2.2.2.2.1 = true → s.heap.size + X.2.2.2.2.2.2.1 = κ.2.1 + X.2.2.2.2.1) → va_S (fun q => κ.2.1 ≤ q) s.heap H locs → xLR κ.2.1 ls m.2.1.1 X.2.1 → X.2.2.2.2.2.2.1 ≤ r.2.1 → X.2.2.2.2.2.2.2 ≤ r.2.2 →
    W p κ.1 e R s me args below meth c H locs X.2.2.2.2.2.2.1 X.2.2.2.2.2.2.2 Q (F0 me X.1 ls (X.2.2.1.map (xcv κ.2.1)))
/-- from X the machine comes to a state of YS -/
def xG (κ : xKK) (m : xMI) (r : xRm) (X : xX) (YS : xX → Prop) : Prop :=
  ∀ (p : Program) (e : Env) (R : Room) (s : State) (me : MethodId) (args : Array Value) (below : List Frame) (meth : Method) (c : Code) (Q : State → Prop), xC κ m r p e R s me args below meth c → (∀ Y, YS Y → xA κ m r p e R s me args below meth c Q Y) → xA κ m r p e R s me args below meth c Q X
theorem xG_done {κ : xKK} {m : xMI} {r : xRm} {X : xX} {YS : xX → Prop} (h : YS X) : xG κ m r X YS := fun _ _ _ _ _ _ _ _ _ _ _ hY => hY X h
theorem xG_trans {κ : xKK} {m : xMI} {r : xRm} {X : xX} {Y1 YS : xX → Prop} (h : xG κ m r X Y1) (k : ∀ Y, Y1 Y → xG κ m r Y YS) : xG κ m r X YS :=
  fun p e R s me args below meth c Q hC hY => h p e R s me args below meth c Q hC (fun Y h1 => k Y h1 p e R s me args below meth c Q hC hY)
theorem xlk_in : ∀ {l : List (Nat × xI)} {n : Nat} {e : xI}, xlk l n = some e → (n, e) ∈ l
  | [], _, _, h => by simp [xlk] at h
  | (k, f) :: l, n, e, h => by
    rw [xlk] at h
    cases hb : Nat.beq k n with
    | true =>
      rw [hb] at h
      have h1 : k = n := Nat.eq_of_beq_eq_true hb
      subst h1
      cases h
      exact List.mem_cons_self
    | false =>
      rw [hb] at h
      exact List.mem_cons_of_mem _ (xlk_in h)
theorem xlkk_in : ∀ {l : List (Nat × List (Nat × xI))} {n : Nat} {e : xI}, xlkk l n = some e → ∃ q ∈ l, (n, e) ∈ q.2
  | [], _, _, h => by simp [xlkk] at h
  | (k, f) :: l, n, e, h => by
    rw [xlkk] at h
    cases hb : Nat.ble n k with
    | true =>
      rw [hb] at h
      exact ⟨_, List.mem_cons_self, xlk_in h⟩
    | false =>
      rw [hb] at h
      obtain ⟨q, h1, h2⟩ := xlkk_in (l := l) h
      exact ⟨q, List.mem_cons_of_mem _ h1, h2⟩
theorem xat_ck {m : xMI} {pc : Nat} {e : xI} (h : xat m pc = some e) (hc : xckI m = true) : xckE m.1.1 m.1.2.2 pc e = true := by
  obtain ⟨q, h1, h2⟩ := xlkk_in h
  exact List.all_eq_true.mp (List.all_eq_true.mp hc q h1) _ h2
def xckS (ins : Instr) : Bool := match ins with
  | .tableswitch _ _ _ _ => false
  | .lookupswitch _ _ => false
  | _ => true
theorem xck_d {own : String} {by' : ByteArray} {pc : Nat} {ins : Instr} {nx a b c : Nat} {v : Int32} {w : Int64} (h : xckE own by' pc (ins, nx, (a, b, c), v, w) = true) (hs : xckS ins = true) : decode by' pc = .ok (ins, xil ins) ∧ nx = pc + xil ins ∧ xckO own by' pc ins nx a b c v w = true := by
  have h1 : ((decide (decode by' pc = .ok (ins, xil ins)) && Nat.beq nx (pc + xil ins)) && xckO own by' pc ins nx a b c v w) = true := by
    cases ins <;> first | exact h | exact absurd hs (by intro q; cases q)
  rw [Bool.and_eq_true, Bool.and_eq_true] at h1
  exact ⟨of_decide_eq_true h1.1.1, Nat.eq_of_beq_eq_true h1.1.2, h1.2⟩
theorem xckL_at {m : xMI} {pc : Nat} {e : xI} (h : xat m pc = some e) (hc : xckL m = true) : (match e.1 with
  | .istore_n _ => Nat.blt e.2.2.1.1 m.2.1.1
  | .istore _ => Nat.blt e.2.2.1.1 m.2.1.1
  | .astore_n _ => Nat.blt e.2.2.1.1 m.2.1.1
  | .astore _ => Nat.blt e.2.2.1.1 m.2.1.1
  | .iinc _ _ => Nat.blt e.2.2.1.1 m.2.1.1
  | .lstore_n _ => Nat.blt (e.2.2.1.1 + 1) m.2.1.1
  | .lstore _ => Nat.blt (e.2.2.1.1 + 1) m.2.1.1
  | .putfield _ => (match vwCl[e.2.2.1.1]? with
    | some (_, T, _) => !(T e.2.2.1.2.1).2.2.2 || (decide (m.1.2.1.name = "<init>") && decide ((T e.2.2.1.2.1).1 = m.1.1))
    | none => false)
  | _ => true) = true := by
  obtain ⟨q, h1, h2⟩ := xlkk_in h
  exact List.all_eq_true.mp (List.all_eq_true.mp hc q h1) _ h2
