/-! ===== rules for what makes cells (the beginning: nothing else runs, so a new cell's number is the next one) ===== -/
/-- cell a made blank -/
def zN (M : xM) (a : Nat) : xM := (fun a' k => bif Nat.beq a' a then 0 else M.1 a' k, fun a' k => bif Nat.beq a' a then 0 else M.2.1 a' k, fun a' k => bif Nat.beq a' a then none else M.2.2 a' k)
theorem gIzN (M : xM) (a a' k : Nat) : gI (zN M a) a' k = if a' = a then 0 else gI M a' k := by
  by_cases h : a' = a
  · subst h; simp [gI, zN, beq_rf]
  · rw [if_neg h]; simp [gI, zN, beq_ne h]
theorem gJzN (M : xM) (a a' k : Nat) : gJ (zN M a) a' k = if a' = a then 0 else gJ M a' k := by
  by_cases h : a' = a
  · subst h; simp [gJ, zN, beq_rf]
  · rw [if_neg h]; simp [gJ, zN, beq_ne h]
theorem gPzN (M : xM) (a a' k : Nat) : gP (zN M a) a' k = if a' = a then none else gP M a' k := by
  by_cases h : a' = a
  · subst h; simp [gP, zN, beq_rf]
  · rw [if_neg h]; simp [gP, zN, beq_ne h]
/-- an array of n arrays at a, the n arrays behind it -/
def zG (M : xM) (a n : Nat) : xM := (fun a' k => bif Nat.ble a a' && Nat.ble a' (a + n) then 0 else M.1 a' k, fun a' k => bif Nat.ble a a' && Nat.ble a' (a + n) then 0 else M.2.1 a' k, fun a' k => bif Nat.beq a' a then some (a + 1 + k) else bif Nat.ble a a' && Nat.ble a' (a + n) then none else M.2.2 a' k)
theorem zGb {a n x : Nat} : (Nat.ble a x && Nat.ble x (a + n)) = decide (a ≤ x ∧ x ≤ a + n) := by
  rw [Bool.eq_iff_iff, Bool.and_eq_true, decide_eq_true_iff]
  exact ⟨fun h => ⟨Nat.le_of_ble_eq_true h.1, Nat.le_of_ble_eq_true h.2⟩, fun h => ⟨Nat.ble_eq_true_of_le h.1, Nat.ble_eq_true_of_le h.2⟩⟩
theorem gIzG (M : xM) (a n a' k : Nat) : gI (zG M a n) a' k = if a ≤ a' ∧ a' ≤ a + n then 0 else gI M a' k := by
  show (bif (Nat.ble a a' && Nat.ble a' (a + n)) then 0 else M.1 a' k) = _
  rw [zGb]
  by_cases h : a ≤ a' ∧ a' ≤ a + n
  · rw [if_pos h, decide_eq_true h]; rfl
  · rw [if_neg h, decide_eq_false h]; rfl
theorem gJzG (M : xM) (a n a' k : Nat) : gJ (zG M a n) a' k = if a ≤ a' ∧ a' ≤ a + n then 0 else gJ M a' k := by
  show (bif (Nat.ble a a' && Nat.ble a' (a + n)) then 0 else M.2.1 a' k) = _
  rw [zGb]
  by_cases h : a ≤ a' ∧ a' ≤ a + n
  · rw [if_pos h, decide_eq_true h]; rfl
  · rw [if_neg h, decide_eq_false h]; rfl
theorem gPzG (M : xM) (a n a' k : Nat) : gP (zG M a n) a' k = if a' = a then some (a + 1 + k) else if a ≤ a' ∧ a' ≤ a + n then none else gP M a' k := by
  show (bif Nat.beq a' a then some (a + 1 + k) else bif (Nat.ble a a' && Nat.ble a' (a + n)) then none else M.2.2 a' k) = _
  rw [zGb]
  by_cases h0 : a' = a
  · subst h0; rw [beq_rf, if_pos rfl]; rfl
  · rw [beq_ne h0, if_neg h0]
    by_cases h : a ≤ a' ∧ a' ≤ a + n
    · rw [if_pos h, decide_eq_true h]; rfl
    · rw [if_neg h, decide_eq_false h]; rfl
theorem xoff_cell {b : Nat} {dA : Nat → ClassId} {M M' : xM} {a : Nat} (hI : ∀ k, gI M' a k = gI M a k) (hJ : ∀ k, gJ M' a k = gJ M a k) (hP : ∀ k, gP M' a k = gP M a k) (e : xE) : xcell b dA true M' a e = xcell b dA true M a e := by
  have hX : ∀ k, xpr true M' a k = xpr true M a k := fun k => hP k
  have hI2 : gI M' a = gI M a := funext hI
  have hJ2 : gJ M' a = gJ M a := funext hJ
  have hq : xqs b true M' a = xqs b true M a := funext fun k => by unfold xqs; rw [hX k]
  rcases e with c | ⟨kd, len⟩
  · have hf : xfs b true M' a (xks.getD c []) = xfs b true M a (xks.getD c []) := List.map_congr_left (fun q _ => xval_off ⟨hI q.2, hJ q.2, hX q.2⟩)
    unfold xcell
    dsimp only
    rw [hf]
  · unfold xcell xav
    dsimp only
    rw [hI2, hJ2, hq]
theorem xgrow {κ : xKK} {M M' : xM} {n n' : Nat} {H H1 : Heap} (h1 : va_P κ.2.2.1 vwCl (xws κ true M n) H) (same : ∀ a, a < n → ∀ k, gI M' a k = gI M a k ∧ gJ M' a k = gJ M a k ∧ gP M' a k = gP M a k) (keep : ∀ q, q < H.size → H1[q]? = H[q]?)
    (new : ∀ a, n ≤ a → a < n' → va_at κ.2.2.1 vwCl (κ.2.1 + a, xcell κ.2.1 κ.2.2.2 true M' a (shp.getD a (.inl 0))) H1) : va_P κ.2.2.1 vwCl (xws κ true M' n') H1 := by
  intro k q hq
  obtain ⟨hk, rfl⟩ := xws_inv hq
  by_cases hkn : k < n
  · rw [xoff_cell (fun j => (same k hkn j).1) (fun j => (same k hkn j).2.1) (fun j => (same k hkn j).2.2)]
    exact (h1 k _ (xws_get hkn)).kept (keep _ (h1 k _ (xws_get hkn)).lt)
  · exact new k (by omega) hk
theorem shp_D {a : Nat} {e : xE} (h : shp[a]? = some e) : shp.getD a (.inl 0) = e := by
  rw [List.getD_eq_getElem?_getD, h]; rfl
theorem zN_same {M : xM} {n : Nat} : ∀ a, a < n → ∀ k, gI (zN M n) a k = gI M a k ∧ gJ (zN M n) a k = gJ M a k ∧ gP (zN M n) a k = gP M a k := fun a ha k => ⟨by rw [gIzN, if_neg (by omega)], by rw [gJzN, if_neg (by omega)], by rw [gPzN, if_neg (by omega)]⟩
/-- a blank array -/
theorem xav_n {b n : Nat} {M : xM} {cA : ClassId} {kd len : Nat} {ty : FieldType} (hI : ∀ k, gI M n k = 0) (hJ : ∀ k, gJ M n k = 0) (h : (kd = 0 ∧ ty = .int) ∨ (kd = 1 ∧ ty = .long) ∨ (kd = 2 ∧ ty = .boolean)) : vp_cell cA (len, xav b true M n kd) = arrV cA len (fun _ => defaultValue ty) := by
  have hI2 : gI M n = fun _ => 0 := funext hI
  have hJ2 : gJ M n = fun _ => 0 := funext hJ
  rcases h with ⟨rfl, rfl⟩ | ⟨rfl, rfl⟩ | ⟨rfl, rfl⟩
  · show arrV cA len (fun j => .int (gI M n j)) = _
    rw [hI2]; rfl
  · show arrV cA len (fun j => .long (gJ M n j)) = _
    rw [hJ2]; rfl
  · show arrV cA len (fun j => .int (gI M n j)) = _
    rw [hI2]; rfl
theorem xav_q {b n : Nat} {M : xM} {cA : ClassId} {kd len : Nat} (h : 3 ≤ kd) : vp_cell cA (len, xav b true M n kd) = arrV cA len (fun j => va_rf (xqs b true M n j)) := by
  have hx : xav b true M n kd = .inr (.inr (.inr (.inr (xqs b true M n)))) := by
    unfold xav
    split
    · omega
    · omega
    · omega
    · rfl
  rw [hx]
  rfl
theorem xck_or {c n k : Nat} {ty : Nat → FieldType} (h : xckC c n ty = true) (hk : k < n) : xfk c k = 0 ∨ xfk c k = 1 ∨ xfk c k = 2 ∨ xfk c k = 3 := by
  have h1 := List.all_eq_true.mp h k (List.mem_range.mpr hk)
  generalize xfk c k = d at h1 ⊢
  match d, h1 with
  | 0, _ => exact Or.inl rfl
  | 1, _ => exact Or.inr (Or.inl rfl)
  | 2, _ => exact Or.inr (Or.inr (Or.inl rfl))
  | 3, _ => exact Or.inr (Or.inr (Or.inr rfl))
  | d + 4, h1 => exact absurd h1 (by intro q; cases q)
theorem xdef_ok {b a c j : Nat} {M : xM} {ty : FieldType} (h : (xfk c j = 0 → ty = .int) ∧ (xfk c j = 1 → ty = .long) ∧ (xfk c j = 2 → xrT ty = true) ∧ (xfk c j = 3 → ty = .boolean)) (ho : xfk c j = 0 ∨ xfk c j = 1 ∨ xfk c j = 2 ∨ xfk c j = 3) : defaultValue ty = xval b true (zN M a) a (xfk c j) j := by
  obtain ⟨h0, h1, h2, h3⟩ := h
  rcases ho with g | g | g | g
  · rw [h0 g, g]
    show Value.int 0 = .int (gI (zN M a) a j)
    rw [gIzN, if_pos rfl]
  · rw [h1 g, g]
    show Value.long 0 = .long (gJ (zN M a) a j)
    rw [gJzN, if_pos rfl]
  · have h := h2 g
    rw [g]
    show defaultValue ty = xcv b (xrf (gP (zN M a) a j))
    rw [gPzN, if_pos rfl]
    cases ty <;> first | rfl | exact absurd h (by decide)
  · rw [h3 g, g]
    show Value.int 0 = .int (gI (zN M a) a j)
    rw [gIzN, if_pos rfl]
theorem gw_aci : Cond.arrayClass .int ∈ GW := xw1 (by decide +kernel)
theorem gw_acl : Cond.arrayClass .long ∈ GW := xw1 (by decide +kernel)
theorem gw_acz : Cond.arrayClass .boolean ∈ GW := xw1 (by decide +kernel)
theorem gw_oi : Cond.instanceMethod Lib.objectInit ∈ GW := xw1 (by decide +kernel)
theorem gw_oc : Cond.code Lib.objectInit ⟨#[0xb1]⟩ 1 none ∈ GW := xw1 (by decide +kernel)
section XMAKE
variable {κ : xKK} {m : xMI} {r : xRm} {YS : xX → Prop} {pc nx n k1 k2 : Nat} {L : xLc} {st : List Value} {M : xM} {e1 : (Nat × Nat × Nat) × Int32 × Int64}
theorem xHs {κ : xKK} {p : Program} {e : Env} {R : Room} {s : State} {me : MethodId} {args : Array Value} {below : List Frame} {meth : Method} {c : Code} {H : Heap} {locs : List Loc} {M : xM} {n k1 k2 : Nat} {T : State} (hT : T.heap = H) (X9 : Stand p κ.1 e R s me args below meth c T locs k1 k2) (h1 : va_P κ.2.2.1 vwCl (xws κ true M n) H) (hbig : κ.2.1 ≤ H.size) (h3 : s.heap.size + k1 = κ.2.1 + n) : H.size = κ.2.1 + n := by
  have a1 := X9.heapSize
  rw [hT] at a1
  have a2 := xsz h1 hbig
  omega
set_option maxHeartbeats 1000000 in
/-- new -/
theorem xG_new {cid idx N : Nat} {C : String} {Tt : u_T} (hl : xat m pc = some (.new idx, nx, e1)) (hcl : vwCl[cid]? = some (C, Tt, N)) (hlk : Cond.classLink m.1.1 idx C ∈ GW) (hin : Cond.instantiable C N ∈ GW) (hini : Cond.initialized C ∈ GW) (hs : shp[n]? = some (.inl cid)) (hk1 : k1 + 1 ≤ r.2.1) (hk2 : k2 + N ≤ r.2.2)
    (k : xG κ m r (nx, L, .ref n :: st, zN M n, n + 1, true, k1 + 1, k2 + N) YS) : xG κ m r (pc, L, st, M, n, true, k1, k2) YS := by
  intro p e R s me args below meth c Q hC hY
  have kk := k p e R s me args below meth c Q hC hY
  have he := xat_ck hl hC.2.2.2.2.2.2.2.2.2.2.2.2.1
  obtain ⟨v1, ⟨v2, v3⟩⟩ := e1
  obtain ⟨u1, u2, u3⟩ := v1
  obtain ⟨hd, hnx, -⟩ := xck_d he rfl
  dsimp only [xil] at hd hnx
  obtain ⟨hx, hb, hml, hown, hts, hK, hfr, hlo, hce, hsl, hsz, -, -, -⟩ := hC
  intro H locs ls h1 h3 h4 h5 h6 h7 T hT X9
  dsimp only at h1 h3 h6 h7
  have hHs := xHs hT X9 h1 (Nat.le_trans hsz h4.1) (h3 rfl)
  have hKn := hK.1 cid _ hcl
  obtain ⟨gw, -, glen, ty, gty, gck⟩ := xgood hcl
  subst hnx
  suffices key : W p κ.1 e R s me args below meth c H locs k1 k2 Q (F0 me pc ls (st.map (xcv κ.2.1))) from key T hT X9
  refine W.newcK (g := F0 me pc ls (st.map (xcv κ.2.1))) hx hb hown (hts _ hlk) (hts _ hin) (hts _ hini) rfl hd (Nat.le_trans hk1 hce) (Nat.le_trans hk2 hsl) hKn.2.1 hHs fun H1 kC hkC e1 z1 o1 => ?_
  refine kk H1 locs ls (xgrow (n := n) (n' := n + 1) (M' := zN M n) h1 zN_same (fun q hq => o1 q (by omega)) (fun a ha1 ha2 => ?_)) (fun _ => by have := h3 rfl; show s.heap.size + (k1 + 1) = κ.2.1 + (n + 1); omega) ⟨Nat.le_trans h4.1 (by omega), fun x g1 g2 => (o1 x (by have := h4.1; omega)).trans (h4.2.1 x g1 g2), h4.2.2⟩ h5 hk1 hk2

  have ha : a = n := by omega
  subst ha
  rw [shp_D hs]
  refine ⟨_, hcl, (u_born ty hts gw hKn hkC e1 gty).to fun j hj => ?_⟩
  show defaultValue (ty j) = vp_V (xfs κ.2.1 true (zN M a) a (xks.getD cid [])) j
  have hj2 : j < (xks.getD cid []).length := by rw [glen]; exact hj
  have hq : (xks.getD cid [])[j]? = some ((xks.getD cid [])[j]) := List.getElem?_eq_getElem hj2
  have hf : xfk cid j = (xks.getD cid [])[j] := by unfold xfk; rw [List.getD_eq_getElem?_getD (l := xks.getD cid []), hq]; rfl
  unfold vp_V
  rw [List.getD_eq_getElem?_getD, xfs_at hq, ← hf]
  show defaultValue (ty j) = xval κ.2.1 true (zN M a) a (xfk cid j) j
  exact xdef_ok (xgood_k gck hj) (xck_or gck hj)
set_option maxHeartbeats 1000000 in
/-- newarray -/
theorem xG_na {at' : ArrayType} {kd len : Nat} {ty : FieldType} {x : Int32} (hl : xat m pc = some (.newarray at', nx, e1)) (hs : shp[n]? = some (.inr (kd, len))) (hty : newarray.typeOf at' = ty) (hkd : (kd = 0 ∧ ty = .int) ∨ (kd = 1 ∧ ty = .long) ∨ (kd = 2 ∧ ty = .boolean)) (hx0 : ¬ x < 0) (hxl : x.toNatClampNeg = len) (hlen : len ≤ 60000) (hk1 : k1 + 1 ≤ r.2.1) (hk2 : k2 + len ≤ r.2.2)
    (k : xG κ m r (nx, L, .ref n :: st, zN M n, n + 1, true, k1 + 1, k2 + len) YS) : xG κ m r (pc, L, .int x :: st, M, n, true, k1, k2) YS := by
  intro p e R s me args below meth c Q hC hY
  have kk := k p e R s me args below meth c Q hC hY
  have he := xat_ck hl hC.2.2.2.2.2.2.2.2.2.2.2.2.1
  obtain ⟨v1, ⟨v2, v3⟩⟩ := e1
  obtain ⟨u1, u2, u3⟩ := v1
  obtain ⟨hd, hnx, -⟩ := xck_d he rfl
  dsimp only [xil] at hd hnx
  obtain ⟨hx, hb, hml, hown, hts, hK, hfr, hlo, hce, hsl, hsz, -, -, -⟩ := hC
  intro H locs ls h1 h3 h4 h5 h6 h7 T hT X9
  dsimp only at h1 h3 h6 h7
  have hHs := xHs hT X9 h1 (Nat.le_trans hsz h4.1) (h3 rfl)
  subst hty
  have hcb : len * componentBytes (newarray.typeOf at') ≤ 536870912 := by
    rcases hkd with ⟨-, q⟩ | ⟨-, q⟩ | ⟨-, q⟩ <;> rw [q] <;> simp only [componentBytes] <;> omega
  have harr : (Cond.arrayClass (newarray.typeOf at')).before args s = true := by
    rcases hkd with ⟨-, q⟩ | ⟨-, q⟩ | ⟨-, q⟩ <;> rw [q]
    · exact hts _ gw_aci
    · exact hts _ gw_acl
    · exact hts _ gw_acz
  subst hnx
  suffices key : W p κ.1 e R s me args below meth c H locs k1 k2 Q (F0 me pc ls ((Value.int x :: st).map (xcv κ.2.1))) from key T hT X9
  refine va_newaK (g := F0 me pc ls ((Value.int x :: st).map (xcv κ.2.1))) hx hb harr rfl hd rfl hx0 hxl hcb (Nat.le_trans hk1 hce) (Nat.le_trans hk2 hsl) hHs fun H1 cA e1 z1 o1 hAr hNm => ?_
  refine kk H1 locs ls (xgrow (n := n) (n' := n + 1) (M' := zN M n) h1 zN_same (fun q hq => o1 q (by omega)) (fun a ha1 ha2 => ?_)) (fun _ => by have := h3 rfl; show s.heap.size + (k1 + 1) = κ.2.1 + (n + 1); omega) ⟨Nat.le_trans h4.1 (by omega), fun y g1 g2 => (o1 y (by have := h4.1; omega)).trans (h4.2.1 y g1 g2), h4.2.2⟩ h5 hk1 hk2
  have ha : a = n := by omega
  subst ha
  rw [shp_D hs]
  have hA : cA = κ.2.2.2 kd := by
    rcases hkd with ⟨rfl, q⟩ | ⟨rfl, q⟩ | ⟨rfl, q⟩ <;> rw [q] at hNm
    · exact Option.some.inj (hNm.symm.trans (va_nm_int (hK.2 0 _ rfl).2))
    · exact Option.some.inj (hNm.symm.trans (va_nm_long (hK.2 1 _ rfl).2))
    · exact Option.some.inj (hNm.symm.trans (va_nm_boolean (hK.2 2 _ rfl).2))
  show H1[κ.2.1 + a]? = some (vp_cell (κ.2.2.2 kd) (len, xav κ.2.1 true (zN M a) a kd))
  rw [xav_n (fun j => by rw [gIzN, if_pos rfl]) (fun j => by rw [gJzN, if_pos rfl]) hkd, ← hA]
  exact e1
/-- Object's constructor -/
theorem xG_obj {idx o : Nat} (hl : xat m pc = some (.invokespecial idx, nx, e1)) (hlk : Cond.methodLink m.1.1 idx Lib.objectInit ∈ GW) (hcat : Nat.ble (xcat st) 8 = true) {z : xZ} (k : xG κ m r (nx, L, st, M, z) YS) : xG κ m r (pc, L, .ref o :: st, M, z) YS := by
  intro p e R s me args below meth c Q hC hY
  have kk := k p e R s me args below meth c Q hC hY
  have he := xat_ck hl hC.2.2.2.2.2.2.2.2.2.2.2.2.1
  obtain ⟨v1, ⟨v2, v3⟩⟩ := e1
  obtain ⟨u1, u2, u3⟩ := v1
  obtain ⟨hd, hnx, -⟩ := xck_d he rfl
  dsimp only [xil] at hd hnx
  obtain ⟨hx, hb, hml, hown, hts, hK, hfr, hlo, hce, hsl, hsz, -, -, -⟩ := hC
  intro H locs ls h1 h3 h4 h5 h6 h7
  subst hnx
  have hcat := Nat.le_of_ble_eq_true hcat
  have hls : ls.size = m.2.1.1 := by
    obtain ⟨lv, h, -⟩ := h5
    exact h.1
  exact W.objInit (g := F0 me pc ls ((Value.ref o :: st).map (xcv κ.2.1))) hx hb hown (hts _ hlk) (hts _ gw_oi) (hts _ gw_oc) rfl (hls.trans hml.symm) rfl hd (by omega) (by
    have q := xcat_eq κ.2.1 st
    show 2 * 0 + ((st.map (xcv κ.2.1)).map fun v => v.category).sum + 12 ≤ R.locals
    rw [q]; omega) (kk H locs ls h1 h3 h4 h5 h6 h7)
end XMAKE
