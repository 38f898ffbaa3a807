/-! numbers within their range (the family fb_, of the given laws) -/
theorem fb_rng (x : Int32) : -2147483648 ≤ x.toInt ∧ x.toInt < 2147483648 := by
  have h1 := Int32.le_toInt x
  have h2 := Int32.toInt_lt x
  omega
theorem fb_bmod {z : Int} (h1 : -2147483648 ≤ z) (h2 : z < 2147483648) : z.bmod (2 ^ 32) = z := by
  rw [Int.bmod_eq_of_le (by omega) (by omega)]
theorem fb_addI {x y : Int32} (h1 : -2147483648 ≤ x.toInt + y.toInt) (h2 : x.toInt + y.toInt < 2147483648) : (x + y).toInt = x.toInt + y.toInt := by
  rw [Int32.toInt_add, fb_bmod h1 h2]
theorem fb_subI {x y : Int32} (h1 : -2147483648 ≤ x.toInt - y.toInt) (h2 : x.toInt - y.toInt < 2147483648) : (x - y).toInt = x.toInt - y.toInt := by
  rw [Int32.toInt_sub, fb_bmod h1 h2]
theorem fb_mulI {x y : Int32} (h1 : -2147483648 ≤ x.toInt * y.toInt) (h2 : x.toInt * y.toInt < 2147483648) : (x * y).toInt = x.toInt * y.toInt := by
  rw [Int32.toInt_mul, fb_bmod h1 h2]
theorem fb_negI {x : Int32} (h : x.toInt ≠ -2147483648) : (-x).toInt = -x.toInt := by
  have := fb_rng x
  rw [Int32.toInt_neg, fb_bmod (by omega) (by omega)]
theorem fb_ofI {z : Int} (h1 : -2147483648 ≤ z) (h2 : z < 2147483648) : (Int32.ofInt z).toInt = z := by
  rw [Int32.toInt_ofInt, fb_bmod h1 h2]
theorem fb_asI (x : Int32) : Int32.ofInt x.toInt = x := Int32.ofInt_toInt x
theorem fb_rngL (x : Int64) : -9223372036854775808 ≤ x.toInt ∧ x.toInt < 9223372036854775808 := by
  have h1 := Int64.le_toInt x
  have h2 := Int64.toInt_lt x
  omega
theorem fb_bmodL {z : Int} (h1 : -9223372036854775808 ≤ z) (h2 : z < 9223372036854775808) : z.bmod (2 ^ 64) = z := by
  rw [Int.bmod_eq_of_le (by omega) (by omega)]
theorem fb_addL {x y : Int64} (h1 : -9223372036854775808 ≤ x.toInt + y.toInt) (h2 : x.toInt + y.toInt < 9223372036854775808) : (x + y).toInt = x.toInt + y.toInt := by
  rw [Int64.toInt_add, fb_bmodL h1 h2]
theorem fb_subL {x y : Int64} (h1 : -9223372036854775808 ≤ x.toInt - y.toInt) (h2 : x.toInt - y.toInt < 9223372036854775808) : (x - y).toInt = x.toInt - y.toInt := by
  rw [Int64.toInt_sub, fb_bmodL h1 h2]
theorem fb_mulL {x y : Int64} (h1 : -9223372036854775808 ≤ x.toInt * y.toInt) (h2 : x.toInt * y.toInt < 9223372036854775808) : (x * y).toInt = x.toInt * y.toInt := by
  rw [Int64.toInt_mul, fb_bmodL h1 h2]
/-! ===== cuts of what is narrow already ===== -/

/-! ===== in the running system: 182 cells, none is made ===== -/
abbrev z2 : xZ := (182, false, 0, 0)
/-- a call in the running system -/
def xE2 (κ : xKK) (m : xMI) (d : Nat) (as : List Value) (M : xM) (Post : Option Value → xM → Prop) : Prop := xEv κ m (d, 0, 0) as M 182 false (fun v M' n' => n' = 182 ∧ Post v M')
theorem xE2.imp {κ : xKK} {m : xMI} {d : Nat} {as : List Value} {M : xM} {P1 P2 : Option Value → xM → Prop} (h : xE2 κ m d as M P1) (hi : ∀ v M', P1 v M' → P2 v M') : xE2 κ m d as M P2 := by
  intro p e ha hc hk s me args below hf happ hP hn
  obtain ⟨k, o, h1, h2, h3, ⟨⟨v, M', n', e1, ⟨e2, e3⟩, e4⟩, h5⟩, h6⟩ := h p e ha hc hk s me args below hf happ hP hn
  exact ⟨k, o, h1, h2, h3, ⟨⟨v, M', n', e1, ⟨e2, hi v M' e3⟩, e4⟩, h5⟩, h6⟩
section R2
variable {κ : xKK} {m : xMI} {r : xRm} {pc : Nat} {L : xLc} {M : xM} {e1 : Nat × (Nat × Nat × Nat) × Int32 × Int64} {Post : Option Value → xM → Prop}
theorem r2_i {v : Int32} (h : xat m pc = some (.ireturn, e1)) (hr : m.2.1.2.1 = some .int) (hp : Post (some (.int v)) M) : xG κ m r (pc, L, [.int v], M, z2) (xRet m false (fun v M' n' => n' = 182 ∧ Post v M')) :=
  xG_done ⟨_, h, rfl, Or.inl ⟨rfl, v, .int, rfl, hr, rfl, rfl, hp⟩⟩
theorem r2_z {v : Int32} (h : xat m pc = some (.ireturn, e1)) (hr : m.2.1.2.1 = some .boolean) (hv : v &&& 1 = v) (hp : Post (some (.int v)) M) : xG κ m r (pc, L, [.int v], M, z2) (xRet m false (fun v M' n' => n' = 182 ∧ Post v M')) :=
  xG_done ⟨_, h, rfl, Or.inl ⟨rfl, v, .boolean, rfl, hr, congrArg Value.int hv, rfl, hp⟩⟩
theorem r2_l {v : Int64} (h : xat m pc = some (.lreturn, e1)) (hr : m.2.1.2.1 = some .long) (hp : Post (some (.long v)) M) : xG κ m r (pc, L, [.long v], M, z2) (xRet m false (fun v M' n' => n' = 182 ∧ Post v M')) :=
  xG_done ⟨_, h, rfl, Or.inr (Or.inl ⟨rfl, v, rfl, hr, rfl, hp⟩)⟩
theorem r2_r {a : Nat} {t : FieldType} (h : xat m pc = some (.areturn, e1)) (hr : m.2.1.2.1 = some t) (ht : xrT t = true) (hp : Post (some (.ref a)) M) : xG κ m r (pc, L, [.ref a], M, z2) (xRet m false (fun v M' n' => n' = 182 ∧ Post v M')) :=
  xG_done ⟨_, h, rfl, Or.inr (Or.inr (Or.inl ⟨rfl, some a, t, rfl, hr, ht, rfl, hp⟩))⟩
theorem r2_n {t : FieldType} (h : xat m pc = some (.areturn, e1)) (hr : m.2.1.2.1 = some t) (ht : xrT t = true) (hp : Post (some .null) M) : xG κ m r (pc, L, [.null], M, z2) (xRet m false (fun v M' n' => n' = 182 ∧ Post v M')) :=
  xG_done ⟨_, h, rfl, Or.inr (Or.inr (Or.inl ⟨rfl, none, t, rfl, hr, ht, rfl, hp⟩))⟩
theorem r2_v (h : xat m pc = some (.return_, e1)) (hr : m.2.1.2.1 = none) (hp : Post none M) : xG κ m r (pc, L, [], M, z2) (xRet m false (fun v M' n' => n' = 182 ∧ Post v M')) :=
  xG_done ⟨_, h, rfl, Or.inr (Or.inr (Or.inr ⟨rfl, rfl, hr, rfl, hp⟩))⟩
end R2
theorem xE2_of {κ : xKK} {m : xMI} {d : Nat} {as : List Value} {M : xM} {L : xLc} {Post : Option Value → xM → Prop} (hI : xckI m = true) (hLl : xckL m = true) (hW : xckW m = true) (hwid : Nat.ble (xwid as) m.2.1.1 = true) (hL : xfill m.2.1.1 (xent as) = L)
    (h : xG κ m (d, 0, 0) (0, L, [], M, z2) (xRet m false (fun v M' n' => n' = 182 ∧ Post v M'))) : xE2 κ m d as M Post := xEv_of hI hLl hW hwid hL h
theorem xG_c2 {κ : xKK} {m : xMI} {d d' : Nat} {YS : xX → Prop} {pc nx : Nat} {L L' : xLc} {st st' : List Value} {M M2 : xM} {z' : xZ} (n : Nat) {C : Prop} {j : Nat} {as : List Value} {my : xMI} {Post : Option Value → xM → Prop} (h : xca m (pc, L, st, M, z2) n = some (C, j, as, (nx, L', st', M2, z'))) (hc : C) (hm : mtab[j]? = some my) (hn : my.2.1.2.2.1 = n) (hni : ¬ my.1.2.1.name = "<init>") (hW : xckW my = true) (hE : xE2 κ my d' as M Post) (hd : d' + 1 ≤ d)
    (k : ∀ v M', Post v M' → xG κ m (d, 0, 0) (nx, L', v.toList ++ st', M', z2) YS) : xG κ m (d, 0, 0) (pc, L, st, M, z2) YS :=
  xG_call n h hc hm hn hni hW hE ⟨hd, Nat.le_refl _, Nat.le_refl _⟩ (fun _ _ _ _ q => by cases q) (fun v M' n' hp => by obtain ⟨rfl, hp⟩ := hp; exact k v M' hp)
/-! what the machine asks, of cells that are named by their numbers -/
def xobB (a c n : Nat) : Bool := match shp[a]? with
  | some (.inl c') => Nat.beq c' c && Nat.blt a n
  | _ => false
theorem xob_b {a c n : Nat} (h : xobB a c n = true) : xob a c n := by
  unfold xobB at h
  split at h
  · rename_i c' hs
    rw [Bool.and_eq_true] at h
    have := Nat.eq_of_beq_eq_true h.1
    subst this
    exact ⟨hs, Nat.le_of_ble_eq_true h.2⟩
  · cases h
def xarB (a kd n : Nat) : Bool := match shp[a]? with
  | some (.inr (kd', _)) => Nat.beq kd' kd && Nat.blt a n
  | _ => false
theorem xar_b {a kd n : Nat} {i : Int32} (h : xarB a kd n = true) (l : Nat) (hl : xlen a = l) (h0 : 0 ≤ i.toInt) (h1 : i.toInt < (l : Int)) : xar a kd n i := by
  unfold xarB at h
  split at h
  · rename_i kd' len hs
    rw [Bool.and_eq_true] at h
    have := Nat.eq_of_beq_eq_true h.1
    subst this
    unfold xlen at hl
    rw [hs] at hl
    dsimp only at hl
    subst hl
    exact ⟨len, hs, Nat.le_of_ble_eq_true h.2, h0, h1⟩
  · cases h
theorem nI_ti {j : Nat} (h : j < 2147483648) : (nI j).toInt = (j : Int) := nI_toInt h
/-- the same, the index a number -/
theorem xar_n {a kd n j : Nat} (h : xarB a kd n = true) (l : Nat) (hl : xlen a = l) (h1 : j < l) (hj : j < 2147483648) : xar a kd n (nI j) := xar_b h l hl (by rw [nI_ti hj]; omega) (by rw [nI_ti hj]; omega)
def xqrB (a n : Nat) : Bool := match shp[a]? with
  | some (.inr (kd, _)) => Nat.ble 3 kd && Nat.ble kd 6 && Nat.blt a n
  | _ => false
theorem xqr_b {a n : Nat} {i : Int32} (h : xqrB a n = true) (l : Nat) (hl : xlen a = l) (h0 : 0 ≤ i.toInt) (h1 : i.toInt < (l : Int)) : xqr a n i := by
  unfold xqrB at h
  split at h
  · rename_i kd len hs
    rw [Bool.and_eq_true, Bool.and_eq_true] at h
    unfold xlen at hl
    rw [hs] at hl
    dsimp only at hl
    subst hl
    exact ⟨kd, len, Nat.le_of_ble_eq_true h.1.1, Nat.le_of_ble_eq_true h.1.2, hs, Nat.le_of_ble_eq_true h.2, h0, h1⟩
  · cases h
theorem xqr_n {a n j : Nat} (h : xqrB a n = true) (l : Nat) (hl : xlen a = l) (h1 : j < l) (hj : j < 2147483648) : xqr a n (nI j) := xqr_b h l hl (by rw [nI_ti hj]; omega) (by rw [nI_ti hj]; omega)
def xalB (a n : Nat) : Bool := match shp[a]? with
  | some (.inr (kd, _)) => Nat.ble kd 6 && Nat.blt a n
  | _ => false
theorem xal_b {a n : Nat} (h : xalB a n = true) : xal a n := by
  unfold xalB at h
  split at h
  · rename_i kd len hs
    rw [Bool.and_eq_true] at h
    exact ⟨⟨kd, len, Nat.le_of_ble_eq_true h.1, hs⟩, Nat.le_of_ble_eq_true h.2⟩
  · cases h
theorem nI_cl {j : Nat} (h : j < 2147483648) : (nI j).toNatClampNeg = j := nI_clamp h
/-! the memory, read behind writes -/
theorem gIsI (M : xM) (a k a' k' : Nat) (v : Int32) : gI (sI M a k v) a' k' = if a' = a ∧ k' = k then v else gI M a' k' := by
  by_cases h : a' = a ∧ k' = k
  · obtain ⟨rfl, rfl⟩ := h; rw [gI_self, if_pos ⟨rfl, rfl⟩]
  · rw [if_neg h]
    by_cases h1 : a' = a
    · exact gI_ne (Or.inr (fun q => h ⟨h1, q⟩))
    · exact gI_ne (Or.inl h1)
theorem gJsJ (M : xM) (a k a' k' : Nat) (v : Int64) : gJ (sJ M a k v) a' k' = if a' = a ∧ k' = k then v else gJ M a' k' := by
  by_cases h : a' = a ∧ k' = k
  · obtain ⟨rfl, rfl⟩ := h; rw [gJ_self, if_pos ⟨rfl, rfl⟩]
  · rw [if_neg h]
    by_cases h1 : a' = a
    · exact gJ_ne (Or.inr (fun q => h ⟨h1, q⟩))
    · exact gJ_ne (Or.inl h1)
theorem gPsP (M : xM) (a k a' k' : Nat) (v : Option Nat) : gP (sP M a k v) a' k' = if a' = a ∧ k' = k then v else gP M a' k' := by
  by_cases h : a' = a ∧ k' = k
  · obtain ⟨rfl, rfl⟩ := h; rw [gP_self, if_pos ⟨rfl, rfl⟩]
  · rw [if_neg h]
    by_cases h1 : a' = a
    · exact gP_ne (Or.inr (fun q => h ⟨h1, q⟩))
    · exact gP_ne (Or.inl h1)
theorem gIsJ (M : xM) (a k a' k' : Nat) (v : Int64) : gI (sJ M a k v) a' k' = gI M a' k' := rfl
theorem gIsP (M : xM) (a k a' k' : Nat) (v : Option Nat) : gI (sP M a k v) a' k' = gI M a' k' := rfl
theorem gJsI (M : xM) (a k a' k' : Nat) (v : Int32) : gJ (sI M a k v) a' k' = gJ M a' k' := rfl
theorem gJsP (M : xM) (a k a' k' : Nat) (v : Option Nat) : gJ (sP M a k v) a' k' = gJ M a' k' := rfl
theorem gPsI (M : xM) (a k a' k' : Nat) (v : Int32) : gP (sI M a k v) a' k' = gP M a' k' := rfl
theorem gPsJ (M : xM) (a k a' k' : Nat) (v : Int64) : gP (sJ M a k v) a' k' = gP M a' k' := rfl
theorem gJsC (M : xM) (a i b j n a' k' : Nat) : gJ (sC M a i b j n) a' k' = gJ M a' k' := rfl
theorem gPsC (M : xM) (a i b j n a' k' : Nat) : gP (sC M a i b j n) a' k' = gP M a' k' := rfl
theorem gIsC (M : xM) (a i b j n a' k' : Nat) : gI (sC M a i b j n) a' k' = if a' = b then (if j ≤ k' ∧ k' < j + n then gI M a (i + (k' - j)) else gI M b k') else gI M a' k' := by
  by_cases h : a' = b
  · subst h
    rw [x_cpy, if_pos rfl]
    by_cases h2 : j ≤ k' ∧ k' < j + n
    · rw [if_pos h2, pk_cpy_in h2.1 h2.2]
    · rw [if_neg h2, pk_cpy_out (by omega)]
  · rw [if_neg h]
    exact (xOff_C (ex := false) a' k' h).1
/-- as both sides add numbers up -/
def iSum (f : Nat → Int32) : Nat → Int32
  | 0 => 0
  | n + 1 => iSum f n + f n
theorem iSum_cong {f g : Nat → Int32} : ∀ {n : Nat}, (∀ k, k < n → f k = g k) → iSum f n = iSum g n
  | 0, _ => rfl
  | n + 1, h => by rw [iSum, iSum, iSum_cong (fun k hk => h k (by omega)), h n (by omega)]
def lSum (f : Nat → Int64) : Nat → Int64
  | 0 => 0
  | n + 1 => lSum f n + f n
theorem lSum_cong {f g : Nat → Int64} : ∀ {n : Nat}, (∀ k, k < n → f k = g k) → lSum f n = lSum g n
  | 0, _ => rfl
  | n + 1, h => by rw [lSum, lSum, lSum_cong (fun k hk => h k (by omega)), h n (by omega)]
/-! switches, loops, diamonds -/
section X3
variable {κ : xKK} {m : xMI} {r : xRm} {pc nx a b c' : Nat} {v : Int32} {w : Int64} {L : xLc} {st : List Value} {M : xM} {z : xZ} {X : xX} {YS : xX → Prop}
theorem xG_swI {d lo hi : Int} {offs : Array Int} {x : Int32} (tgt j : Nat) {off : Int} (hl : xat m pc = some (.tableswitch d lo hi offs, nx, (a, b, c'), v, w)) (hx : x.toInt = lo + (j : Int)) (hhi : lo + (j : Int) ≤ hi) (hj : offs[j]? = some off) (ht : (pc : Int) + off = (tgt : Int)) (k : xG κ m r (tgt, L, st, M, z) YS) : xG κ m r (pc, L, .int x :: st, M, z) YS :=
  xG_sw tgt hl (by rw [if_neg (by omega)]; exact ⟨off, by rw [show (x.toInt - lo).toNat = j by omega]; exact hj, ht⟩) k
theorem xG_swO {d lo hi : Int} {offs : Array Int} {x : Int32} (tgt : Nat) (hl : xat m pc = some (.tableswitch d lo hi offs, nx, (a, b, c'), v, w)) (hx : x.toInt < lo ∨ hi < x.toInt) (ht : (pc : Int) + d = (tgt : Int)) (k : xG κ m r (tgt, L, st, M, z) YS) : xG κ m r (pc, L, .int x :: st, M, z) YS :=
  xG_sw tgt hl (by rw [if_pos hx]; exact ht) k
theorem xG_up (X : Nat → xX) (n : Nat) (hs : ∀ j, j < n → xG κ m r (X (j + 1)) YS → xG κ m r (X j) YS) (he : xG κ m r (X n) YS) (j : Nat) (hj : j ≤ n) : xG κ m r (X j) YS := by
  obtain ⟨k, hk⟩ : ∃ k, k = n - j := ⟨_, rfl⟩
  induction k generalizing j with
  | zero =>
    have : j = n := by omega
    subst this
    exact he
  | succ k ih => exact hs j (by omega) (ih (j + 1) (by omega) (by omega))
theorem xG_upP (I : Nat → xX → Prop) (n : Nat) (hs : ∀ j X, j < n → I j X → (∀ X', I (j + 1) X' → xG κ m r X' YS) → xG κ m r X YS) (he : ∀ X, I n X → xG κ m r X YS) (j : Nat) (hj : j ≤ n) (X : xX) (hI : I j X) : xG κ m r X YS := by
  obtain ⟨k, hk⟩ : ∃ k, k = n - j := ⟨_, rfl⟩
  induction k generalizing j X with
  | zero =>
    have : j = n := by omega
    subst this
    exact he X hI
  | succ k ih => exact hs j X (by omega) hI (fun X' hX' => ih (j + 1) (by omega) X' hX' (by omega))
/-- two ways that meet again, and differ in a number -/
theorem xG_dia {α : Type} (F : α → xX) (kt kf : Nat) {cd : Prop} [Decidable cd] {x y : α} {Xt Xf : xX} {Ct Cf : Prop} (h : xbr m X = some (cd, Xt, Xf)) (ht : xrun m kt True Xt = some (Ct, F x)) (hct : cd → Ct) (hf : xrun m kf True Xf = some (Cf, F y)) (hcf : ¬ cd → Cf) (k : xG κ m r (F (if cd then x else y)) YS) : xG κ m r X YS := by
  refine xG_br h (fun q => ?_) (fun q => ?_)
  · rw [if_pos q] at k
    exact xG_run kt ht (hct q) k
  · rw [if_neg q] at k
    exact xG_run kf hf (hcf q) k
end X3
theorem lg_lt0 (x y : Int64) : lg_cmp x y < 0 ↔ x < y := by
  unfold lg_cmp
  by_cases h1 : x > y
  · rw [if_pos h1]
    constructor
    · intro q; exact absurd q (by decide)
    · intro q
      have h1 : y < x := h1
      rw [Int64.lt_iff_toInt_lt] at h1 q
      omega
  · rw [if_neg h1]
    by_cases h2 : x = y
    · rw [if_pos h2]
      constructor
      · intro q; exact absurd q (by decide)
      · intro q
        rw [h2, Int64.lt_iff_toInt_lt] at q
        omega
    · rw [if_neg h2]
      constructor
      · intro _
        have h1 : ¬ y < x := h1
        rw [Int64.lt_iff_toInt_lt] at h1 ⊢
        have : x.toInt ≠ y.toInt := fun q => h2 (Int64.toInt_inj.mp q)
        omega
      · intro _; decide
theorem lg_ge0 (x y : Int64) : 0 ≤ lg_cmp x y ↔ y ≤ x := by
  have h := lg_lt0 x y
  have h1 : 0 ≤ lg_cmp x y ↔ ¬ lg_cmp x y < 0 := by rw [Int32.le_iff_toInt_le, Int32.lt_iff_toInt_lt]; omega
  rw [h1, h, Int64.le_iff_toInt_le, Int64.lt_iff_toInt_lt]; omega
theorem lg_eq0 (x y : Int64) : lg_cmp x y = 0 ↔ x = y := by
  unfold lg_cmp
  by_cases h1 : x > y
  · rw [if_pos h1]
    constructor
    · intro q; exact absurd q (by decide)
    · intro q
      have h1 : y < x := h1
      rw [q, Int64.lt_iff_toInt_lt] at h1
      omega
  · rw [if_neg h1]
    by_cases h2 : x = y
    · rw [if_pos h2]; exact ⟨fun _ => h2, fun _ => rfl⟩
    · rw [if_neg h2]
      constructor
      · intro q; exact absurd q (by decide)
      · intro q; exact absurd q h2
theorem lg_gt0 (x y : Int64) : 0 < lg_cmp x y ↔ y < x := by
  have h1 := lg_lt0 x y
  have h2 := lg_eq0 x y
  have h3 : 0 < lg_cmp x y ↔ ¬ lg_cmp x y < 0 ∧ ¬ lg_cmp x y = 0 := by
    rw [Int32.lt_iff_toInt_lt, Int32.lt_iff_toInt_lt, ← Int32.toInt_inj]; simp only [Int32.toInt_zero]; omega
  rw [h3, h1, h2, Int64.lt_iff_toInt_lt, Int64.lt_iff_toInt_lt, ← Int64.toInt_inj]; omega
theorem lg_le0 (x y : Int64) : lg_cmp x y ≤ 0 ↔ x ≤ y := by
  have h := lg_gt0 x y
  have h1 : lg_cmp x y ≤ 0 ↔ ¬ 0 < lg_cmp x y := by rw [Int32.le_iff_toInt_le, Int32.lt_iff_toInt_lt]; omega
  rw [h1, h, Int64.le_iff_toInt_le, Int64.lt_iff_toInt_lt]; omega
theorem iSum_s {f : Nat → Int32} {n : Nat} {x : Int32} (h : f n = x) : iSum f n + x = iSum f (n + 1) := by rw [iSum, h]
theorem lSum_s {f : Nat → Int64} {n : Nat} {x : Int64} (h : f n = x) : lSum f n + x = lSum f (n + 1) := by rw [lSum, h]
/-- the least number below N with p; N if there is none -/
def fF (p : Nat → Bool) : Nat → Nat
  | 0 => 0
  | n + 1 => if fF p n < n then fF p n else if p n = true then n else n + 1
theorem fF_no {p : Nat → Bool} : ∀ {n : Nat}, (∀ k, k < n → p k = false) → fF p n = n
  | 0, _ => rfl
  | n + 1, h => by rw [fF, fF_no (fun k hk => h k (by omega)), if_neg (by omega), if_neg (by rw [h n (by omega)]; decide)]
theorem fF_at {p : Nat → Bool} {j : Nat} (h : ∀ k, k < j → p k = false) (hj : p j = true) : ∀ {n : Nat}, j < n → fF p n = j
  | 0, q => absurd q (by omega)
  | n + 1, q => by
    by_cases e : j = n
    · subst e; rw [fF, fF_no h, if_neg (by omega), if_pos hj]
    · rw [fF, fF_at h hj (by omega), if_pos (by omega)]
/-- one memory's cells over another's: n fields of b at a -/
def cpM (M : xM) (a b n : Nat) : xM := (fun x k => if x = a ∧ k < n then gI M b k else gI M x k, M.2.1, M.2.2)
theorem xM_ext {M M' : xM} (h1 : ∀ a k, gI M a k = gI M' a k) (h2 : ∀ a k, gJ M a k = gJ M' a k) (h3 : ∀ a k, gP M a k = gP M' a k) : M = M' :=
  Prod.ext (funext fun a => funext fun k => h1 a k) (Prod.ext (funext fun a => funext fun k => h2 a k) (funext fun a => funext fun k => h3 a k))
theorem xG_eq {κ : xKK} {m : xMI} {r : xRm} {X X' : xX} {YS : xX → Prop} (h : X = X') (k : xG κ m r X' YS) : xG κ m r X YS := by rw [h]; exact k
/-- bits, counted as the library counts them -/
def bC (x : Int32) : Int32 :=
  let u : Int32 → Int32 → Int32 := fun x y => (x.toUInt32 >>> (y.toUInt32 &&& Int32.toUInt32 31)).toInt32
  let a := x - (u x 1 &&& 1431655765)
  let b := (a &&& 858993459) + (u a 2 &&& 858993459)
  let c := (b + u b 4) &&& 252645135
  let d := c + u c 8
  let e := d + u d 16
  e &&& 63
def bN (n : Nat) : Nat := (List.range 12).foldl (fun s i => s + n / 2 ^ i % 2) 0
theorem bC_all : (List.range 4096).all (fun n => bC (nI n) == nI (bN n)) = true := by decide +kernel
theorem bC_n {n : Nat} (h : n < 4096) : bC (nI n) = nI (bN n) := eq_of_beq (List.all_eq_true.mp bC_all n (List.mem_range.mpr h))

theorem cl_X0_init : xckL mX0_init = true := by decide +kernel
theorem cl_X0_load : xckL mX0_load = true := by decide +kernel
theorem cl_X0_gather : xckL mX0_gather = true := by decide +kernel
theorem cl_X0_moment : xckL mX0_moment = true := by decide +kernel
theorem cl_X0_restAt : xckL mX0_restAt = true := by decide +kernel
theorem cl_X0_lean : xckL mX0_lean = true := by decide +kernel
theorem cl_X1_init : xckL mX1_init = true := by decide +kernel
theorem cl_X1_takeFrom : xckL mX1_takeFrom = true := by decide +kernel
theorem cl_X1_pieceAt : xckL mX1_pieceAt = true := by decide +kernel
theorem cl_X1_ropeAt : xckL mX1_ropeAt = true := by decide +kernel
theorem cl_X1_readAll : xckL mX1_readAll = true := by decide +kernel
theorem cl_X1_accepts : xckL mX1_accepts = true := by decide +kernel
theorem cl_X1_addPiece : xckL mX1_addPiece = true := by decide +kernel
theorem cl_X1_addRope : xckL mX1_addRope = true := by decide +kernel
theorem cl_X1_pushOn : xckL mX1_pushOn = true := by decide +kernel
theorem cl_X1_pushMoment : xckL mX1_pushMoment = true := by decide +kernel
theorem cl_X1_looseAt : xckL mX1_looseAt = true := by decide +kernel
theorem cl_X1_lowerGust : xckL mX1_lowerGust = true := by decide +kernel
theorem cl_X1_upperGust : xckL mX1_upperGust = true := by decide +kernel
theorem cl_X1_signsBelow : xckL mX1_signsBelow = true := by decide +kernel
theorem cl_X1_leastAbove : xckL mX1_leastAbove = true := by decide +kernel
theorem cl_X1_oddsNoneFalls : xckL mX1_oddsNoneFalls = true := by decide +kernel
theorem cl_X1_icySet : xckL mX1_icySet = true := by decide +kernel
theorem cl_X1_melt : xckL mX1_melt = true := by decide +kernel
theorem cl_X1_wholeRopes : xckL mX1_wholeRopes = true := by decide +kernel
theorem cl_X1_allWeight : xckL mX1_allWeight = true := by decide +kernel
theorem cl_X1_allIce : xckL mX1_allIce = true := by decide +kernel
theorem cl_X2_init : xckL mX2_init = true := by decide +kernel
theorem cl_X2_takeFrom : xckL mX2_takeFrom = true := by decide +kernel
theorem cl_X2_add : xckL mX2_add = true := by decide +kernel
theorem cl_X2_ropeSet : xckL mX2_ropeSet = true := by decide +kernel
theorem cl_X2_priceOf : xckL mX2_priceOf = true := by decide +kernel
theorem cl_X2_strengthen : xckL mX2_strengthen = true := by decide +kernel
theorem cl_X3_init : xckL mX3_init = true := by decide +kernel
theorem cl_X3_takeFrom : xckL mX3_takeFrom = true := by decide +kernel
theorem cl_X3_about : xckL mX3_about = true := by decide +kernel
theorem cl_X3_weight : xckL mX3_weight = true := by decide +kernel
theorem cl_X3_faces : xckL mX3_faces = true := by decide +kernel
theorem cl_X3_wholeHeft : xckL mX3_wholeHeft = true := by decide +kernel
theorem cl_X3_failure : xckL mX3_failure = true := by decide +kernel
theorem cl_X3_sheds : xckL mX3_sheds = true := by decide +kernel
theorem cl_X4_init : xckL mX4_init = true := by decide +kernel
theorem cl_X4_open : xckL mX4_open = true := by decide +kernel
theorem cl_X4_setMarks : xckL mX4_setMarks = true := by decide +kernel
theorem cl_X4_firstOrder : xckL mX4_firstOrder = true := by decide +kernel
theorem cl_X4_leastNext : xckL mX4_leastNext = true := by decide +kernel
theorem cl_X4_isSafe : xckL mX4_isSafe = true := by decide +kernel
theorem cl_X5_init : xckL mX5_init = true := by decide +kernel
theorem cl_X5_takeFrom : xckL mX5_takeFrom = true := by decide +kernel
theorem cl_X5_about : xckL mX5_about = true := by decide +kernel
theorem cl_X5_pullAt : xckL mX5_pullAt = true := by decide +kernel
theorem cl_X6_init : xckL mX6_init = true := by decide +kernel
theorem cl_X6_read : xckL mX6_read = true := by decide +kernel
theorem cl_X6_holds : xckL mX6_holds = true := by decide +kernel
theorem cl_X6_beginOr : xckL mX6_beginOr = true := by decide +kernel
theorem cl_X6_beginTest : xckL mX6_beginTest = true := by decide +kernel
theorem cl_X6_endTest : xckL mX6_endTest = true := by decide +kernel
theorem cl_X6_goOn : xckL mX6_goOn = true := by decide +kernel
theorem cl_X6_holdsAt : xckL mX6_holdsAt = true := by decide +kernel
theorem cl_X6_compares : xckL mX6_compares = true := by decide +kernel
theorem cl_X6_readSum : xckL mX6_readSum = true := by decide +kernel
theorem cl_X6_readAtom : xckL mX6_readAtom = true := by decide +kernel
theorem cl_X6_fieldOf : xckL mX6_fieldOf = true := by decide +kernel
theorem cl_X7_init : xckL mX7_init = true := by decide +kernel
theorem cl_X7_takeFrom : xckL mX7_takeFrom = true := by decide +kernel
theorem cl_X7_add : xckL mX7_add = true := by decide +kernel
theorem cl_X7_toldOnes : xckL mX7_toldOnes = true := by decide +kernel
theorem cl_X7_leastHolding : xckL mX7_leastHolding = true := by decide +kernel
theorem cl_X8_init : xckL mX8_init = true := by decide +kernel
theorem cl_X8_layRow : xckL mX8_layRow = true := by decide +kernel
theorem cl_X8_hasSpan : xckL mX8_hasSpan = true := by decide +kernel
theorem cl_X8_lowestBits : xckL mX8_lowestBits = true := by decide +kernel
theorem cl_X9_init : xckL mX9_init = true := by decide +kernel
theorem cl_X9_measure : xckL mX9_measure = true := by decide +kernel
theorem cl_X9_add : xckL mX9_add = true := by decide +kernel
theorem cl_X10_init : xckL mX10_init = true := by decide +kernel
theorem cl_X10_open : xckL mX10_open = true := by decide +kernel
theorem cl_X10_hasMore : xckL mX10_hasMore = true := by decide +kernel
theorem cl_X10_firstFault : xckL mX10_firstFault = true := by decide +kernel
theorem cl_X10_readStatement : xckL mX10_readStatement = true := by decide +kernel
theorem cl_X10_readNumbers : xckL mX10_readNumbers = true := by decide +kernel
theorem cl_X10_readNumber : xckL mX10_readNumber = true := by decide +kernel
theorem cl_X10_readSide : xckL mX10_readSide = true := by decide +kernel
theorem cl_X10_expect : xckL mX10_expect = true := by decide +kernel
theorem cl_X10_isDigit : xckL mX10_isDigit = true := by decide +kernel
theorem cl_X11_init : xckL mX11_init = true := by decide +kernel
theorem cl_X11_text : xckL mX11_text = true := by decide +kernel
theorem cl_X11_piece : xckL mX11_piece = true := by decide +kernel
theorem cl_X11_rope : xckL mX11_rope = true := by decide +kernel
theorem cl_X11_becomes : xckL mX11_becomes = true := by decide +kernel
theorem cl_X11_tight : xckL mX11_tight = true := by decide +kernel
theorem cl_X11_ice : xckL mX11_ice = true := by decide +kernel
theorem cl_X11_wind : xckL mX11_wind = true := by decide +kernel
theorem cl_X11_share : xckL mX11_share = true := by decide +kernel
theorem cl_X11_push : xckL mX11_push = true := by decide +kernel
theorem cl_X11_rest : xckL mX11_rest = true := by decide +kernel
theorem cl_X11_stand : xckL mX11_stand = true := by decide +kernel
theorem cl_X11_stands : xckL mX11_stands = true := by decide +kernel
theorem cl_X11_pull : xckL mX11_pull = true := by decide +kernel
theorem cl_X11_loose : xckL mX11_loose = true := by decide +kernel
theorem cl_X11_gust : xckL mX11_gust = true := by decide +kernel
theorem cl_X11_gusts : xckL mX11_gusts = true := by decide +kernel
theorem cl_X11_count : xckL mX11_count = true := by decide +kernel
theorem cl_X11_tone : xckL mX11_tone = true := by decide +kernel
theorem cl_X11_shedding : xckL mX11_shedding = true := by decide +kernel
theorem cl_X11_lock : xckL mX11_lock = true := by decide +kernel
theorem cl_X11_odds : xckL mX11_odds = true := by decide +kernel
theorem cl_X11_falls : xckL mX11_falls = true := by decide +kernel
theorem cl_X11_uneven : xckL mX11_uneven = true := by decide +kernel
theorem cl_X11_after : xckL mX11_after = true := by decide +kernel
theorem cl_X11_swings : xckL mX11_swings = true := by decide +kernel
theorem cl_X11_years : xckL mX11_years = true := by decide +kernel
theorem cl_X11_fault : xckL mX11_fault = true := by decide +kernel
theorem cl_X11_rule : xckL mX11_rule = true := by decide +kernel
theorem cl_X11_tell : xckL mX11_tell = true := by decide +kernel
theorem cl_X11_breach : xckL mX11_breach = true := by decide +kernel
theorem cl_X11_climb : xckL mX11_climb = true := by decide +kernel
theorem cl_X11_order : xckL mX11_order = true := by decide +kernel
theorem cl_X11_readBack : xckL mX11_readBack = true := by decide +kernel
theorem cl_X11_offer : xckL mX11_offer = true := by decide +kernel
theorem cl_X11_cheapest : xckL mX11_cheapest = true := by decide +kernel
theorem cl_X11_image : xckL mX11_image = true := by decide +kernel
theorem cl_X11_restore : xckL mX11_restore = true := by decide +kernel
theorem cl_X11_told : xckL mX11_told = true := by decide +kernel
theorem cl_X11_keep : xckL mX11_keep = true := by decide +kernel
theorem cl_X11_row : xckL mX11_row = true := by decide +kernel
theorem cl_X11_put : xckL mX11_put = true := by decide +kernel
theorem cl_X11_element : xckL mX11_element = true := by decide +kernel
theorem cl_X11_copy : xckL mX11_copy = true := by decide +kernel
theorem cl_X11_heft : xckL mX11_heft = true := by decide +kernel
theorem cl_X11_toss : xckL mX11_toss = true := by decide +kernel
theorem cl_X11_shelfAt : xckL mX11_shelfAt = true := by decide +kernel
theorem cl_X11_rowRefusal : xckL mX11_rowRefusal = true := by decide +kernel
theorem cl_X11_pieceRefusal : xckL mX11_pieceRefusal = true := by decide +kernel
theorem cl_X11_leanNow : xckL mX11_leanNow = true := by decide +kernel
theorem cl_X11_lookAround : xckL mX11_lookAround = true := by decide +kernel
theorem cl_X11_isSetToRedraw : xckL mX11_isSetToRedraw = true := by decide +kernel
theorem cl_X11_holdsSpeeds : xckL mX11_holdsSpeeds = true := by decide +kernel
theorem cl_X11_standsInAll : xckL mX11_standsInAll = true := by decide +kernel
theorem cl_X12_init : xckL mX12_init = true := by decide +kernel
theorem cl_X12_thrown : xckL mX12_thrown = true := by decide +kernel
theorem cl_X12_isIn : xckL mX12_isIn = true := by decide +kernel
theorem cl_X12_isPiece : xckL mX12_isPiece = true := by decide +kernel
theorem cl_X12_isRope : xckL mX12_isRope = true := by decide +kernel
theorem cl_X12_isShelf : xckL mX12_isShelf = true := by decide +kernel
theorem cl_X12_of : xckL mX12_of = true := by decide +kernel
theorem cl_X12_rope0 : xckL mX12_rope0 = true := by decide +kernel
theorem cl_X12_weight : xckL mX12_weight = true := by decide +kernel
theorem cl_X12_faces : xckL mX12_faces = true := by decide +kernel
theorem cl_X12_arm : xckL mX12_arm = true := by decide +kernel
theorem cl_X12_sign : xckL mX12_sign = true := by decide +kernel
theorem cl_X12_takes : xckL mX12_takes = true := by decide +kernel
theorem cl_X12_readsNumber : xckL mX12_readsNumber = true := by decide +kernel
theorem cl_X12_readsNumbers : xckL mX12_readsNumbers = true := by decide +kernel
theorem cl_X12_readsStatement : xckL mX12_readsStatement = true := by decide +kernel
theorem cl_X12_makesPiece : xckL mX12_makesPiece = true := by decide +kernel
theorem cl_X12_makesRope : xckL mX12_makesRope = true := by decide +kernel
theorem cl_X12_wrongRow : xckL mX12_wrongRow = true := by decide +kernel
theorem cl_X12_opens : xckL mX12_opens = true := by decide +kernel
theorem cl_X12_text : xckL mX12_text = true := by decide +kernel
theorem cl_X12_piece : xckL mX12_piece = true := by decide +kernel
theorem cl_X12_rope : xckL mX12_rope = true := by decide +kernel
theorem cl_X12_becomesNow : xckL mX12_becomesNow = true := by decide +kernel
theorem cl_X12_becomes : xckL mX12_becomes = true := by decide +kernel
theorem cl_X12_tight : xckL mX12_tight = true := by decide +kernel
theorem cl_X12_ice : xckL mX12_ice = true := by decide +kernel
theorem cl_X12_odds : xckL mX12_odds = true := by decide +kernel
theorem cl_X12_wind : xckL mX12_wind = true := by decide +kernel
theorem cl_X12_share : xckL mX12_share = true := by decide +kernel
theorem cl_X12_pushOn : xckL mX12_pushOn = true := by decide +kernel
theorem cl_X12_push : xckL mX12_push = true := by decide +kernel
theorem cl_X12_pullAt : xckL mX12_pullAt = true := by decide +kernel
theorem cl_X12_restAt : xckL mX12_restAt = true := by decide +kernel
theorem cl_X12_rest : xckL mX12_rest = true := by decide +kernel
theorem cl_X12_standing : xckL mX12_standing = true := by decide +kernel
theorem cl_X12_stand : xckL mX12_stand = true := by decide +kernel
theorem cl_X12_stands : xckL mX12_stands = true := by decide +kernel
theorem cl_X12_pull : xckL mX12_pull = true := by decide +kernel
theorem cl_X12_looseAt : xckL mX12_looseAt = true := by decide +kernel
theorem cl_X12_loose : xckL mX12_loose = true := by decide +kernel
theorem cl_X12_gust : xckL mX12_gust = true := by decide +kernel
theorem cl_X12_gusts : xckL mX12_gusts = true := by decide +kernel
theorem cl_X12_countOf : xckL mX12_countOf = true := by decide +kernel
theorem cl_X12_count : xckL mX12_count = true := by decide +kernel
theorem cl_X12_toneOf : xckL mX12_toneOf = true := by decide +kernel
theorem cl_X12_tone : xckL mX12_tone = true := by decide +kernel
theorem cl_X12_shed : xckL mX12_shed = true := by decide +kernel
theorem cl_X12_shedding : xckL mX12_shedding = true := by decide +kernel
theorem cl_X12_lock : xckL mX12_lock = true := by decide +kernel
theorem cl_X12_falls : xckL mX12_falls = true := by decide +kernel
theorem cl_X12_amount : xckL mX12_amount = true := by decide +kernel
theorem cl_X12_uneven : xckL mX12_uneven = true := by decide +kernel
theorem cl_X12_after : xckL mX12_after = true := by decide +kernel
theorem cl_X12_adds : xckL mX12_adds = true := by decide +kernel
theorem cl_X12_findSwings : xckL mX12_findSwings = true := by decide +kernel
theorem cl_X12_swings : xckL mX12_swings = true := by decide +kernel
theorem cl_X12_years : xckL mX12_years = true := by decide +kernel
theorem cl_X12_readsOr : xckL mX12_readsOr = true := by decide +kernel
theorem cl_X12_readsAnd : xckL mX12_readsAnd = true := by decide +kernel
theorem cl_X12_readsTest : xckL mX12_readsTest = true := by decide +kernel
theorem cl_X12_readsSum : xckL mX12_readsSum = true := by decide +kernel
theorem cl_X12_isDigit : xckL mX12_isDigit = true := by decide +kernel
theorem cl_X12_isField : xckL mX12_isField = true := by decide +kernel
theorem cl_X12_readsAtom : xckL mX12_readsAtom = true := by decide +kernel
theorem cl_X12_faultOf : xckL mX12_faultOf = true := by decide +kernel
theorem cl_X12_fault : xckL mX12_fault = true := by decide +kernel
theorem cl_X12_rule : xckL mX12_rule = true := by decide +kernel
theorem cl_X12_tell : xckL mX12_tell = true := by decide +kernel
theorem cl_X12_or : xckL mX12_or = true := by decide +kernel
theorem cl_X12_and : xckL mX12_and = true := by decide +kernel
theorem cl_X12_test : xckL mX12_test = true := by decide +kernel
theorem cl_X12_sum : xckL mX12_sum = true := by decide +kernel
theorem cl_X12_atom : xckL mX12_atom = true := by decide +kernel
theorem cl_X12_fieldOf : xckL mX12_fieldOf = true := by decide +kernel
theorem cl_X12_breachOf : xckL mX12_breachOf = true := by decide +kernel
theorem cl_X12_breach : xckL mX12_breach = true := by decide +kernel
theorem cl_X12_climb : xckL mX12_climb = true := by decide +kernel
theorem cl_X12_isSafe : xckL mX12_isSafe = true := by decide +kernel
theorem cl_X12_goesOn : xckL mX12_goesOn = true := by decide +kernel
theorem cl_X12_order : xckL mX12_order = true := by decide +kernel
theorem cl_X12_readBack : xckL mX12_readBack = true := by decide +kernel
theorem cl_X12_offer : xckL mX12_offer = true := by decide +kernel
theorem cl_X12_wrongSpeeds : xckL mX12_wrongSpeeds = true := by decide +kernel
theorem cl_X12_isEnough : xckL mX12_isEnough = true := by decide +kernel
theorem cl_X12_cheapest : xckL mX12_cheapest = true := by decide +kernel
theorem cl_X12_image : xckL mX12_image = true := by decide +kernel
theorem cl_X12_restore : xckL mX12_restore = true := by decide +kernel
theorem cl_X12_told : xckL mX12_told = true := by decide +kernel
theorem cl_X12_keep : xckL mX12_keep = true := by decide +kernel
theorem cl_X12_row : xckL mX12_row = true := by decide +kernel
theorem cl_X12_put : xckL mX12_put = true := by decide +kernel
theorem cl_X12_element : xckL mX12_element = true := by decide +kernel
theorem cl_X12_copy : xckL mX12_copy = true := by decide +kernel
theorem cl_X12_wrongKept : xckL mX12_wrongKept = true := by decide +kernel
theorem cl_X12_heft : xckL mX12_heft = true := by decide +kernel
theorem cl_X12_toss : xckL mX12_toss = true := by decide +kernel
theorem cl_J6_bitCount_0f7a4 : xckL mJ6_bitCount_0f7a4 = true := by decide +kernel
