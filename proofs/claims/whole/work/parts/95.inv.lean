/-! ===== swings and texts of equal rows ===== -/
theorem sw_c {E E' : Nat → Int32} : ∀ (k : Nat), (∀ i, i ≤ k → E' i = E i) → sw E' k = sw E k
  | 0, h => by rw [sw, sw, h 0 (Nat.le_refl 0)]
  | k + 1, h => by rw [sw, sw, sw_c k (fun i hi => h i (by omega)), h (k + 1) (Nat.le_refl _)]
theorem swR_c {E E' : Nat → Int32} {z : Nat} (h : ∀ k, k < z → E' k = E k) : swR E' z = swR E z := by
  unfold swR
  by_cases c : z = 0
  · rw [if_pos c, if_pos c]
  · rw [if_neg c, if_neg c, sw_c (z - 1) (fun i hi => h i (by omega))]
theorem spOK_c {E E' : Nat → Int32} {z : Nat} (h : ∀ k, k < z → E' k = E k) : spOK E' z ↔ spOK E z := by
  constructor
  · rintro ⟨a, b, c⟩
    exact ⟨a, b, fun i hi => by rw [← h i hi]; exact c i hi⟩
  · rintro ⟨a, b, c⟩
    exact ⟨a, b, fun i hi => by rw [h i hi]; exact c i hi⟩
theorem rB_c9 {M M' : xM} (h : ∀ k, gI M' 167 k = gI M 167 k) (np : Nat) : rB M' np = rB M np := by
  unfold rB
  simp only [rs_c h]
theorem acM_c9 {R R' : xM} (h : ∀ k, gI R' 167 k = gI R 167 k) {np nr : Nat} {c sd : Int32} {a : Nat → Int32} (k : Nat) : gI (acM R' np nr c a sd) 167 k = gI (acM R np nr c a sd) 167 k := by
  unfold acM
  by_cases c1 : c = 112
  · rw [if_pos c1, if_pos c1, pcM_g, pcM_g, h]
  · rw [if_neg c1, if_neg c1]
    by_cases c2 : c = 114
    · rw [if_pos c2, if_pos c2, rpM_g, rpM_g, h]
    · rw [if_neg c2, if_neg c2, c_sI h]
theorem txL_c {T T' : Nat → Int32} {n : Nat} (hT : ∀ k, k < n → T' k = T k) {R0 R0' : xM} (h0 : ∀ k, gI R0' 167 k = gI R0 167 k) : ∀ (f p k : Nat) (R R' : xM), (∀ k, gI R' 167 k = gI R 167 k) → (txL T' n R0' f R' p k).1 = (txL T n R0 f R p k).1 ∧ ∀ j, gI (txL T' n R0' f R' p k).2 167 j = gI (txL T n R0 f R p k).2 167 j
  | 0, _, _, _, _, h => ⟨rfl, h⟩
  | f + 1, p, k, R, R', h => by
    rw [txL, txL]
    by_cases c : p < n
    · rw [if_pos c, if_pos c, h, h, chr_c hT, stS_c hT]
      by_cases c2 : acA R (gI R 167 1643).toNatClampNeg (gI R 167 1644).toNatClampNeg (chr T n p) (fun i => (stS T n p 0).2.2.1.getD i 0)
      · have c3 : acA R' (gI R 167 1643).toNatClampNeg (gI R 167 1644).toNatClampNeg (chr T n p) (fun i => (stS T n p 0).2.2.1.getD i 0) := ⟨fun q => by rw [rB_c9 h]; exact c2.1 q, c2.2⟩
        rw [if_pos c2, if_pos c3]
        exact txL_c hT h0 f _ _ _ _ (fun j => acM_c9 h j)
      · have c3 : ¬ acA R' (gI R 167 1643).toNatClampNeg (gI R 167 1644).toNatClampNeg (chr T n p) (fun i => (stS T n p 0).2.2.1.getD i 0) := fun z => c2 ⟨fun q => by rw [← rB_c9 h]; exact z.1 q, z.2⟩
        rw [if_neg c2, if_neg c3]
        exact ⟨rfl, h0⟩
    · rw [if_neg c, if_neg c]
      exact ⟨rfl, h⟩
/-! ===== the invariant ===== -/
/-- shelves of the class and of the reference -/
def shI (M : xM) (j : Nat) : Prop := (gI M (142 + 3 * j) 0 = gI M 170 j ∧ nr3 0 2 (gI M 170 j)) ∧ (gI M (142 + 3 * j) 2 = gI M 171 j ∧ nr3 0 2 (gI M 171 j)) ∧ (∃ z, z ≤ 120 ∧ gI M (142 + 3 * j) 3 = nI z ∧ gI M 172 j = nI z) ∧ (∀ k, k < 120 → gI M (144 + 3 * j) k = gI M 173 (120 * j + k)) ∧ (gI M 170 j = 1 → cH M (143 + 3 * j) = gI M 175 j ∧ cT M (143 + 3 * j) = gI M 176 j)
def imI (M : xM) : Prop := (gI M 0 7 = gI M 166 10 ∧ (gI M 166 10 = 0 ∨ gI M 166 10 = 1)) ∧ (¬ gI M 166 10 = 0 → ∃ np nr ng no nu, mR M 75 M 168 np nr ng ∧ oR M 118 M 168 nr no ∧ ruR M 102 M 168 nu)
def tdI (M : xM) : Prop := ∀ k, k < 12 → gI M 70 k &&& 1 = gI M 70 k ∧ gI M 117 k &&& 1 = gI M 117 k
def IV (M : xM) : Prop := (∃ np nr ng no nu, mR M 1 M 167 np nr ng ∧ oR M 71 M 167 nr no ∧ ruR M 55 M 167 nu) ∧ gJ M 166 18 = 0 ∧ (∀ j, j < 8 → shI M j) ∧ imI M ∧ tdI M
/-- what keeps it -/
def kIV (M M' : xM) : Prop := (∀ x k, (x < 28 ∨ (55 ≤ x ∧ x ≤ 122) ∨ (142 ≤ x ∧ x < 166) ∨ x = 167 ∨ x = 168 ∨ (170 ≤ x ∧ x ≤ 176)) → gI M' x k = gI M x k) ∧ gI M' 166 10 = gI M 166 10 ∧ gJ M' 166 18 = gJ M 166 18
theorem kIV_k {M M' : xM} (h : kFr M M') : kIV M M' := ⟨fun x k q => h.1 x k (by omega), h.1 _ _ (by omega), h.2.1 _ _ (by omega)⟩
theorem kIV_r {M M' : xM} (h : rkF M M') : kIV M M' := ⟨fun x k q => h.1 x k (by omega), h.2.1, h.2.2.1⟩
theorem kIV_0 {M : xM} : kIV M M := ⟨fun _ _ _ => rfl, rfl, rfl⟩
theorem kIV_t {M M' M2 : xM} (h : kIV M M') (h2 : kIV M' M2) : kIV M M2 := ⟨fun x k q => (h2.1 x k q).trans (h.1 x k q), h2.2.1.trans h.2.1, h2.2.2.trans h.2.2⟩
theorem mR_g {C C' R R' : xM} {m sa np nr ng : Nat} (hm : mR C m R sa np nr ng) (hC : ∀ x k, m ≤ x → x < m + 27 → gI C' x k = gI C x k) (hR : ∀ k, gI R' sa k = gI R sa k) : mR C' m R' sa np nr ng := by
  have hn := hm.1.1
  have hr := hm.1.2.1
  unfold mR pR pB qR qB aA aA0 at *
  simp only [hR]
  obtain ⟨a0, a1, a2, a3, a4, a5, a6, a7, a8, a9, a10⟩ := hm
  exact ⟨a0, ⟨(hC _ _ (by omega) (by omega)).trans a1.1, a1.2⟩, ⟨(hC _ _ (by omega) (by omega)).trans a2.1, a2.2⟩, ⟨(hC _ _ (by omega) (by omega)).trans a3.1, a3.2⟩, ⟨(hC _ _ (by omega) (by omega)).trans a4.1, a4.2⟩, ⟨(hC _ _ (by omega) (by omega)).trans a5.1, a5.2⟩, ⟨(hC _ _ (by omega) (by omega)).trans a6.1, a6.2⟩, fun k hk => ⟨(hC _ _ (by omega) (by omega)).trans (a7 k hk).1, (a7 k hk).2⟩, fun k hk => ⟨(hC _ _ (by omega) (by omega)).trans (a8 k hk).1, (a8 k hk).2⟩, fun p hp => ⟨⟨(hC _ _ (by omega) (by omega)).trans (a9 p hp).1.1, fun k hk => (hC _ _ (by omega) (by omega)).trans ((a9 p hp).1.2 k hk)⟩, (a9 p hp).2⟩, fun q hq => ⟨⟨fun k hk => (hC _ _ (by omega) (by omega)).trans ((a10 q hq).1.1 k hk), (hC _ _ (by omega) (by omega)).trans (a10 q hq).1.2⟩, (a10 q hq).2⟩⟩
theorem oR_g {C C' R R' : xM} {a sa nr no : Nat} (h : oR C a R sa nr no) (hC : ∀ x k, a ≤ x → x < a + 4 → gI C' x k = gI C x k) (hR : ∀ k, gI R' sa k = gI R sa k) : oR C' a R' sa nr no := by
  unfold oR at *
  simp only [hR]
  exact ⟨h.1, ⟨(hC _ _ (by omega) (by omega)).trans h.2.1.1, h.2.1.2⟩, fun k hk => ⟨⟨(hC _ _ (by omega) (by omega)).trans (h.2.2 k hk).1.1, (hC _ _ (by omega) (by omega)).trans (h.2.2 k hk).1.2.1, (hC _ _ (by omega) (by omega)).trans (h.2.2 k hk).1.2.2⟩, (h.2.2 k hk).2⟩⟩
theorem ruR_g {C C' R R' : xM} {r sa nu : Nat} (h : ruR C r R sa nu) (hC : ∀ x k, r ≤ x → x < r + 16 → gI C' x k = gI C x k) (hR : ∀ k, gI R' sa k = gI R sa k) : ruR C' r R' sa nu := by
  unfold ruR at *
  simp only [hR]
  refine ⟨h.1, ⟨(hC _ _ (by omega) (by omega)).trans h.2.1.1, h.2.1.2⟩, fun i hi => ?_⟩
  have h1 := h.1
  obtain ⟨z, g1, ⟨g2, g3⟩, ⟨g4, g5⟩, g6, g7⟩ := h.2.2 i hi
  exact ⟨z, g1, ⟨(hC _ _ (by omega) (by omega)).trans g2, g3⟩, ⟨(hC _ _ (by omega) (by omega)).trans g4, g5⟩, fun k hk => (hC _ _ (by omega) (by omega)).trans (g6 k hk), g7⟩
theorem cH_c {M M' : xM} {a : Nat} (h : ∀ k, gI M' a k = gI M a k) : cH M' a = cH M a := by unfold cH cW; simp only [h]
theorem cT_c {M M' : xM} {a : Nat} (h : ∀ k, gI M' a k = gI M a k) : cT M' a = cT M a := by unfold cT; simp only [h]
theorem shI_g {M M' : xM} {j : Nat} (h : shI M j) (h1 : ∀ k, gI M' (142 + 3 * j) k = gI M (142 + 3 * j) k) (h2 : ∀ k, gI M' (143 + 3 * j) k = gI M (143 + 3 * j) k) (h3 : ∀ k, k < 120 → gI M' (144 + 3 * j) k = gI M (144 + 3 * j) k) (h4 : ∀ x, x = 170 ∨ x = 171 ∨ x = 172 ∨ x = 175 ∨ x = 176 → gI M' x j = gI M x j) (h5 : ∀ k, k < 120 → gI M' 173 (120 * j + k) = gI M 173 (120 * j + k)) : shI M' j := by
  obtain ⟨a1, a2, ⟨z, z1, z2, z3⟩, a4, a5⟩ := h
  unfold shI
  rw [h4 170 (by omega), h4 171 (by omega), h4 172 (by omega), h4 175 (by omega), h4 176 (by omega), h1, h1, h1, cH_c h2, cT_c h2]
  exact ⟨a1, a2, ⟨z, z1, z2, z3⟩, fun k hk => (h3 k hk).trans ((a4 k hk).trans (h5 k hk).symm), a5⟩
theorem IV_k {M M' : xM} (h : IV M) (f : kIV M M') : IV M' := by
  obtain ⟨⟨np, nr, ng, no, nu, h1, h2, h3⟩, h4, h5, ⟨⟨h6, h7⟩, h8⟩, h9⟩ := h
  refine ⟨⟨np, nr, ng, no, nu, mR_g h1 (fun x k a b => f.1 _ _ (by omega)) (fun k => f.1 _ _ (by omega)), oR_g h2 (fun x k a b => f.1 _ _ (by omega)) (fun k => f.1 _ _ (by omega)), ruR_g h3 (fun x k a b => f.1 _ _ (by omega)) (fun k => f.1 _ _ (by omega))⟩, f.2.2.trans h4, fun j hj => shI_g (h5 j hj) (fun k => f.1 _ _ (by omega)) (fun k => f.1 _ _ (by omega)) (fun k _ => f.1 _ _ (by omega)) (fun x q => f.1 _ _ (by omega)) (fun k _ => f.1 _ _ (by omega)), ⟨⟨?_, ?_⟩, fun q => ?_⟩, fun k hk => ?_⟩
  · rw [f.2.1]; exact (f.1 _ _ (by omega)).trans h6
  · rw [f.2.1]; exact h7
  · rw [f.2.1] at q
    obtain ⟨np, nr, ng, no, nu, g1, g2, g3⟩ := h8 q
    exact ⟨np, nr, ng, no, nu, mR_g g1 (fun x k a b => f.1 _ _ (by omega)) (fun k => f.1 _ _ (by omega)), oR_g g2 (fun x k a b => f.1 _ _ (by omega)) (fun k => f.1 _ _ (by omega)), ruR_g g3 (fun x k a b => f.1 _ _ (by omega)) (fun k => f.1 _ _ (by omega))⟩
  · rw [f.1 70 k (by omega), f.1 117 k (by omega)]
    exact h9 k hk
