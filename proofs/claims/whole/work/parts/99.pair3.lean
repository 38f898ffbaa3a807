/-! ===== pairs of calls that change something ===== -/
theorem IV_set {M M2 : xM} (h : IV M) (h1 : ∃ np nr ng no nu, mR M2 1 M2 167 np nr ng ∧ oR M2 71 M2 167 nr no ∧ ruR M2 55 M2 167 nu) (f : ∀ x k, (x = 0 ∨ (75 ≤ x ∧ x ≤ 121) ∨ (142 ≤ x ∧ x < 166) ∨ x = 168 ∨ (170 ≤ x ∧ x ≤ 176)) → gI M2 x k = gI M x k) (f10 : gI M2 166 10 = gI M 166 10) (fj : gJ M2 166 18 = gJ M 166 18) (ft : ∀ k, k < 12 → gI M2 70 k &&& 1 = gI M2 70 k) : IV M2 := by
  obtain ⟨-, h4, h5, ⟨⟨h6, h7⟩, h8⟩, h9⟩ := h
  refine ⟨h1, fj.trans h4, fun j hj => shI_g (h5 j hj) (fun k => f _ _ (by omega)) (fun k => f _ _ (by omega)) (fun k _ => f _ _ (by omega)) (fun x q => f _ _ (by omega)) (fun k _ => f _ _ (by omega)), ⟨⟨?_, ?_⟩, fun q => ?_⟩, fun k hk => ⟨ft k hk, ?_⟩⟩
  · rw [f10]; exact (f _ _ (by omega)).trans h6
  · rw [f10]; exact h7
  · rw [f10] at q
    obtain ⟨np, nr, ng, no, nu, g1, g2, g3⟩ := h8 q
    exact ⟨np, nr, ng, no, nu, mR_g g1 (fun x k a b => f _ _ (by omega)) (fun k => f _ _ (by omega)), oR_g g2 (fun x k a b => f _ _ (by omega)) (fun k => f _ _ (by omega)), ruR_g g3 (fun x k a b => f _ _ (by omega)) (fun k => f _ _ (by omega))⟩
  · rw [f 117 k (by omega)]
    exact (h9 k hk).2
theorem oR_g2 {C C' R R' : xM} {a sa nr no : Nat} (h : oR C a R sa nr no) (hC : ∀ x k, a ≤ x → x < a + 4 → gI C' x k = gI C x k) (hR : ∀ k, ((155 ≤ k ∧ k < 179) ∨ k = 1647) → gI R' sa k = gI R sa k) : oR C' a R' sa nr no := by
  obtain ⟨h0, h1, h2⟩ := h
  refine ⟨h0, ⟨(hC _ _ (by omega) (by omega)).trans h1.1, (hR _ (by omega)).trans h1.2⟩, fun k hk => ?_⟩
  rw [hR (155 + 3 * k) (by omega), hR (155 + 3 * k + 1) (by omega), hR (155 + 3 * k + 2) (by omega), hC _ _ (by omega) (by omega), hC _ _ (by omega) (by omega), hC _ _ (by omega) (by omega)]
  exact h2 k hk
theorem ruR_g2 {C C' R R' : xM} {r sa nu : Nat} (h : ruR C r R sa nu) (hC : ∀ x k, r ≤ x → x < r + 16 → gI C' x k = gI C x k) (hR : ∀ k, (k = 1646 ∨ (179 ≤ k ∧ k < 1643)) → gI R' sa k = gI R sa k) : ruR C' r R' sa nu := by
  obtain ⟨h0, h1, h2⟩ := h
  refine ⟨h0, ⟨(hC _ _ (by omega) (by omega)).trans h1.1, (hR _ (by omega)).trans h1.2⟩, fun i hi => ?_⟩
  obtain ⟨z, g1, ⟨g2, g3⟩, ⟨g4, g5⟩, g6, g7⟩ := h2 i hi
  refine ⟨z, g1, ⟨(hC _ _ (by omega) (by omega)).trans g2, (hR _ (by omega)).trans g3⟩, ⟨?_, ?_⟩, fun k hk => ?_, ?_⟩
  · rw [hR _ (by omega)]; exact (hC _ _ (by omega) (by omega)).trans g4
  · rw [hR _ (by omega)]; exact g5
  · rw [hR _ (by omega)]; exact (hC _ _ (by omega) (by omega)).trans (g6 k hk)
  · rw [tx_c (g := fun k => gI R sa (181 + 122 * i + k)) (fun k hk => hR _ (by omega))]
    exact g7
section MU
variable {M : xM} {np nr ng no nu j k n : Nat} {w q x y z : Int32}
theorem IV_rp (hI : IV M) (hm : mR M 1 M 167 np nr ng) (ho : oR M 71 M 167 nr no) (hu : ruR M 55 M 167 nu) (hj : j < nr) (hk : (k = 3 ∧ nr3 1 99 w) ∨ (k = 4 ∧ nr3 0 999 w) ∨ (k = 5 ∧ nr3 0 2 w)) : IV (sI (sI M (16 + j) k w) 167 (70 + 6 * j + k) w) := by
  have hr2 := hm.1.2.1
  have hk5 : k < 6 := by omega
  have a := mR_rope (C := M) (R := M) hm hj hk
  refine IV_set hI ⟨np, nr, ng, no, nu, mR_g a (fun x y p q => (gI_ne (by omega)).trans (by rw [show 1 + 15 + j = 16 + j by omega])) (fun y => c_sI (fun k => gI_ne (by omega)) y), oR_g2 ho (fun x y p q => (gI_ne (by omega)).trans (gI_ne (by omega))) (fun y p => (gI_ne (by omega)).trans (gI_ne (by omega))), ruR_g2 hu (fun x y p q => (gI_ne (by omega)).trans (gI_ne (by omega))) (fun y p => (gI_ne (by omega)).trans (gI_ne (by omega)))⟩ (fun x y p => (gI_ne (by omega)).trans (gI_ne (by omega))) ((gI_ne (by omega)).trans (gI_ne (by omega))) rfl (fun y hy => ?_)
  rw [gI_ne (by omega), gI_ne (by omega)]
  exact (hI.2.2.2.2 y hy).1
theorem IV_pc (hI : IV M) (hm : mR M 1 M 167 np nr ng) (ho : oR M 71 M 167 nr no) (hu : ruR M 55 M 167 nu) (hj : j < np) (hk : (k = 5 ∧ nr3 0 20 w) ∨ (k = 6 ∧ nr3 0 100 w)) : IV (sI (sI M (6 + j) (k + 1) w) 167 (7 * j + k) w) := by
  have hn2 := hm.1.1
  have a := mR_piece (C := M) (R := M) hm hj hk
  refine IV_set hI ⟨np, nr, ng, no, nu, mR_g a (fun x y p q => (gI_ne (by omega)).trans (by rw [show 1 + 5 + j = 6 + j by omega])) (fun y => c_sI (fun k => gI_ne (by omega)) y), oR_g2 ho (fun x y p q => (gI_ne (by omega)).trans (gI_ne (by omega))) (fun y p => (gI_ne (by omega)).trans (gI_ne (by omega))), ruR_g2 hu (fun x y p q => (gI_ne (by omega)).trans (gI_ne (by omega))) (fun y p => (gI_ne (by omega)).trans (gI_ne (by omega)))⟩ (fun x y p => (gI_ne (by omega)).trans (gI_ne (by omega))) ((gI_ne (by omega)).trans (gI_ne (by omega))) rfl (fun y hy => ?_)
  rw [gI_ne (by omega), gI_ne (by omega)]
  exact (hI.2.2.2.2 y hy).1
theorem IV_wd (hI : IV M) (hm : mR M 1 M 167 np nr ng) (ho : oR M 71 M 167 nr no) (hu : ruR M 55 M 167 nu) (hw : nr3 0 99 w) (hq : q = 1 ∨ q = -1) : IV (sI (sI (sI (sI M 1 5 w) 1 6 q) 167 1649 q) 167 1648 w) := by
  have a := mR_wind (C := M) (R := M) hm hw hq
  have eo : ∀ x y, ¬ x = 1 → ¬ (x = 167 ∧ (y = 1648 ∨ y = 1649)) → gI (sI (sI (sI (sI M 1 5 w) 1 6 q) 167 1649 q) 167 1648 w) x y = gI M x y := fun x y h1 h2 => by
    rw [gI_ne (by omega), gI_ne (by omega), gI_ne (by omega), gI_ne (by omega)]
  refine IV_set hI ⟨np, nr, ng, no, nu, mR_g a (fun x y p q => (gI_ne (by omega)).trans (gI_ne (by omega))) (fun y => ?_), oR_g2 ho (fun x y p q => eo _ _ (by omega) (by omega)) (fun y p => eo _ _ (by omega) (by omega)), ruR_g2 hu (fun x y p q => eo _ _ (by omega) (by omega)) (fun y p => eo _ _ (by omega) (by omega))⟩ (fun x y p => eo _ _ (by omega) (by omega)) (eo _ _ (by omega) (by omega)) rfl (fun y hy => ?_)
  · unfold wsR
    by_cases c1 : y = 1648
    · subst c1
      rw [gI_self, gI_ne (Or.inr (by decide)), gI_self]
    · by_cases c2 : y = 1649
      · subst c2
        rw [gI_ne (Or.inr (by decide)), gI_self, gI_self]
      · rw [eo _ _ (by omega) (by omega), gI_ne (Or.inr c2), gI_ne (Or.inr c1)]
  · rw [eo _ _ (by omega) (by omega)]
    exact (hI.2.2.2.2 y hy).1
theorem mR_sh {C R : xM} {m : Nat} (h : mR C m R 167 np nr ng) (hj : j < 5) (hw : nr3 0 200 w) : mR (sI C (m + 3) j w) m (sI R 167 (142 + j) w) 167 np nr ng := by
  have hn := h.1.1
  have hr := h.1.2.1
  have hC : ∀ x y, ¬ x = m + 3 → gI (sI C (m + 3) j w) x y = gI C x y := fun x y q => gI_ne (Or.inl q)
  have hR : ∀ y, ¬ y = 142 + j → gI (sI R 167 (142 + j) w) 167 y = gI R 167 y := fun y q => gI_ne (Or.inr q)
  obtain ⟨a0, a1, a2, a3, a4, a5, a6, a7, a8, a9, a10⟩ := h
  refine ⟨a0, ⟨(hC _ _ (by omega)).trans a1.1, (hR _ (by omega)).trans a1.2⟩, ⟨(hC _ _ (by omega)).trans a2.1, (hR _ (by omega)).trans a2.2⟩, ⟨(hC _ _ (by omega)).trans a3.1, (hR _ (by omega)).trans a3.2⟩, ?_, ?_, ?_, fun k hk => ?_, fun k hk => ?_, fun p hp => ?_, fun q hq => ?_⟩
  · rw [hC _ _ (by omega), hR _ (by omega)]; exact a4
  · rw [hC _ _ (by omega), hR _ (by omega)]; exact a5
  · rw [hC _ _ (by omega), hR _ (by omega)]; exact a6
  · by_cases c : k = j
    · subst c; rw [gI_self, gI_self]; exact ⟨rfl, hw⟩
    · rw [gI_ne (Or.inr c), hR _ (by omega)]; exact a7 k hk
  · rw [hC _ _ (by omega), hR _ (by omega)]; exact a8 k hk
  · obtain ⟨⟨b1, b2⟩, b3⟩ := a9 p hp
    refine ⟨⟨(hC _ _ (by omega)).trans b1, fun k hk => ?_⟩, pB_c (fun k hk => hR _ (by omega)) b3⟩
    rw [hC _ _ (by omega), hR _ (by omega)]; exact b2 k hk
  · obtain ⟨⟨b1, b2⟩, b3⟩ := a10 q hq
    obtain ⟨⟨hh, h1, h22⟩, b4, b5, b6, b7, b8⟩ := b3
    have z0 : gI (sI R 167 (142 + j) w) 167 (70 + 6 * q) = gI R 167 (70 + 6 * q) := hR _ (by omega)
    refine ⟨⟨fun k hk => ?_, ?_⟩, ⟨hh, h1, z0.trans h22⟩, ?_, ?_, ?_, ?_, ?_⟩
    · rw [hC _ _ (by omega), hR _ (by omega)]; exact b1 k hk
    · rw [hC _ _ (by omega), b2]; exact (aA_c h22 (by omega) z0 (hR _ (by omega)) (hR _ (by omega))).symm
    · rw [hR _ (by omega)]; exact b4
    · rw [hR _ (by omega)]; exact b5
    · rw [hR _ (by omega)]; exact b6
    · rw [hR _ (by omega)]; exact b7
    · rw [hR _ (by omega)]; exact b8
theorem mR_gu {C R : xM} {m : Nat} (h : mR C m R 167 np nr ng) (hn : ng < 8) (hw : nr3 0 999 w) : mR (sI (sI C (m + 4) ng w) m 9 (nI (ng + 1))) m (sI (sI R 167 (147 + ng) w) 167 1645 (nI (ng + 1))) 167 np nr (ng + 1) := by
  have hn := h.1.1
  have hr := h.1.2.1
  have hC : ∀ x y, ¬ x = m + 4 → ¬ (x = m ∧ y = 9) → gI (sI (sI C (m + 4) ng w) m 9 (nI (ng + 1))) x y = gI C x y := fun x y q q2 => (gI_ne (by omega)).trans (gI_ne (by omega))
  have hR : ∀ y, ¬ y = 147 + ng → ¬ y = 1645 → gI (sI (sI R 167 (147 + ng) w) 167 1645 (nI (ng + 1))) 167 y = gI R 167 y := fun y q q2 => (gI_ne (by omega)).trans (gI_ne (by omega))
  obtain ⟨a0, a1, a2, a3, a4, a5, a6, a7, a8, a9, a10⟩ := h
  refine ⟨⟨a0.1, a0.2.1, by omega⟩, ⟨(hC _ _ (by omega) (by omega)).trans a1.1, (hR _ (by omega) (by omega)).trans a1.2⟩, ⟨(hC _ _ (by omega) (by omega)).trans a2.1, (hR _ (by omega) (by omega)).trans a2.2⟩, ⟨gI_self _ _ _ _, gI_self _ _ _ _⟩, ?_, ?_, ?_, fun k hk => ?_, fun k hk => ?_, fun p hp => ?_, fun q hq => ?_⟩
  · rw [hC _ _ (by omega) (by omega), hR _ (by omega) (by omega)]; exact a4
  · rw [hC _ _ (by omega) (by omega), hR _ (by omega) (by omega)]; exact a5
  · rw [hC _ _ (by omega) (by omega), hR _ (by omega) (by omega)]; exact a6
  · rw [hC _ _ (by omega) (by omega), hR _ (by omega) (by omega)]; exact a7 k hk
  · by_cases c : k = ng
    · subst c
      rw [gI_ne (by omega), gI_self, gI_ne (by omega), gI_self]; exact ⟨rfl, hw⟩
    · rw [gI_ne (by omega), gI_ne (by omega), hR _ (by omega) (by omega)]; exact a8 k hk
  · obtain ⟨⟨b1, b2⟩, b3⟩ := a9 p hp
    refine ⟨⟨(hC _ _ (by omega) (by omega)).trans b1, fun k hk => ?_⟩, pB_c (fun k hk => hR _ (by omega) (by omega)) b3⟩
    rw [hC _ _ (by omega) (by omega), hR _ (by omega) (by omega)]; exact b2 k hk
  · obtain ⟨⟨b1, b2⟩, b3⟩ := a10 q hq
    obtain ⟨⟨hh, h1, h22⟩, b4, b5, b6, b7, b8⟩ := b3
    have z0 : gI (sI (sI R 167 (147 + ng) w) 167 1645 (nI (ng + 1))) 167 (70 + 6 * q) = gI R 167 (70 + 6 * q) := hR _ (by omega) (by omega)
    refine ⟨⟨fun k hk => ?_, ?_⟩, ⟨hh, h1, z0.trans h22⟩, ?_, ?_, ?_, ?_, ?_⟩
    · rw [hC _ _ (by omega) (by omega), hR _ (by omega) (by omega)]; exact b1 k hk
    · rw [hC _ _ (by omega) (by omega), b2]; exact (aA_c h22 (by omega) z0 (hR _ (by omega) (by omega)) (hR _ (by omega) (by omega))).symm
    · rw [hR _ (by omega) (by omega)]; exact b4
    · rw [hR _ (by omega) (by omega)]; exact b5
    · rw [hR _ (by omega) (by omega)]; exact b6
    · rw [hR _ (by omega) (by omega)]; exact b7
    · rw [hR _ (by omega) (by omega)]; exact b8
end MU
