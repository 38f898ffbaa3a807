/-! ===== pairs of calls that change the mast, offers, what is told ===== -/
theorem n3_k {w : Int32} {k : Nat} (h0 : 0 ≤ w) (h : w ≤ nI k) (hk : k < 2147483648) : nr3 0 k w := ⟨by rw [Int32.le_iff_toInt_le] at h0; exact h0, lI h hk⟩
theorem n3_k1 {w : Int32} {k : Nat} (h0 : 1 ≤ w) (h : w ≤ nI k) (hk : k < 2147483648) : nr3 1 k w := ⟨by rw [Int32.le_iff_toInt_le] at h0; exact h0, lI h hk⟩
theorem IV_sh {M : xM} {np nr ng no nu j : Nat} {w : Int32} (hI : IV M) (hm : mR M 1 M 167 np nr ng) (ho : oR M 71 M 167 nr no) (hu : ruR M 55 M 167 nu) (hj : j < 5) (hw : nr3 0 200 w) : IV (sI (sI M 4 j w) 167 (142 + j) w) := by
  have a := mR_sh (C := M) (R := M) hm hj hw
  have eo : ∀ x y, ¬ x = 4 → ¬ (x = 167 ∧ y = 142 + j) → gI (sI (sI M 4 j w) 167 (142 + j) w) x y = gI M x y := fun x y h1 h2 => (gI_ne (by omega)).trans (gI_ne (by omega))
  refine IV_set hI ⟨np, nr, ng, no, nu, mR_g a (fun x y p q => gI_ne (by omega)) (fun y => c_sI (fun k => gI_ne (by omega)) y), oR_g2 ho (fun x y p q => eo _ _ (by omega) (by omega)) (fun y p => eo _ _ (by omega) (by omega)), ruR_g2 hu (fun x y p q => eo _ _ (by omega) (by omega)) (fun y p => eo _ _ (by omega) (by omega))⟩ (fun x y p => eo _ _ (by omega) (by omega)) (eo _ _ (by omega) (by omega)) rfl (fun y hy => ?_)
  rw [eo _ _ (by omega) (by omega)]
  exact (hI.2.2.2.2 y hy).1
theorem IV_gu {M : xM} {np nr ng no nu : Nat} {w : Int32} (hI : IV M) (hm : mR M 1 M 167 np nr ng) (ho : oR M 71 M 167 nr no) (hu : ruR M 55 M 167 nu) (hn : ng < 8) (hw : nr3 0 999 w) : IV (sI (sI (sI (sI M 5 ng w) 1 9 (nI (ng + 1))) 167 (147 + ng) w) 167 1645 (nI (ng + 1))) := by
  have a := mR_gu (C := M) (R := M) hm hn hw
  have eo : ∀ x y, ¬ x = 5 → ¬ x = 1 → ¬ (x = 167 ∧ (y = 147 + ng ∨ y = 1645)) → gI (sI (sI (sI (sI M 5 ng w) 1 9 (nI (ng + 1))) 167 (147 + ng) w) 167 1645 (nI (ng + 1))) x y = gI M x y := fun x y h1 h2 h3 => by
    rw [gI_ne (by omega), gI_ne (by omega), gI_ne (by omega), gI_ne (by omega)]
  refine IV_set hI ⟨np, nr, ng + 1, no, nu, mR_g a (fun x y p q => (gI_ne (by omega)).trans (gI_ne (by omega))) (fun y => c_sI (fun k => c_sI (fun k => (gI_ne (by omega)).trans (gI_ne (by omega))) k) y), oR_g2 ho (fun x y p q => eo _ _ (by omega) (by omega) (by omega)) (fun y p => eo _ _ (by omega) (by omega) (by omega)), ruR_g2 hu (fun x y p q => eo _ _ (by omega) (by omega) (by omega)) (fun y p => eo _ _ (by omega) (by omega) (by omega))⟩ (fun x y p => eo _ _ (by omega) (by omega) (by omega)) (eo _ _ (by omega) (by omega) (by omega)) rfl (fun y hy => ?_)
  rw [eo _ _ (by omega) (by omega) (by omega)]
  exact (hI.2.2.2.2 y hy).1
theorem IV_td {M : xM} {np nr ng no nu n : Nat} {q : Int32} (hI : IV M) (hm : mR M 1 M 167 np nr ng) (ho : oR M 71 M 167 nr no) (hu : ruR M 55 M 167 nu) (hn : n < nu) (hq : q = 0 ∨ q = 1) : IV (sI (sI M 70 n q) 167 (179 + 122 * n) q) := by
  have hnu := hu.1
  have hn2 := hm.1.1
  have hr2 := hm.1.2.1
  have eo : ∀ x y, ¬ (x = 70 ∧ y = n) → ¬ (x = 167 ∧ y = 179 + 122 * n) → gI (sI (sI M 70 n q) 167 (179 + 122 * n) q) x y = gI M x y := fun x y h1 h2 => (gI_ne (by omega)).trans (gI_ne (by omega))
  refine IV_set hI ⟨np, nr, ng, no, nu, ?_, oR_g2 ho (fun x y p q => eo _ _ (by omega) (by omega)) (fun y p => eo _ _ (by omega) (by omega)), ?_⟩ (fun x y p => eo _ _ (by omega) (by omega)) (eo _ _ (by omega) (by omega)) rfl (fun y hy => ?_)
  · have a : mR M 1 (sI M 167 (179 + 122 * n) q) 167 np nr ng := by
      obtain ⟨a0, a1, a2, a3, a4, a5, a6, a7, a8, a9, a10⟩ := hm
      have hR : ∀ y, (y < 179 ∨ 1643 ≤ y) → gI (sI M 167 (179 + 122 * n) q) 167 y = gI M 167 y := fun y p => gI_ne (by omega)
      refine ⟨a0, ⟨a1.1, (hR _ (by omega)).trans a1.2⟩, ⟨a2.1, (hR _ (by omega)).trans a2.2⟩, ⟨a3.1, (hR _ (by omega)).trans a3.2⟩, ?_, ?_, ?_, fun k hk => ?_, fun k hk => ?_, fun p hp => ?_, fun r hr => ?_⟩
      · rw [hR _ (by omega)]; exact a4
      · rw [hR _ (by omega)]; exact a5
      · rw [hR _ (by omega)]; exact a6
      · rw [hR _ (by omega)]; exact a7 k hk
      · rw [hR _ (by omega)]; exact a8 k hk
      · obtain ⟨⟨b1, b2⟩, b3⟩ := a9 p hp
        refine ⟨⟨b1, fun k hk => ?_⟩, pB_c (fun k hk => hR _ (by omega)) b3⟩
        rw [hR _ (by omega)]; exact b2 k hk
      · obtain ⟨⟨b1, b2⟩, b3⟩ := a10 r hr
        obtain ⟨⟨hh, h1, h22⟩, b4, b5, b6, b7, b8⟩ := b3
        have z0 : gI (sI M 167 (179 + 122 * n) q) 167 (70 + 6 * r) = gI M 167 (70 + 6 * r) := hR _ (by omega)
        refine ⟨⟨fun k hk => ?_, ?_⟩, ⟨hh, h1, z0.trans h22⟩, ?_, ?_, ?_, ?_, ?_⟩
        · rw [hR _ (by omega)]; exact b1 k hk
        · rw [b2]; exact (aA_c h22 (by omega) z0 (hR _ (by omega)) (hR _ (by omega))).symm
        · rw [hR _ (by omega)]; exact b4
        · rw [hR _ (by omega)]; exact b5
        · rw [hR _ (by omega)]; exact b6
        · rw [hR _ (by omega)]; exact b7
        · rw [hR _ (by omega)]; exact b8
    exact mR_g a (fun x y p q => (gI_ne (by omega)).trans (gI_ne (by omega))) (fun y => c_sI (fun k => gI_ne (by omega)) y)
  · refine ⟨hnu, ⟨(eo _ _ (by omega) (by omega)).trans hu.2.1.1, (eo _ _ (by omega) (by omega)).trans hu.2.1.2⟩, fun i hi => ?_⟩
    obtain ⟨z, g1, ⟨g2, g3⟩, ⟨g4, g5⟩, g6, g7⟩ := hu.2.2 i hi
    refine ⟨z, g1, ⟨(eo _ _ (by omega) (by omega)).trans g2, (eo _ _ (by omega) (by omega)).trans g3⟩, ?_, fun k hk => ?_, ?_⟩
    · by_cases c : i = n
      · subst c
        rw [gI_self, gI_ne (by omega), gI_self]
        exact ⟨rfl, hq⟩
      · rw [eo _ _ (by omega) (by omega), eo _ _ (by omega) (by omega)]
        exact ⟨g4, g5⟩
    · rw [eo _ _ (by omega) (by omega), eo _ _ (by omega) (by omega)]
      exact g6 k hk
    · rw [tx_c (g := fun k => gI M 167 (181 + 122 * i + k)) (fun k hk => eo _ _ (by omega) (by omega))]
      exact g7
  · by_cases c : y = n
    · subst c
      rw [gI_ne (by omega), gI_self]
      rcases hq with rfl | rfl <;> decide
    · rw [eo _ _ (by omega) (by omega)]
      exact (hI.2.2.2.2 y hy).1
theorem IV_of {M : xM} {np nr ng no nu q : Nat} {y z : Int32} (hI : IV M) (hm : mR M 1 M 167 np nr ng) (ho : oR M 71 M 167 nr no) (hu : ruR M 55 M 167 nu) (hn : no < 8) (hq : q < nr) (hy : nr3 1 99 y) (hz : nr3 1 999 z) : IV (sI (sI (sI (sI (sI (sI (sI (sI M 72 no (nI q)) 73 no y) 74 no z) 71 3 (nI (no + 1))) 167 (155 + 3 * no) (nI q)) 167 (155 + 3 * no + 1) y) 167 (155 + 3 * no + 2) z) 167 1647 (nI (no + 1))) := by
  have hnu := hu.1
  have hn2 := hm.1.1
  have hr2 := hm.1.2.1
  obtain ⟨M2, hM2⟩ : ∃ M2, M2 = (sI (sI (sI (sI (sI (sI (sI (sI M 72 no (nI q)) 73 no y) 74 no z) 71 3 (nI (no + 1))) 167 (155 + 3 * no) (nI q)) 167 (155 + 3 * no + 1) y) 167 (155 + 3 * no + 2) z) 167 1647 (nI (no + 1))) := ⟨_, rfl⟩
  have eo : ∀ x y, ¬ (71 ≤ x ∧ x ≤ 74) → ¬ (x = 167 ∧ (155 + 3 * no ≤ y ∧ y ≤ 157 + 3 * no ∨ y = 1647)) → gI M2 x y = gI M x y := fun x y h1 h2 => by
    rw [hM2, gI_ne (by omega), gI_ne (by omega), gI_ne (by omega), gI_ne (by omega), gI_ne (by omega), gI_ne (by omega), gI_ne (by omega), gI_ne (by omega)]
  have ec : ∀ x y, 71 ≤ x ∧ x ≤ 74 → ¬ (x = 71 ∧ y = 3) → ¬ y = no → gI M2 x y = gI M x y := fun x y h1 h2 h3 => by
    rw [hM2, gI_ne (by omega), gI_ne (by omega), gI_ne (by omega), gI_ne (by omega), gI_ne (by omega), gI_ne (by omega), gI_ne (by omega), gI_ne (by omega)]
  have ej : gJ M2 166 18 = gJ M 166 18 := by rw [hM2]; rfl
  have r1 : gI M2 167 1647 = nI (no + 1) := by rw [hM2, gI_self]
  have r2 : gI M2 71 3 = nI (no + 1) := by rw [hM2, gI_ne (by omega), gI_ne (by omega), gI_ne (by omega), gI_ne (by omega), gI_self]
  have r3 : gI M2 72 no = nI q := by rw [hM2, gI_ne (by omega), gI_ne (by omega), gI_ne (by omega), gI_ne (by omega), gI_ne (by omega), gI_ne (by omega), gI_ne (by omega), gI_self]
  have r4 : gI M2 73 no = y := by rw [hM2, gI_ne (by omega), gI_ne (by omega), gI_ne (by omega), gI_ne (by omega), gI_ne (by omega), gI_ne (by omega), gI_self]
  have r5 : gI M2 74 no = z := by rw [hM2, gI_ne (by omega), gI_ne (by omega), gI_ne (by omega), gI_ne (by omega), gI_ne (by omega), gI_self]
  have r6 : gI M2 167 (155 + 3 * no) = nI q := by rw [hM2, gI_ne (by omega), gI_ne (by omega), gI_ne (by omega), gI_self]
  have r7 : gI M2 167 (155 + 3 * no + 1) = y := by rw [hM2, gI_ne (by omega), gI_ne (by omega), gI_self]
  have r8 : gI M2 167 (155 + 3 * no + 2) = z := by rw [hM2, gI_ne (by omega), gI_self]
  rw [← hM2]
  clear hM2
  refine IV_set hI ⟨np, nr, ng, no + 1, nu, ?_, ?_, ruR_g2 hu (fun x y p q => eo _ _ (by omega) (by omega)) (fun y p => eo _ _ (by omega) (by omega))⟩ (fun x y p => eo _ _ (by omega) (by omega)) (eo _ _ (by omega) (by omega)) ej (fun y hy => ?_)
  · obtain ⟨a0, a1, a2, a3, a4, a5, a6, a7, a8, a9, a10⟩ := hm
    have hR : ∀ y, (y < 155 ∨ (1643 ≤ y ∧ y ≠ 1647)) → gI M2 167 y = gI M 167 y := fun y p => eo _ _ (by omega) (by omega)
    have hC : ∀ x y, x < 28 → gI M2 x y = gI M x y := fun x y p => eo _ _ (by omega) (by omega)
    refine ⟨a0, ⟨(hC _ _ (by omega)).trans a1.1, (hR _ (by omega)).trans a1.2⟩, ⟨(hC _ _ (by omega)).trans a2.1, (hR _ (by omega)).trans a2.2⟩, ⟨(hC _ _ (by omega)).trans a3.1, (hR _ (by omega)).trans a3.2⟩, ?_, ?_, ?_, fun k hk => ?_, fun k hk => ?_, fun p hp => ?_, fun r hr => ?_⟩
    · rw [hC _ _ (by omega), hR _ (by omega)]; exact a4
    · rw [hC _ _ (by omega), hR _ (by omega)]; exact a5
    · rw [hC _ _ (by omega), hR _ (by omega)]; exact a6
    · rw [hC _ _ (by omega), hR _ (by omega)]; exact a7 k hk
    · rw [hC _ _ (by omega), hR _ (by omega)]; exact a8 k hk
    · obtain ⟨⟨b1, b2⟩, b3⟩ := a9 p hp
      refine ⟨⟨(hC _ _ (by omega)).trans b1, fun k hk => ?_⟩, pB_c (fun k hk => hR _ (by omega)) b3⟩
      rw [hC _ _ (by omega), hR _ (by omega)]; exact b2 k hk
    · obtain ⟨⟨b1, b2⟩, b3⟩ := a10 r hr
      obtain ⟨⟨hh, h1, h22⟩, b4, b5, b6, b7, b8⟩ := b3
      have z0 : gI M2 167 (70 + 6 * r) = gI M 167 (70 + 6 * r) := hR _ (by omega)
      refine ⟨⟨fun k hk => ?_, ?_⟩, ⟨hh, h1, z0.trans h22⟩, ?_, ?_, ?_, ?_, ?_⟩
      · rw [hC _ _ (by omega), hR _ (by omega)]; exact b1 k hk
      · rw [hC _ _ (by omega), b2]; exact (aA_c h22 (by omega) z0 (hR _ (by omega)) (hR _ (by omega))).symm
      · rw [hR _ (by omega)]; exact b4
      · rw [hR _ (by omega)]; exact b5
      · rw [hR _ (by omega)]; exact b6
      · rw [hR _ (by omega)]; exact b7
      · rw [hR _ (by omega)]; exact b8
  · refine ⟨by omega, ⟨r2, r1⟩, fun k hk => ?_⟩
    by_cases c : k = no
    · subst c
      rw [show 71 + 1 = 72 by omega, show 71 + 2 = 73 by omega, show 71 + 3 = 74 by omega, r3, r4, r5, r6, r7, r8]
      exact ⟨⟨rfl, rfl, rfl⟩, ⟨q, hq, rfl⟩, hy, hz⟩
    · rw [ec (71 + 1) k (by omega) (by omega) c, ec (71 + 2) k (by omega) (by omega) c, ec (71 + 3) k (by omega) (by omega) c, eo _ _ (by omega) (by omega), eo _ _ (by omega) (by omega), eo _ _ (by omega) (by omega)]
      exact ho.2.2 k (by omega)
  · rw [eo _ _ (by omega) (by omega)]
    exact (hI.2.2.2.2 y hy).1
theorem pr_becomes {κ : xKK} {M : xM} (hI : IV M) {i w : Int32} : PRi κ mX11_becomes mX12_becomes [.int i, .int w] M := by
  intro d hd
  have hI9 := hI
  obtain ⟨⟨np, nr, ng, no, nu, hm, ho, hu⟩, hj, hs, hi9, ht9⟩ := hI
  have hn := hm.2.1.1
  have hn2 := hm.1.1
  have hr := hm.2.2.1.1
  have hr2 := hm.1.2.1
  have hsh : ∀ i, i < np → 0 ≤ (cSh M 1 (6 + i)).toInt ∧ (cSh M 1 (6 + i)).toInt < 5 := fun i hi => r_sh hm hi
  have hz : ∀ j, j < 8 → ∃ z, z ≤ 120 ∧ gI M (142 + 3 * j) 3 = nI z := fun j hj => (hs j hj).2.2.1.elim (fun z q => ⟨z, q.1, q.2.1⟩)
  refine xE2.imp (e_x_becomes hr hr2 (by omega)) (fun v M1 h1 => ?_)
  rcases h1 with ⟨j, hj1, hj2, c1, c2, rfl, hk⟩ | ⟨hno, rfl, hk⟩
  · have e67 : ∀ k, gI M1 167 k = gI M 167 k := fun k => by rw [hk]; exact gI_ne (by omega)
    refine ⟨_, rfl, fun d2 hd2 => xE2.imp (e_m_becomes ((e67 _).trans hm.2.2.1.2) hr2 (by omega)) (fun v2 M2 h2 => ?_)⟩
    rcases h2 with ⟨j2, hj3, hj4, c12, c22, rfl, hk2⟩ | ⟨hno2, rfl, hk2⟩
    · obtain rfl : j2 = j := nI_injb (by omega) (by omega) (hj2.symm.trans hj4)
      subst hk2
      subst hk
      refine ⟨?_, ?_⟩
      · rw [e67]
        exact congrArg (fun z => some (Value.int z)) ((r_q hm hj1).1 5 (by omega)).symm
      · exact IV_rp hI9 hm ho hu hj1 (Or.inr (Or.inr ⟨rfl, n3_k (k := 2) c1 c2 (by omega)⟩))
    · exact absurd ⟨j, hj1, hj2, c1, c2⟩ hno2
  · subst hk
    have e67 : ∀ k, gI M1 167 k = gI M1 167 k := fun k => rfl
    refine ⟨_, rfl, fun d2 hd2 => xE2.imp (e_m_becomes ((e67 _).trans hm.2.2.1.2) hr2 (by omega)) (fun v2 M2 h2 => ?_)⟩
    rcases h2 with ⟨j2, hj3, hj4, c12, c22, rfl, hk2⟩ | ⟨hno2, rfl, hk2⟩
    · exact absurd ⟨j2, hj3, hj4, c12, c22⟩ hno
    · exact ⟨rfl, hk2 ▸ hI9⟩
theorem pr_tight {κ : xKK} {M : xM} (hI : IV M) {i w : Int32} : PRi κ mX11_tight mX12_tight [.int i, .int w] M := by
  intro d hd
  have hI9 := hI
  obtain ⟨⟨np, nr, ng, no, nu, hm, ho, hu⟩, hj, hs, hi9, ht9⟩ := hI
  have hn := hm.2.1.1
  have hn2 := hm.1.1
  have hr := hm.2.2.1.1
  have hr2 := hm.1.2.1
  have hsh : ∀ i, i < np → 0 ≤ (cSh M 1 (6 + i)).toInt ∧ (cSh M 1 (6 + i)).toInt < 5 := fun i hi => r_sh hm hi
  have hz : ∀ j, j < 8 → ∃ z, z ≤ 120 ∧ gI M (142 + 3 * j) 3 = nI z := fun j hj => (hs j hj).2.2.1.elim (fun z q => ⟨z, q.1, q.2.1⟩)
  refine xE2.imp (e_x_tight hr hr2 (by omega)) (fun v M1 h1 => ?_)
  rcases h1 with ⟨j, hj1, hj2, c1, c2, rfl, hk⟩ | ⟨hno, rfl, hk⟩
  · have e67 : ∀ k, gI M1 167 k = gI M 167 k := fun k => by rw [hk]; exact gI_ne (by omega)
    refine ⟨_, rfl, fun d2 hd2 => xE2.imp (e_m_tight ((e67 _).trans hm.2.2.1.2) hr2 (by omega)) (fun v2 M2 h2 => ?_)⟩
    rcases h2 with ⟨j2, hj3, hj4, c12, c22, rfl, hk2⟩ | ⟨hno2, rfl, hk2⟩
    · obtain rfl : j2 = j := nI_injb (by omega) (by omega) (hj2.symm.trans hj4)
      subst hk2
      subst hk
      refine ⟨?_, ?_⟩
      · rw [e67]
        exact congrArg (fun z => some (Value.int z)) ((r_q hm hj1).1 4 (by omega)).symm
      · exact IV_rp hI9 hm ho hu hj1 (Or.inr (Or.inl ⟨rfl, n3_k (k := 999) c1 c2 (by omega)⟩))
    · exact absurd ⟨j, hj1, hj2, c1, c2⟩ hno2
  · subst hk
    have e67 : ∀ k, gI M1 167 k = gI M1 167 k := fun k => rfl
    refine ⟨_, rfl, fun d2 hd2 => xE2.imp (e_m_tight ((e67 _).trans hm.2.2.1.2) hr2 (by omega)) (fun v2 M2 h2 => ?_)⟩
    rcases h2 with ⟨j2, hj3, hj4, c12, c22, rfl, hk2⟩ | ⟨hno2, rfl, hk2⟩
    · exact absurd ⟨j2, hj3, hj4, c12, c22⟩ hno
    · exact ⟨rfl, hk2 ▸ hI9⟩
theorem pr_ice {κ : xKK} {M : xM} (hI : IV M) {i w : Int32} : PRi κ mX11_ice mX12_ice [.int i, .int w] M := by
  intro d hd
  have hI9 := hI
  obtain ⟨⟨np, nr, ng, no, nu, hm, ho, hu⟩, hj, hs, hi9, ht9⟩ := hI
  have hn := hm.2.1.1
  have hn2 := hm.1.1
  have hr := hm.2.2.1.1
  have hr2 := hm.1.2.1
  have hsh : ∀ i, i < np → 0 ≤ (cSh M 1 (6 + i)).toInt ∧ (cSh M 1 (6 + i)).toInt < 5 := fun i hi => r_sh hm hi
  have hz : ∀ j, j < 8 → ∃ z, z ≤ 120 ∧ gI M (142 + 3 * j) 3 = nI z := fun j hj => (hs j hj).2.2.1.elim (fun z q => ⟨z, q.1, q.2.1⟩)
  refine xE2.imp (e_x_ice hn hn2 (by omega)) (fun v M1 h1 => ?_)
  rcases h1 with ⟨j, hj1, hj2, c1, c2, rfl, hk⟩ | ⟨hno, rfl, hk⟩
  · have e67 : ∀ k, gI M1 167 k = gI M 167 k := fun k => by rw [hk]; exact gI_ne (by omega)
    refine ⟨_, rfl, fun d2 hd2 => xE2.imp (e_m_ice ((e67 _).trans hm.2.1.2) hn2 (by omega)) (fun v2 M2 h2 => ?_)⟩
    rcases h2 with ⟨j2, hj3, hj4, c12, c22, rfl, hk2⟩ | ⟨hno2, rfl, hk2⟩
    · obtain rfl : j2 = j := nI_injb (by omega) (by omega) (hj2.symm.trans hj4)
      subst hk2
      subst hk
      refine ⟨?_, ?_⟩
      · rw [e67]
        exact congrArg (fun z => some (Value.int z)) ((r_p hm hj1).1 5 (by omega)).symm
      · exact IV_pc hI9 hm ho hu hj1 (Or.inl ⟨rfl, n3_k (k := 20) c1 c2 (by omega)⟩)
    · exact absurd ⟨j, hj1, hj2, c1, c2⟩ hno2
  · subst hk
    have e67 : ∀ k, gI M1 167 k = gI M1 167 k := fun k => rfl
    refine ⟨_, rfl, fun d2 hd2 => xE2.imp (e_m_ice ((e67 _).trans hm.2.1.2) hn2 (by omega)) (fun v2 M2 h2 => ?_)⟩
    rcases h2 with ⟨j2, hj3, hj4, c12, c22, rfl, hk2⟩ | ⟨hno2, rfl, hk2⟩
    · exact absurd ⟨j2, hj3, hj4, c12, c22⟩ hno
    · exact ⟨rfl, hk2 ▸ hI9⟩
theorem pr_odds {κ : xKK} {M : xM} (hI : IV M) {i w : Int32} : PRi κ mX11_odds mX12_odds [.int i, .int w] M := by
  intro d hd
  have hI9 := hI
  obtain ⟨⟨np, nr, ng, no, nu, hm, ho, hu⟩, hj, hs, hi9, ht9⟩ := hI
  have hn := hm.2.1.1
  have hn2 := hm.1.1
  have hr := hm.2.2.1.1
  have hr2 := hm.1.2.1
  have hsh : ∀ i, i < np → 0 ≤ (cSh M 1 (6 + i)).toInt ∧ (cSh M 1 (6 + i)).toInt < 5 := fun i hi => r_sh hm hi
  have hz : ∀ j, j < 8 → ∃ z, z ≤ 120 ∧ gI M (142 + 3 * j) 3 = nI z := fun j hj => (hs j hj).2.2.1.elim (fun z q => ⟨z, q.1, q.2.1⟩)
  refine xE2.imp (e_x_odds hn hn2 (by omega)) (fun v M1 h1 => ?_)
  rcases h1 with ⟨j, hj1, hj2, c1, c2, rfl, hk⟩ | ⟨hno, rfl, hk⟩
  · have e67 : ∀ k, gI M1 167 k = gI M 167 k := fun k => by rw [hk]; exact gI_ne (by omega)
    refine ⟨_, rfl, fun d2 hd2 => xE2.imp (e_m_odds ((e67 _).trans hm.2.1.2) hn2 (by omega)) (fun v2 M2 h2 => ?_)⟩
    rcases h2 with ⟨j2, hj3, hj4, c12, c22, rfl, hk2⟩ | ⟨hno2, rfl, hk2⟩
    · obtain rfl : j2 = j := nI_injb (by omega) (by omega) (hj2.symm.trans hj4)
      subst hk2
      subst hk
      refine ⟨?_, ?_⟩
      · rw [e67]
        exact congrArg (fun z => some (Value.int z)) ((r_p hm hj1).1 6 (by omega)).symm
      · exact IV_pc hI9 hm ho hu hj1 (Or.inr ⟨rfl, n3_k (k := 100) c1 c2 (by omega)⟩)
    · exact absurd ⟨j, hj1, hj2, c1, c2⟩ hno2
  · subst hk
    have e67 : ∀ k, gI M1 167 k = gI M1 167 k := fun k => rfl
    refine ⟨_, rfl, fun d2 hd2 => xE2.imp (e_m_odds ((e67 _).trans hm.2.1.2) hn2 (by omega)) (fun v2 M2 h2 => ?_)⟩
    rcases h2 with ⟨j2, hj3, hj4, c12, c22, rfl, hk2⟩ | ⟨hno2, rfl, hk2⟩
    · exact absurd ⟨j2, hj3, hj4, c12, c22⟩ hno
    · exact ⟨rfl, hk2 ▸ hI9⟩
theorem pr_share {κ : xKK} {M : xM} (hI : IV M) {i w : Int32} : PRi κ mX11_share mX12_share [.int i, .int w] M := by
  intro d hd
  have hI9 := hI
  obtain ⟨⟨np, nr, ng, no, nu, hm, ho, hu⟩, hj, hs, hi9, ht9⟩ := hI
  have hn := hm.2.1.1
  have hn2 := hm.1.1
  have hr := hm.2.2.1.1
  have hr2 := hm.1.2.1
  have hsh : ∀ i, i < np → 0 ≤ (cSh M 1 (6 + i)).toInt ∧ (cSh M 1 (6 + i)).toInt < 5 := fun i hi => r_sh hm hi
  have hz : ∀ j, j < 8 → ∃ z, z ≤ 120 ∧ gI M (142 + 3 * j) 3 = nI z := fun j hj => (hs j hj).2.2.1.elim (fun z q => ⟨z, q.1, q.2.1⟩)
  refine xE2.imp (e_x_share) (fun v M1 h1 => ?_)
  rcases h1 with ⟨j, hj1, hj2, c1, c2, rfl, hk⟩ | ⟨hno, rfl, hk⟩
  · have e67 : ∀ k, gI M1 167 k = gI M 167 k := fun k => by rw [hk]; exact gI_ne (by omega)
    refine ⟨_, rfl, fun d2 hd2 => xE2.imp (e_m_share (by omega)) (fun v2 M2 h2 => ?_)⟩
    rcases h2 with ⟨j2, hj3, hj4, c12, c22, rfl, hk2⟩ | ⟨hno2, rfl, hk2⟩
    · obtain rfl : j2 = j := nI_injb (by omega) (by omega) (hj2.symm.trans hj4)
      subst hk2
      subst hk
      refine ⟨?_, ?_⟩
      · rw [e67]
        exact congrArg (fun z => some (Value.int z)) (hm.2.2.2.2.2.2.2.1 j2 hj1).1.symm
      · exact IV_sh hI9 hm ho hu hj1 (n3_k (k := 200) c1 c2 (by omega))
    · exact absurd ⟨j, hj1, hj2, c1, c2⟩ hno2
  · subst hk
    have e67 : ∀ k, gI M1 167 k = gI M1 167 k := fun k => rfl
    refine ⟨_, rfl, fun d2 hd2 => xE2.imp (e_m_share (by omega)) (fun v2 M2 h2 => ?_)⟩
    rcases h2 with ⟨j2, hj3, hj4, c12, c22, rfl, hk2⟩ | ⟨hno2, rfl, hk2⟩
    · exact absurd ⟨j2, hj3, hj4, c12, c22⟩ hno
    · exact ⟨rfl, hk2 ▸ hI9⟩
