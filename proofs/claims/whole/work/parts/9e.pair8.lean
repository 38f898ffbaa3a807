/-! ===== pair: rule ===== -/
theorem mR_g2 {C C' R R' : xM} {m np nr ng : Nat} (hm : mR C m R 167 np nr ng) (hC : ∀ x k, m ≤ x → x < m + 27 → gI C' x k = gI C x k) (hR : ∀ k, (k < 155 ∨ (1643 ≤ k ∧ k ≠ 1646 ∧ k ≠ 1647)) → gI R' 167 k = gI R 167 k) : mR C' m R' 167 np nr ng := by
  have hn2 := hm.1.1
  have hr2 := hm.1.2.1
  have a : mR C m R' 167 np nr ng := by
    obtain ⟨a0, a1, a2, a3, a4, a5, a6, a7, a8, a9, a10⟩ := hm
    refine ⟨a0, ⟨a1.1, (hR _ (by omega)).trans a1.2⟩, ⟨a2.1, (hR _ (by omega)).trans a2.2⟩, ⟨a3.1, (hR _ (by omega)).trans a3.2⟩, ?_, ?_, ?_, fun k hk => ?_, fun k hk => ?_, fun p hp => ?_, fun r hr => ?_⟩
    · rw [hR _ (by omega)]; exact a4
    · rw [hR _ (by omega)]; exact a5
    · rw [hR _ (by omega)]; exact a6
    · rw [hR _ (by omega)]; exact a7 k hk
    · rw [hR _ (by omega)]; exact a8 k hk
    · obtain ⟨⟨b1, b2⟩, b3⟩ := a9 p hp
      refine ⟨⟨b1, fun k hk => ?_⟩, pB_c (fun k hk => hR _ (by omega)) b3⟩
      rw [hR _ (by omega)]; exact b2 k hk
    · obtain ⟨⟨b1, b2⟩, b3⟩ := a10 r hr
      obtain ⟨⟨hh, h1, h22⟩, b4, b5, b6, b7, b8⟩ := b3
      have z0 : gI R' 167 (70 + 6 * r) = gI R 167 (70 + 6 * r) := hR _ (by omega)
      refine ⟨⟨fun k hk => ?_, ?_⟩, ⟨hh, h1, z0.trans h22⟩, ?_, ?_, ?_, ?_, ?_⟩
      · rw [hR _ (by omega)]; exact b1 k hk
      · rw [b2]; exact (aA_c h22 (by omega) z0 (hR _ (by omega)) (hR _ (by omega))).symm
      · rw [hR _ (by omega)]; exact b4
      · rw [hR _ (by omega)]; exact b5
      · rw [hR _ (by omega)]; exact b6
      · rw [hR _ (by omega)]; exact b7
      · rw [hR _ (by omega)]; exact b8
  exact mR_g a hC (fun _ => rfl)
theorem pr_rule {κ : xKK} {M : xM} (hI : IV M) {i : Int32} : PRi κ mX11_rule mX12_rule [.int i] M := by
  intro d hd
  have hI9 := hI
  obtain ⟨⟨np, nr, ng, no, nu, hm, ho, hu⟩, hj, hs, hi9, ht9⟩ := hI
  have hn := hm.2.1.1
  have hn2 := hm.1.1
  have hr := hm.2.2.1.1
  have hr2 := hm.1.2.1
  have hsh : ∀ i, i < np → 0 ≤ (cSh M 1 (6 + i)).toInt ∧ (cSh M 1 (6 + i)).toInt < 5 := fun i hi => r_sh hm hi
  have hz : ∀ j, j < 8 → ∃ z, z ≤ 120 ∧ gI M (142 + 3 * j) 3 = nI z := fun j hj => (hs j hj).2.2.1.elim (fun z q => ⟨z, q.1, q.2.1⟩)
  have hnu := hu.1
  refine xE2.imp (e_x_rule hz hu.2.1.1 hnu (by omega)) (fun v M1 h1 => ?_)
  rcases h1 with ⟨hno, rfl, hk⟩ | ⟨j, hj1, hj2, ⟨c1, rfl, hk⟩ | ⟨c1, ⟨c2, rfl, hk⟩ | ⟨c2, c3, rfl, hk⟩ | ⟨c2, c3, rfl, Mk, hk1, hM1⟩⟩⟩
  · have k1 : kIV M M1 := kIV_k hk
    have hI1 := IV_k hI9 k1
    have e67 : ∀ k, gI M1 167 k = gI M 167 k := fun k => k1.1 _ _ (by omega)
    have ej : gJ M1 166 18 = gJ M 166 18 := k1.2.2
    have hjk1 : gJ M1 166 18 = 0 := ej.trans hj
    have hm1 : mR M1 1 M1 167 np nr ng := mR_g hm (fun x k a b => k1.1 _ _ (by omega)) e67
    have ho1 : oR M1 71 M1 167 nr no := oR_g ho (fun x k a b => k1.1 _ _ (by omega)) e67
    have hu1 : ruR M1 55 M1 167 nu := ruR_g hu (fun x k a b => k1.1 _ _ (by omega)) e67
    have hs1 : ∀ j, j < 8 → shI M1 j := hI1.2.2.1
    have hz1 : ∀ j, j < 8 → ∃ z, z ≤ 120 ∧ gI M1 172 j = nI z := fun j hj => (hs1 j hj).2.2.1.elim (fun z q => ⟨z, q.1, q.2.2⟩)
    have hn' := hm1.2.1.2
    have hr' := hm1.2.2.1.2
    have hw1 := rPw hm1
    have hh1 := rQh hm1
    have k170 : ∀ j, gI M1 170 j = gI M 170 j := fun j => k1.1 _ _ (by omega)
    have k171 : ∀ j, gI M1 171 j = gI M 171 j := fun j => k1.1 _ _ (by omega)
    have k172 : ∀ j, gI M1 172 j = gI M 172 j := fun j => k1.1 _ _ (by omega)
    have k173 : ∀ k, gI M1 173 k = gI M 173 k := fun k => k1.1 _ _ (by omega)

    refine ⟨_, rfl, fun d2 hd2 => xE2.imp (e_m_rule (nu := nu) hz1 hu1.2.1.2 hnu (by omega)) (fun v2 M2 h2 => ?_)⟩
    rcases h2 with ⟨hno2, rfl, hk2⟩ | ⟨j2, hj3, hj4, ⟨d1, rfl, hk2⟩ | ⟨d1, ⟨d2', rfl, hk2⟩ | ⟨d2', d3, rfl, hk2⟩ | ⟨d2', d3, rfl, M3, hk3, hk2⟩⟩⟩
    · exact ⟨rfl, IV_k hI1 (kIV_r hk2)⟩
    · exact absurd ⟨j2, hj3, hj4⟩ hno
    · exact absurd ⟨j2, hj3, hj4⟩ hno
    · exact absurd ⟨j2, hj3, hj4⟩ hno
    · exact absurd ⟨j2, hj3, hj4⟩ hno
  · have k1 : kIV M M1 := kIV_k hk
    have hI1 := IV_k hI9 k1
    have e67 : ∀ k, gI M1 167 k = gI M 167 k := fun k => k1.1 _ _ (by omega)
    have ej : gJ M1 166 18 = gJ M 166 18 := k1.2.2
    have hjk1 : gJ M1 166 18 = 0 := ej.trans hj
    have hm1 : mR M1 1 M1 167 np nr ng := mR_g hm (fun x k a b => k1.1 _ _ (by omega)) e67
    have ho1 : oR M1 71 M1 167 nr no := oR_g ho (fun x k a b => k1.1 _ _ (by omega)) e67
    have hu1 : ruR M1 55 M1 167 nu := ruR_g hu (fun x k a b => k1.1 _ _ (by omega)) e67
    have hs1 : ∀ j, j < 8 → shI M1 j := hI1.2.2.1
    have hz1 : ∀ j, j < 8 → ∃ z, z ≤ 120 ∧ gI M1 172 j = nI z := fun j hj => (hs1 j hj).2.2.1.elim (fun z q => ⟨z, q.1, q.2.2⟩)
    have hn' := hm1.2.1.2
    have hr' := hm1.2.2.1.2
    have hw1 := rPw hm1
    have hh1 := rQh hm1
    have k170 : ∀ j, gI M1 170 j = gI M 170 j := fun j => k1.1 _ _ (by omega)
    have k171 : ∀ j, gI M1 171 j = gI M 171 j := fun j => k1.1 _ _ (by omega)
    have k172 : ∀ j, gI M1 172 j = gI M 172 j := fun j => k1.1 _ _ (by omega)
    have k173 : ∀ k, gI M1 173 k = gI M 173 k := fun k => k1.1 _ _ (by omega)
    have hsj := hs j hj1
    have ez : (gI M1 172 j).toNatClampNeg = (gI M (142 + 3 * j) 3).toNatClampNeg := by rw [k172 j]; exact (q_z hsj).1.symm
    have eT : tx (fun k => gI M1 173 (120 * j + k)) (gI M (142 + 3 * j) 3).toNatClampNeg = tx (fun k => gI M (144 + 3 * j) k) (gI M (142 + 3 * j) 3).toNatClampNeg := tx_c (fun k hk => (k173 _).trans (q_E hsj k (by rw [← (q_z hsj).1]; exact hk)).symm)
    have eR : rWR M1 j 0 = cRR M j 0 := by
      rw [q_RR hsj (Or.inr (Int32.le_refl 0))]
      unfold rWR
      rw [k170 j, k171 j]
    
    refine ⟨_, rfl, fun d2 hd2 => xE2.imp (e_m_rule (nu := nu) hz1 hu1.2.1.2 hnu (by omega)) (fun v2 M2 h2 => ?_)⟩
    rcases h2 with ⟨hno2, rfl, hk2⟩ | ⟨j2, hj3, hj4, ⟨d1, rfl, hk2⟩ | ⟨d1, ⟨d2', rfl, hk2⟩ | ⟨d2', d3, rfl, hk2⟩ | ⟨d2', d3, rfl, M3, hk3, hk2⟩⟩⟩
    · exact absurd ⟨j, hj1, hj2⟩ hno2
    · exact ⟨rfl, IV_k hI1 (kIV_r hk2)⟩
    · omega
    · omega
    · omega
  · have k1 : kIV M M1 := kIV_k hk
    have hI1 := IV_k hI9 k1
    have e67 : ∀ k, gI M1 167 k = gI M 167 k := fun k => k1.1 _ _ (by omega)
    have ej : gJ M1 166 18 = gJ M 166 18 := k1.2.2
    have hjk1 : gJ M1 166 18 = 0 := ej.trans hj
    have hm1 : mR M1 1 M1 167 np nr ng := mR_g hm (fun x k a b => k1.1 _ _ (by omega)) e67
    have ho1 : oR M1 71 M1 167 nr no := oR_g ho (fun x k a b => k1.1 _ _ (by omega)) e67
    have hu1 : ruR M1 55 M1 167 nu := ruR_g hu (fun x k a b => k1.1 _ _ (by omega)) e67
    have hs1 : ∀ j, j < 8 → shI M1 j := hI1.2.2.1
    have hz1 : ∀ j, j < 8 → ∃ z, z ≤ 120 ∧ gI M1 172 j = nI z := fun j hj => (hs1 j hj).2.2.1.elim (fun z q => ⟨z, q.1, q.2.2⟩)
    have hn' := hm1.2.1.2
    have hr' := hm1.2.2.1.2
    have hw1 := rPw hm1
    have hh1 := rQh hm1
    have k170 : ∀ j, gI M1 170 j = gI M 170 j := fun j => k1.1 _ _ (by omega)
    have k171 : ∀ j, gI M1 171 j = gI M 171 j := fun j => k1.1 _ _ (by omega)
    have k172 : ∀ j, gI M1 172 j = gI M 172 j := fun j => k1.1 _ _ (by omega)
    have k173 : ∀ k, gI M1 173 k = gI M 173 k := fun k => k1.1 _ _ (by omega)
    have hsj := hs j hj1
    have ez : (gI M1 172 j).toNatClampNeg = (gI M (142 + 3 * j) 3).toNatClampNeg := by rw [k172 j]; exact (q_z hsj).1.symm
    have eT : tx (fun k => gI M1 173 (120 * j + k)) (gI M (142 + 3 * j) 3).toNatClampNeg = tx (fun k => gI M (144 + 3 * j) k) (gI M (142 + 3 * j) 3).toNatClampNeg := tx_c (fun k hk => (k173 _).trans (q_E hsj k (by rw [← (q_z hsj).1]; exact hk)).symm)
    have eR : rWR M1 j 0 = cRR M j 0 := by
      rw [q_RR hsj (Or.inr (Int32.le_refl 0))]
      unfold rWR
      rw [k170 j, k171 j]
    
    refine ⟨_, rfl, fun d2 hd2 => xE2.imp (e_m_rule (nu := nu) hz1 hu1.2.1.2 hnu (by omega)) (fun v2 M2 h2 => ?_)⟩
    rcases h2 with ⟨hno2, rfl, hk2⟩ | ⟨j2, hj3, hj4, ⟨d1, rfl, hk2⟩ | ⟨d1, ⟨d2', rfl, hk2⟩ | ⟨d2', d3, rfl, hk2⟩ | ⟨d2', d3, rfl, M3, hk3, hk2⟩⟩⟩
    · exact absurd ⟨j, hj1, hj2⟩ hno2
    · omega
    · obtain rfl : j2 = j := nI_injb (by omega) (by omega) (hj2.symm.trans hj4)
      exact ⟨by rw [eR], IV_k hI1 (kIV_r hk2)⟩
    · obtain rfl : j2 = j := nI_injb (by omega) (by omega) (hj2.symm.trans hj4)
      exact absurd (eR.symm.trans d2') c2
    · obtain rfl : j2 = j := nI_injb (by omega) (by omega) (hj2.symm.trans hj4)
      exact absurd (eR.symm.trans d2') c2
  · have k1 : kIV M M1 := kIV_k hk
    have hI1 := IV_k hI9 k1
    have e67 : ∀ k, gI M1 167 k = gI M 167 k := fun k => k1.1 _ _ (by omega)
    have ej : gJ M1 166 18 = gJ M 166 18 := k1.2.2
    have hjk1 : gJ M1 166 18 = 0 := ej.trans hj
    have hm1 : mR M1 1 M1 167 np nr ng := mR_g hm (fun x k a b => k1.1 _ _ (by omega)) e67
    have ho1 : oR M1 71 M1 167 nr no := oR_g ho (fun x k a b => k1.1 _ _ (by omega)) e67
    have hu1 : ruR M1 55 M1 167 nu := ruR_g hu (fun x k a b => k1.1 _ _ (by omega)) e67
    have hs1 : ∀ j, j < 8 → shI M1 j := hI1.2.2.1
    have hz1 : ∀ j, j < 8 → ∃ z, z ≤ 120 ∧ gI M1 172 j = nI z := fun j hj => (hs1 j hj).2.2.1.elim (fun z q => ⟨z, q.1, q.2.2⟩)
    have hn' := hm1.2.1.2
    have hr' := hm1.2.2.1.2
    have hw1 := rPw hm1
    have hh1 := rQh hm1
    have k170 : ∀ j, gI M1 170 j = gI M 170 j := fun j => k1.1 _ _ (by omega)
    have k171 : ∀ j, gI M1 171 j = gI M 171 j := fun j => k1.1 _ _ (by omega)
    have k172 : ∀ j, gI M1 172 j = gI M 172 j := fun j => k1.1 _ _ (by omega)
    have k173 : ∀ k, gI M1 173 k = gI M 173 k := fun k => k1.1 _ _ (by omega)
    have hsj := hs j hj1
    have ez : (gI M1 172 j).toNatClampNeg = (gI M (142 + 3 * j) 3).toNatClampNeg := by rw [k172 j]; exact (q_z hsj).1.symm
    have eT : tx (fun k => gI M1 173 (120 * j + k)) (gI M (142 + 3 * j) 3).toNatClampNeg = tx (fun k => gI M (144 + 3 * j) k) (gI M (142 + 3 * j) 3).toNatClampNeg := tx_c (fun k hk => (k173 _).trans (q_E hsj k (by rw [← (q_z hsj).1]; exact hk)).symm)
    have eR : rWR M1 j 0 = cRR M j 0 := by
      rw [q_RR hsj (Or.inr (Int32.le_refl 0))]
      unfold rWR
      rw [k170 j, k171 j]
    
    refine ⟨_, rfl, fun d2 hd2 => xE2.imp (e_m_rule (nu := nu) hz1 hu1.2.1.2 hnu (by omega)) (fun v2 M2 h2 => ?_)⟩
    rcases h2 with ⟨hno2, rfl, hk2⟩ | ⟨j2, hj3, hj4, ⟨d1, rfl, hk2⟩ | ⟨d1, ⟨d2', rfl, hk2⟩ | ⟨d2', d3, rfl, hk2⟩ | ⟨d2', d3, rfl, M3, hk3, hk2⟩⟩⟩
    · exact absurd ⟨j, hj1, hj2⟩ hno2
    · omega
    · obtain rfl : j2 = j := nI_injb (by omega) (by omega) (hj2.symm.trans hj4)
      exact absurd (eR.trans c2) d2'
    · obtain rfl : j2 = j := nI_injb (by omega) (by omega) (hj2.symm.trans hj4)
      exact ⟨by rw [ez, eT], IV_k hI1 (kIV_r hk2)⟩
    · obtain rfl : j2 = j := nI_injb (by omega) (by omega) (hj2.symm.trans hj4)
      rw [ez, eT] at d3
      exact absurd d3 c3
  · obtain ⟨z, z1, z2, z3⟩ := (hs j hj1).2.2.1
    have hsj := hs j hj1
    have hzc : (gI M (142 + 3 * j) 3).toNatClampNeg = z := by rw [z2]; exact nI_cl (by omega)
    rw [hzc] at c3 hM1
    have e9 : ∀ x k, ¬ (x = 57 + nu) → ¬ ((x = 69 ∨ x = 70) ∧ k = nu) → ¬ (x = 55 ∧ k = 3) → gI M1 x k = gI Mk x k := fun x k q1 q2 q3 => by
      rw [hM1, gI_ne (by omega), gI_ne (by omega), gI_ne (by omega), gIsC, if_neg q1]
    have t0 : gI M1 55 3 = nI (nu + 1) := by rw [hM1, gI_self]
    have t1 : gI M1 70 nu = 1 := by rw [hM1, gI_ne (by omega), gI_self]
    have t2 : gI M1 69 nu = nI z := by rw [hM1, gI_ne (by omega), gI_ne (by omega), gI_self]
    have t3 : ∀ k, k < z → gI M1 (57 + nu) k = gI M (144 + 3 * j) k := fun k hk => by
      rw [hM1, gI_ne (by omega), gI_ne (by omega), gI_ne (by omega), gIsC, if_pos rfl, if_pos ⟨Nat.zero_le k, by omega⟩, Nat.zero_add, Nat.sub_zero]
      exact hk1.1 _ _ (by omega)
    have ej9 : gJ M1 166 18 = gJ M 166 18 := by rw [hM1]; exact hk1.2.1 _ _ (by omega)
    clear hM1
    have e7 : ∀ x k, (x < 28 ∨ (71 ≤ x ∧ x ≤ 122) ∨ 142 ≤ x) → gI M1 x k = gI M x k := fun x k q => (e9 x k (by omega) (by omega) (by omega)).trans (hk1.1 _ _ (by omega))
    have e67 : ∀ k, gI M1 167 k = gI M 167 k := fun k => e7 _ _ (by omega)
    have k170 : ∀ j, gI M1 170 j = gI M 170 j := fun j => e7 _ _ (by omega)
    have k171 : ∀ j, gI M1 171 j = gI M 171 j := fun j => e7 _ _ (by omega)
    have k172 : ∀ j, gI M1 172 j = gI M 172 j := fun j => e7 _ _ (by omega)
    have k173 : ∀ k, gI M1 173 k = gI M 173 k := fun k => e7 _ _ (by omega)
    have ez : (gI M1 172 j).toNatClampNeg = z := by rw [k172 j, z3]; exact nI_cl (by omega)
    have eT : tx (fun k => gI M1 173 (120 * j + k)) z = tx (fun k => gI M (144 + 3 * j) k) z := tx_c (fun k hk => (k173 _).trans (hsj.2.2.2.1 k (by omega)).symm)
    have eR : rWR M1 j 0 = cRR M j 0 := by
      rw [q_RR hsj (Or.inr (Int32.le_refl 0))]
      unfold rWR
      rw [k170 j, k171 j]
    have hz1 : ∀ j, j < 8 → ∃ z, z ≤ 120 ∧ gI M1 172 j = nI z := fun j hj => (hs j hj).2.2.1.elim (fun z q => ⟨z, q.1, (k172 j).trans q.2.2⟩)
    refine ⟨_, rfl, fun d2 hd2 => xE2.imp (e_m_rule (nu := nu) hz1 ((e67 _).trans hu.2.1.2) hnu (by omega)) (fun v2 M2 h2 => ?_)⟩
    rcases h2 with ⟨hno2, rfl, hk2⟩ | ⟨j2, hj3, hj4, ⟨d1, rfl, hk2⟩ | ⟨d1, ⟨d2', rfl, hk2⟩ | ⟨d2', d3, rfl, hk2⟩ | ⟨d2', d3, rfl, M3, hk3, hk2⟩⟩⟩
    · exact absurd ⟨j, hj1, hj2⟩ hno2
    · omega
    · obtain rfl : j2 = j := nI_injb (by omega) (by omega) (hj2.symm.trans hj4)
      exact absurd (eR.trans c2) d2'
    · obtain rfl : j2 = j := nI_injb (by omega) (by omega) (hj2.symm.trans hj4)
      rw [ez, eT] at d3
      exact absurd c3 d3
    · obtain rfl : j2 = j := nI_injb (by omega) (by omega) (hj2.symm.trans hj4)
      rw [ez] at hk2
      refine ⟨rfl, ?_⟩
      have f7 : ∀ x k, ¬ x = 167 → gI M2 x k = gI M3 x k := fun x k q => by
        rw [hk2, rlJ_g, if_neg (by omega), if_neg (by omega), if_neg (by omega), if_neg (by omega)]
      have f9 : ∀ k, ¬ k = 1646 → ¬ (179 + 122 * nu ≤ k ∧ k < 181 + 122 * nu + z) → gI M2 167 k = gI M 167 k := fun k q1 q2 => by
        rw [hk2, rlJ_g, if_neg (by omega), if_neg (by omega), if_neg (by omega), if_neg (by omega)]
        exact (hk3.1 _ _ (by omega)).trans (e67 k)
      have u0 : gI M2 167 1646 = nI (nu + 1) := by rw [hk2, rlJ_g, if_pos ⟨rfl, rfl⟩]
      have u1 : gI M2 167 (179 + 122 * nu) = 1 := by rw [hk2, rlJ_g, if_neg (by omega), if_pos ⟨rfl, rfl⟩]
      have u2 : gI M2 167 (180 + 122 * nu) = nI z := by rw [hk2, rlJ_g, if_neg (by omega), if_neg (by omega), if_pos ⟨rfl, rfl⟩]
      have u3 : ∀ k, k < z → gI M2 167 (181 + 122 * nu + k) = gI M (144 + 3 * j2) k := fun k hk => by
        rw [hk2, rlJ_g, if_neg (by omega), if_neg (by omega), if_neg (by omega), if_pos (by omega), show 181 + 122 * nu + k - (181 + 122 * nu) = k by omega, hk3.1 173 _ (by omega), k173]
        exact (hsj.2.2.2.1 k (by omega)).symm
      have ej2 : gJ M2 166 18 = gJ M1 166 18 := by rw [hk2]; exact hk3.2.2.1
      have f10 : gI M2 166 10 = gI M1 166 10 := (f7 _ _ (by omega)).trans hk3.2.1
      clear hk2
      have g9 : ∀ x k, (x < 166 ∨ x = 168 ∨ (170 ≤ x ∧ x ≤ 176)) → gI M2 x k = gI M1 x k := fun x k q => (f7 x k (by omega)).trans (hk3.1 _ _ (by omega))
      have gm : ∀ x k, (x < 28 ∨ (71 ≤ x ∧ x ≤ 122) ∨ (142 ≤ x ∧ x < 166) ∨ x = 168 ∨ (170 ≤ x ∧ x ≤ 176)) → gI M2 x k = gI M x k := fun x k q => (g9 x k (by omega)).trans (e7 _ _ (by omega))
      refine IV_set hI9 ⟨np, nr, ng, no, nu + 1, mR_g2 hm (fun x k a b => gm _ _ (by omega)) (fun k q => f9 k (by omega) (by omega)), oR_g2 ho (fun x k a b => gm _ _ (by omega)) (fun k q => f9 k (by omega) (by omega)), ?_⟩ (fun x k q => gm _ _ (by omega)) (f10.trans (e7 _ _ (by omega))) (ej2.trans ej9) (fun k hk => ?_)
      · refine ⟨by omega, ⟨(g9 _ _ (by omega)).trans t0, u0⟩, fun i hi => ?_⟩
        by_cases ci : i = nu
        · subst ci
          refine ⟨z, z1, ⟨(g9 _ _ (by omega)).trans t2, u2⟩, ⟨?_, Or.inr u1⟩, fun k hk => ?_, ?_⟩
          · rw [u1]; exact (g9 _ _ (by omega)).trans t1
          · rw [u3 k hk]; exact (g9 _ _ (by omega)).trans (t3 k hk)
          · rw [tx_c (g := fun k => gI M (144 + 3 * j2) k) (fun k hk => u3 k hk)]
            exact c3
        · obtain ⟨y, g1, ⟨g2, g3⟩, ⟨g4, g5⟩, g6, g7⟩ := hu.2.2 i (by omega)
          have kc : ∀ x k, (x = 69 ∨ x = 70) → ¬ k = nu → gI M2 x k = gI M x k := fun x k q q2 => (g9 _ _ (by omega)).trans ((e9 _ _ (by omega) (by omega) (by omega)).trans (hk1.1 _ _ (by omega)))
          refine ⟨y, g1, ⟨(kc _ _ (by omega) ci).trans g2, (f9 _ (by omega) (by omega)).trans g3⟩, ⟨?_, ?_⟩, fun k hk => ?_, ?_⟩
          · rw [f9 _ (by omega) (by omega)]; exact (kc _ _ (by omega) ci).trans g4
          · rw [f9 _ (by omega) (by omega)]; exact g5
          · rw [f9 _ (by omega) (by omega)]
            exact ((g9 _ _ (by omega)).trans ((e9 _ _ (by omega) (by omega) (by omega)).trans (hk1.1 _ _ (by omega)))).trans (g6 k hk)
          · rw [tx_c (g := fun k => gI M 167 (181 + 122 * i + k)) (fun k hk => f9 _ (by omega) (by omega))]
            exact g7
      · by_cases ck : k = nu
        · subst ck
          rw [g9 _ _ (by omega), t1]; decide
        · rw [g9 _ _ (by omega), e9 _ _ (by omega) (by omega) (by omega), hk1.1 _ _ (by omega)]
          exact (hI9.2.2.2.2 k hk).1
