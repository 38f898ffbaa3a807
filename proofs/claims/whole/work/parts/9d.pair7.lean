/-! ===== pairs: copy, rule ===== -/
theorem pr_copy {κ : xKK} {M : xM} (hI : IV M) {i s k t n : Int32} : PRi κ mX11_copy mX12_copy [.int i, .int s, .int k, .int t, .int n] M := by
  intro d hd
  have hI9 := hI
  obtain ⟨⟨np, nr, ng, no, nu, hm, ho, hu⟩, hj, hs, hi9, ht9⟩ := hI
  have hn := hm.2.1.1
  have hn2 := hm.1.1
  have hr := hm.2.2.1.1
  have hr2 := hm.1.2.1
  have hsh : ∀ i, i < np → 0 ≤ (cSh M 1 (6 + i)).toInt ∧ (cSh M 1 (6 + i)).toInt < 5 := fun i hi => r_sh hm hi
  have hz : ∀ j, j < 8 → ∃ z, z ≤ 120 ∧ gI M (142 + 3 * j) 3 = nI z := fun j hj => (hs j hj).2.2.1.elim (fun z q => ⟨z, q.1, q.2.1⟩)
  have hz0 : ∀ j, j < 8 → ∃ z, z ≤ 120 ∧ gI M 172 j = nI z := fun j hj => (hs j hj).2.2.1.elim (fun z q => ⟨z, q.1, q.2.2⟩)
  have NN : ∀ a b, a < 8 → b < 8 → (cpN M a b ↔ rcN M a b) := fun a b ha hb => by
    unfold cpN rcN
    rw [(hs a ha).1.1, (hs b hb).1.1]
  have SS : ∀ a b, a < 8 → b < 8 → (cpS M a b ↔ rcS M a b) := fun a b ha hb => by
    unfold cpS rcS
    rw [(hs a ha).1.1, (hs b hb).1.1, (hs a ha).2.1.1, (hs b hb).2.1.1]
  refine xE2.imp (e_x_copy hz (by omega)) (fun v M1 h1 => ?_)
  rcases h1 with ⟨a, b, ha, hb, ea, eb, ⟨c1, rfl, hk⟩ | ⟨c1, c2, rfl, hk⟩ | ⟨c1, c2, c3, rfl, hk⟩ | ⟨c1, c2, c3, rfl, hk⟩⟩ | ⟨hno, rfl, hk⟩
  · subst hk
    refine ⟨_, rfl, fun d2 hd2 => xE2.imp (e_m_copy hz0 (by omega)) (fun v2 M2 h2 => ?_)⟩
    rcases h2 with ⟨a2, b2, _, _, ea2, eb2, ⟨d1, rfl, rfl⟩ | ⟨d1, d2, rfl, rfl⟩ | ⟨d1, d2, d3, rfl, rfl⟩ | ⟨d1, d2, d3, rfl, hk2⟩⟩ | ⟨hno2, _⟩
    · obtain rfl : a2 = a := nI_injb (by omega) (by omega) (ea.symm.trans ea2)
      obtain rfl : b2 = b := nI_injb (by omega) (by omega) (eb.symm.trans eb2)
      exact ⟨rfl, hI9⟩
    · obtain rfl : a2 = a := nI_injb (by omega) (by omega) (ea.symm.trans ea2)
      obtain rfl : b2 = b := nI_injb (by omega) (by omega) (eb.symm.trans eb2)
      exact absurd ((NN a2 b2 ha hb).mp c1) d1
    · obtain rfl : a2 = a := nI_injb (by omega) (by omega) (ea.symm.trans ea2)
      obtain rfl : b2 = b := nI_injb (by omega) (by omega) (eb.symm.trans eb2)
      exact absurd ((NN a2 b2 ha hb).mp c1) d1
    · obtain rfl : a2 = a := nI_injb (by omega) (by omega) (ea.symm.trans ea2)
      obtain rfl : b2 = b := nI_injb (by omega) (by omega) (eb.symm.trans eb2)
      exact absurd ((NN a2 b2 ha hb).mp c1) d1
    · exact absurd ⟨⟨a, ha, ea⟩, b, hb, eb⟩ hno2
  · subst hk
    refine ⟨_, rfl, fun d2 hd2 => xE2.imp (e_m_copy hz0 (by omega)) (fun v2 M2 h2 => ?_)⟩
    rcases h2 with ⟨a2, b2, _, _, ea2, eb2, ⟨d1, rfl, rfl⟩ | ⟨d1, d2, rfl, rfl⟩ | ⟨d1, d2, d3, rfl, rfl⟩ | ⟨d1, d2, d3, rfl, hk2⟩⟩ | ⟨hno2, _⟩
    · obtain rfl : a2 = a := nI_injb (by omega) (by omega) (ea.symm.trans ea2)
      obtain rfl : b2 = b := nI_injb (by omega) (by omega) (eb.symm.trans eb2)
      exact absurd ((NN a2 b2 ha hb).mpr d1) c1
    · obtain rfl : a2 = a := nI_injb (by omega) (by omega) (ea.symm.trans ea2)
      obtain rfl : b2 = b := nI_injb (by omega) (by omega) (eb.symm.trans eb2)
      exact ⟨rfl, hI9⟩
    · obtain rfl : a2 = a := nI_injb (by omega) (by omega) (ea.symm.trans ea2)
      obtain rfl : b2 = b := nI_injb (by omega) (by omega) (eb.symm.trans eb2)
      exact absurd ((SS a2 b2 ha hb).mpr d2) c2
    · obtain rfl : a2 = a := nI_injb (by omega) (by omega) (ea.symm.trans ea2)
      obtain rfl : b2 = b := nI_injb (by omega) (by omega) (eb.symm.trans eb2)
      exact absurd ((SS a2 b2 ha hb).mpr d2) c2
    · exact absurd ⟨⟨a, ha, ea⟩, b, hb, eb⟩ hno2
  · subst hk
    refine ⟨_, rfl, fun d2 hd2 => xE2.imp (e_m_copy hz0 (by omega)) (fun v2 M2 h2 => ?_)⟩
    rcases h2 with ⟨a2, b2, _, _, ea2, eb2, ⟨d1, rfl, rfl⟩ | ⟨d1, d2, rfl, rfl⟩ | ⟨d1, d2, d3, rfl, rfl⟩ | ⟨d1, d2, d3, rfl, hk2⟩⟩ | ⟨hno2, _⟩
    · obtain rfl : a2 = a := nI_injb (by omega) (by omega) (ea.symm.trans ea2)
      obtain rfl : b2 = b := nI_injb (by omega) (by omega) (eb.symm.trans eb2)
      exact absurd ((NN a2 b2 ha hb).mpr d1) c1
    · obtain rfl : a2 = a := nI_injb (by omega) (by omega) (ea.symm.trans ea2)
      obtain rfl : b2 = b := nI_injb (by omega) (by omega) (eb.symm.trans eb2)
      exact absurd ((SS a2 b2 ha hb).mp c2) d2
    · obtain rfl : a2 = a := nI_injb (by omega) (by omega) (ea.symm.trans ea2)
      obtain rfl : b2 = b := nI_injb (by omega) (by omega) (eb.symm.trans eb2)
      exact ⟨rfl, hI9⟩
    · obtain rfl : a2 = a := nI_injb (by omega) (by omega) (ea.symm.trans ea2)
      obtain rfl : b2 = b := nI_injb (by omega) (by omega) (eb.symm.trans eb2)
      exact absurd ((q_cp (hs a2 ha) (hs b2 hb)).mpr d3) c3
    · exact absurd ⟨⟨a, ha, ea⟩, b, hb, eb⟩ hno2
  · have c4 := (q_cp (hs a ha) (hs b hb)).mp c3
    obtain ⟨za, za1, za2, za3⟩ := (hs a ha).2.2.1
    obtain ⟨zb, zb1, zb2, zb3⟩ := (hs b hb).2.2.1
    obtain ⟨⟨p1, p2, p3⟩, p4, p5, p6⟩ := c3
    rw [za2, nI_ti (by omega)] at p3
    rw [zb2, nI_ti (by omega)] at p6
    have hS := cl_ti p1
    have hN := cl_ti p2
    have hT := cl_ti p4
    obtain ⟨S, hSe⟩ : ∃ S, S = s.toNatClampNeg := ⟨_, rfl⟩
    obtain ⟨N, hNe⟩ : ∃ N, N = n.toNatClampNeg := ⟨_, rfl⟩
    obtain ⟨U, hUe⟩ : ∃ U, U = t.toNatClampNeg := ⟨_, rfl⟩
    rw [← hSe, ← hNe, ← hUe] at hk
    rw [← hSe] at hS
    rw [← hNe] at hN
    rw [← hUe] at hT
    have e9 : ∀ x k, ¬ (x = 144 + 3 * b ∧ U ≤ k ∧ k < U + N) → gI M1 x k = gI M x k := fun x k q => by
      rw [hk, gIsC]
      by_cases c : x = 144 + 3 * b
      · rw [if_pos c, if_neg (fun z => q ⟨c, z⟩), c]
      · rw [if_neg c]
    have t4 : ∀ k, U ≤ k → k < U + N → gI M1 (144 + 3 * b) k = gI M (144 + 3 * a) (S + (k - U)) := fun k q1 q2 => by
      rw [hk, gIsC, if_pos rfl, if_pos ⟨q1, q2⟩]
    have ej9 : gJ M1 166 18 = gJ M 166 18 := by rw [hk]; rfl
    clear hk
    refine ⟨_, rfl, fun d2 hd2 => xE2.imp (e_m_copy (fun j hj => (hz0 j hj).elim (fun z q => ⟨z, q.1, (e9 _ _ (by omega)).trans q.2⟩)) (by omega)) (fun v2 M2 h2 => ?_)⟩
    rcases h2 with ⟨a2, b2, _, _, ea2, eb2, ⟨d1, _⟩ | ⟨d1, d2, _⟩ | ⟨d1, d2, d3, _⟩ | ⟨d1, d2, d3, rfl, hk2⟩⟩ | ⟨hno2, _⟩
    · obtain rfl : a2 = a := nI_injb (by omega) (by omega) (ea.symm.trans ea2)
      obtain rfl : b2 = b := nI_injb (by omega) (by omega) (eb.symm.trans eb2)
      rw [rcN, e9 170 a2 (by omega), e9 170 b2 (by omega)] at d1
      exact absurd ((NN a2 b2 ha hb).mpr d1) c1
    · obtain rfl : a2 = a := nI_injb (by omega) (by omega) (ea.symm.trans ea2)
      obtain rfl : b2 = b := nI_injb (by omega) (by omega) (eb.symm.trans eb2)
      rw [rcS, e9 170 a2 (by omega), e9 170 b2 (by omega), e9 171 a2 (by omega), e9 171 b2 (by omega)] at d2
      exact absurd ((SS a2 b2 ha hb).mp c2) d2
    · obtain rfl : a2 = a := nI_injb (by omega) (by omega) (ea.symm.trans ea2)
      obtain rfl : b2 = b := nI_injb (by omega) (by omega) (eb.symm.trans eb2)
      rw [rcP, e9 172 a2 (by omega), e9 172 b2 (by omega)] at d3
      exact absurd c4 d3
    · obtain rfl : a2 = a := nI_injb (by omega) (by omega) (ea.symm.trans ea2)
      obtain rfl : b2 = b := nI_injb (by omega) (by omega) (eb.symm.trans eb2)
      rw [← hSe, ← hNe, ← hUe] at hk2
      have f9 : ∀ x k, ¬ (x = 173 ∧ 120 * b2 + U ≤ k ∧ k < 120 * b2 + U + N) → gI M2 x k = gI M1 x k := fun x k q => by
        rw [hk2, mvR_g, if_neg (fun z => q ⟨z.1, by omega, by omega⟩)]
      have u3 : ∀ k, U ≤ k → k < U + N → gI M2 173 (120 * b2 + k) = gI M 173 (120 * a2 + (S + (k - U))) := fun k q1 q2 => by
        rw [hk2, mvR_g, if_pos (by omega), e9 _ _ (by omega), show 120 * a2 + S + (120 * b2 + k - (120 * b2 + U)) = 120 * a2 + (S + (k - U)) by omega]
      have ej2 : gJ M2 166 18 = gJ M1 166 18 := by rw [hk2]; rfl
      clear hk2
      refine ⟨rfl, IV_shf hI9 (fun x k q => (f9 _ _ (by omega)).trans (e9 _ _ (by omega))) ((f9 _ _ (by omega)).trans (e9 _ _ (by omega))) (ej2.trans ej9) (fun i hi => ?_)⟩
      by_cases e : i = b2
      · subst e
        obtain ⟨a1, a2', a3, a4, a5⟩ := hs i hi
        refine ⟨?_, ?_, ?_, fun k hk => ?_, ?_⟩
        · rw [f9 _ _ (by omega), f9 _ _ (by omega), e9 _ _ (by omega), e9 _ _ (by omega)]; exact a1
        · rw [f9 _ _ (by omega), f9 _ _ (by omega), e9 _ _ (by omega), e9 _ _ (by omega)]; exact a2'
        · rw [f9 _ _ (by omega), f9 _ _ (by omega), e9 _ _ (by omega), e9 _ _ (by omega)]; exact a3
        · by_cases ck : U ≤ k ∧ k < U + N
          · rw [f9 _ _ (by omega), t4 k ck.1 ck.2, u3 k ck.1 ck.2]
            exact (hs a2 ha).2.2.2.1 _ (by omega)
          · rw [f9 _ _ (by omega), e9 _ _ (by omega), f9 _ _ (by omega), e9 _ _ (by omega)]
            exact a4 k hk
        · rw [f9 _ _ (by omega), f9 _ _ (by omega), f9 _ _ (by omega), e9 _ _ (by omega), e9 _ _ (by omega), e9 _ _ (by omega), cH_c (M := M) (fun k => (f9 _ _ (by omega)).trans (e9 _ _ (by omega))), cT_c (M := M) (fun k => (f9 _ _ (by omega)).trans (e9 _ _ (by omega)))]
          exact a5
      · exact shI_g (hs i hi) (fun k => (f9 _ _ (by omega)).trans (e9 _ _ (by omega))) (fun k => (f9 _ _ (by omega)).trans (e9 _ _ (by omega))) (fun k _ => (f9 _ _ (by omega)).trans (e9 _ _ (by omega))) (fun x q => (f9 _ _ (by omega)).trans (e9 _ _ (by omega))) (fun k _ => (f9 _ _ (by omega)).trans (e9 _ _ (by omega)))
    · exact absurd ⟨⟨a, ha, ea⟩, b, hb, eb⟩ hno2
  · subst hk
    refine ⟨_, rfl, fun d2 hd2 => xE2.imp (e_m_copy hz0 (by omega)) (fun v2 M2 h2 => ?_)⟩
    rcases h2 with ⟨a, b, ha, hb, ea, eb, _⟩ | ⟨_, rfl, rfl⟩
    · exact absurd ⟨⟨a, ha, ea⟩, b, hb, eb⟩ hno
    · exact ⟨rfl, hI9⟩
