/-! ===== pairs: wind, gust, tell, offer, text ===== -/
theorem pr_wind {κ : xKK} {M : xM} (hI : IV M) {w q : Int32} : PRi κ mX11_wind mX12_wind [.int w, .int q] M := by
  intro d hd
  have hI9 := hI
  obtain ⟨⟨np, nr, ng, no, nu, hm, ho, hu⟩, hj, hs, hi9, ht9⟩ := hI
  have hn := hm.2.1.1
  have hn2 := hm.1.1
  have hr := hm.2.2.1.1
  have hr2 := hm.1.2.1
  have hsh : ∀ i, i < np → 0 ≤ (cSh M 1 (6 + i)).toInt ∧ (cSh M 1 (6 + i)).toInt < 5 := fun i hi => r_sh hm hi
  have hz : ∀ j, j < 8 → ∃ z, z ≤ 120 ∧ gI M (142 + 3 * j) 3 = nI z := fun j hj => (hs j hj).2.2.1.elim (fun z q => ⟨z, q.1, q.2.1⟩)
  refine xE2.imp e_x_wind (fun v M1 h1 => ?_)
  rcases h1 with ⟨c1, c2, c3, rfl, hk⟩ | ⟨hno, rfl, hk⟩
  · subst hk
    refine ⟨_, rfl, fun d2 hd2 => xE2.imp (e_m_wind (by omega)) (fun v2 M2 h2 => ?_)⟩
    rcases h2 with ⟨_, _, _, rfl, rfl⟩ | ⟨hno2, _⟩
    · refine ⟨?_, IV_wd hI9 hm ho hu (n3_k (k := 99) c1 c2 (by omega)) c3⟩
      rw [gI_ne (by omega), gI_ne (by omega)]
      exact congrArg (fun z => some (Value.int z)) hm.2.2.2.2.2.1.1.symm
    · exact absurd ⟨c1, c2, c3⟩ hno2
  · subst hk
    refine ⟨_, rfl, fun d2 hd2 => xE2.imp (e_m_wind (by omega)) (fun v2 M2 h2 => ?_)⟩
    rcases h2 with ⟨c1, c2, c3, _⟩ | ⟨hno2, rfl, rfl⟩
    · exact absurd ⟨c1, c2, c3⟩ hno
    · exact ⟨rfl, hI9⟩
theorem pr_gust {κ : xKK} {M : xM} (hI : IV M) {w : Int32} : PRi κ mX11_gust mX12_gust [.int w] M := by
  intro d hd
  have hI9 := hI
  obtain ⟨⟨np, nr, ng, no, nu, hm, ho, hu⟩, hj, hs, hi9, ht9⟩ := hI
  have hn := hm.2.1.1
  have hn2 := hm.1.1
  have hr := hm.2.2.1.1
  have hr2 := hm.1.2.1
  have hsh : ∀ i, i < np → 0 ≤ (cSh M 1 (6 + i)).toInt ∧ (cSh M 1 (6 + i)).toInt < 5 := fun i hi => r_sh hm hi
  have hz : ∀ j, j < 8 → ∃ z, z ≤ 120 ∧ gI M (142 + 3 * j) 3 = nI z := fun j hj => (hs j hj).2.2.1.elim (fun z q => ⟨z, q.1, q.2.1⟩)
  have hng := hm.1.2.2
  have hn9 := hm.2.2.2.1
  refine xE2.imp (e_x_gust hn9.1 hng) (fun v M1 h1 => ?_)
  rcases h1 with ⟨c1, c2, c3, rfl, hk⟩ | ⟨c1, c2, c3, rfl, hk⟩ | ⟨hno, rfl, hk⟩
  · subst hk
    refine ⟨_, rfl, fun d2 hd2 => xE2.imp (e_m_gust (n := ng) ((gI_ne (by omega)).trans ((gI_ne (by omega)).trans hn9.2)) hng (by omega)) (fun v2 M2 h2 => ?_)⟩
    rcases h2 with ⟨_, _, _, rfl, rfl⟩ | ⟨_, _, c, _⟩ | ⟨hno2, _⟩
    · exact ⟨rfl, IV_gu hI9 hm ho hu c3 (n3_k (k := 999) c1 c2 (by omega))⟩
    · omega
    · exact absurd ⟨c1, c2⟩ hno2
  · subst hk
    refine ⟨_, rfl, fun d2 hd2 => xE2.imp (e_m_gust (n := ng) hn9.2 hng (by omega)) (fun v2 M2 h2 => ?_)⟩
    rcases h2 with ⟨_, _, c, _⟩ | ⟨_, _, _, rfl, rfl⟩ | ⟨hno2, _⟩
    · omega
    · exact ⟨rfl, hI9⟩
    · exact absurd ⟨c1, c2⟩ hno2
  · subst hk
    refine ⟨_, rfl, fun d2 hd2 => xE2.imp (e_m_gust (n := ng) hn9.2 hng (by omega)) (fun v2 M2 h2 => ?_)⟩
    rcases h2 with ⟨c1, c2, _⟩ | ⟨c1, c2, _⟩ | ⟨_, rfl, rfl⟩
    · exact absurd ⟨c1, c2⟩ hno
    · exact absurd ⟨c1, c2⟩ hno
    · exact ⟨rfl, hI9⟩
theorem pr_tell {κ : xKK} {M : xM} (hI : IV M) {i q : Int32} (hq : q = 0 ∨ q = 1) : PRi κ mX11_tell mX12_tell [.int i, .int q] M := by
  intro d hd
  have hI9 := hI
  obtain ⟨⟨np, nr, ng, no, nu, hm, ho, hu⟩, hj, hs, hi9, ht9⟩ := hI
  have hn := hm.2.1.1
  have hn2 := hm.1.1
  have hr := hm.2.2.1.1
  have hr2 := hm.1.2.1
  have hsh : ∀ i, i < np → 0 ≤ (cSh M 1 (6 + i)).toInt ∧ (cSh M 1 (6 + i)).toInt < 5 := fun i hi => r_sh hm hi
  have hz : ∀ j, j < 8 → ∃ z, z ≤ 120 ∧ gI M (142 + 3 * j) 3 = nI z := fun j hj => (hs j hj).2.2.1.elim (fun z q => ⟨z, q.1, q.2.1⟩)
  have hnu := hu.1
  have hq1 : q &&& 1 = q := by rcases hq with rfl | rfl <;> decide
  refine xE2.imp (e_x_tell hu.2.1.1 hnu hq1) (fun v M1 h1 => ?_)
  rcases h1 with ⟨j, hj1, hj2, rfl, hk⟩ | ⟨hno, rfl, hk⟩
  · subst hk
    refine ⟨_, rfl, fun d2 hd2 => xE2.imp (e_m_tell (nu := nu) ((gI_ne (by omega)).trans hu.2.1.2) hnu hq (by omega)) (fun v2 M2 h2 => ?_)⟩
    rcases h2 with ⟨j2, hj3, hj4, rfl, rfl⟩ | ⟨hno2, _⟩
    · obtain rfl : j2 = j := nI_injb (by omega) (by omega) (hj2.symm.trans hj4)
      obtain ⟨z, -, -, ⟨g4, -⟩, -⟩ := hu.2.2 j2 hj1
      have g4' : gI M 70 j2 = gI M 167 (179 + 122 * j2) := g4
      refine ⟨?_, IV_td hI9 hm ho hu hj1 hq⟩
      rw [gI_ne (by omega), g4']
    · exact absurd ⟨j, hj1, hj2⟩ hno2
  · subst hk
    refine ⟨_, rfl, fun d2 hd2 => xE2.imp (e_m_tell (nu := nu) hu.2.1.2 hnu hq (by omega)) (fun v2 M2 h2 => ?_)⟩
    rcases h2 with ⟨j2, hj3, hj4, _⟩ | ⟨_, rfl, rfl⟩
    · exact absurd ⟨j2, hj3, hj4⟩ hno
    · exact ⟨rfl, hI9⟩
theorem pr_offer {κ : xKK} {M : xM} (hI : IV M) {x y z : Int32} : PRi κ mX11_offer mX12_offer [.int x, .int y, .int z] M := by
  intro d hd
  have hI9 := hI
  obtain ⟨⟨np, nr, ng, no, nu, hm, ho, hu⟩, hj, hs, hi9, ht9⟩ := hI
  have hn := hm.2.1.1
  have hn2 := hm.1.1
  have hr := hm.2.2.1.1
  have hr2 := hm.1.2.1
  have hsh : ∀ i, i < np → 0 ≤ (cSh M 1 (6 + i)).toInt ∧ (cSh M 1 (6 + i)).toInt < 5 := fun i hi => r_sh hm hi
  have hz : ∀ j, j < 8 → ∃ z, z ≤ 120 ∧ gI M (142 + 3 * j) 3 = nI z := fun j hj => (hs j hj).2.2.1.elim (fun z q => ⟨z, q.1, q.2.1⟩)
  have hno8 := ho.1
  refine xE2.imp (e_x_offer hr hr2 ho.2.1.1 hno8 (by omega)) (fun v M1 h1 => ?_)
  rcases h1 with ⟨j, hj1, hj2, c1, ⟨c2, rfl, hk⟩ | ⟨c2, rfl, hk⟩⟩ | ⟨hno, rfl, hk⟩
  · subst hk
    have e67 : ∀ k, gI (sI (sI (sI (sI M 72 no x) 73 no y) 74 no z) 71 3 (nI (no + 1))) 167 k = gI M 167 k := fun k => by rw [gI_ne (by omega), gI_ne (by omega), gI_ne (by omega), gI_ne (by omega)]
    refine ⟨_, rfl, fun d2 hd2 => xE2.imp (e_m_offer (nr := nr) (no := no) ((e67 _).trans hm.2.2.1.2) hr2 ((e67 _).trans ho.2.1.2) hno8 (by omega)) (fun v2 M2 h2 => ?_)⟩
    rcases h2 with ⟨j2, hj3, hj4, _, ⟨_, rfl, rfl⟩ | ⟨c3, _⟩⟩ | ⟨hno2, _⟩
    · subst hj2
      exact ⟨rfl, IV_of hI9 hm ho hu c2 hj1 (n3_k1 (k := 99) c1.1 c1.2.1 (by omega)) (n3_k1 (k := 999) c1.2.2.1 c1.2.2.2 (by omega))⟩
    · omega
    · exact absurd ⟨⟨j, hj1, hj2⟩, c1⟩ hno2
  · subst hk
    refine ⟨_, rfl, fun d2 hd2 => xE2.imp (e_m_offer (nr := nr) (no := no) hm.2.2.1.2 hr2 ho.2.1.2 hno8 (by omega)) (fun v2 M2 h2 => ?_)⟩
    rcases h2 with ⟨j2, hj3, hj4, _, ⟨c3, _⟩ | ⟨_, rfl, rfl⟩⟩ | ⟨hno2, _⟩
    · omega
    · exact ⟨rfl, hI9⟩
    · exact absurd ⟨⟨j, hj1, hj2⟩, c1⟩ hno2
  · subst hk
    refine ⟨_, rfl, fun d2 hd2 => xE2.imp (e_m_offer (nr := nr) (no := no) hm.2.2.1.2 hr2 ho.2.1.2 hno8 (by omega)) (fun v2 M2 h2 => ?_)⟩
    rcases h2 with ⟨j2, hj3, hj4, c1, _⟩ | ⟨_, rfl, rfl⟩
    · exact absurd ⟨⟨j2, hj3, hj4⟩, c1⟩ hno
    · exact ⟨rfl, hI9⟩
def oT (k : Nat) : Prop := (142 ≤ k ∧ k < 1643) ∨ (1645 ≤ k ∧ k < 1650)
theorem acM_o {R : xM} {np nr : Nat} {c sd : Int32} {a : Nat → Int32} {k : Nat} (hA : acA R np nr c a) (hk : oT k) : gI (acM R np nr c a sd) 167 k = gI R 167 k := by
  unfold oT at hk
  unfold acM
  by_cases c1 : c = 112
  · have h1 := (hA.1 c1).1
    rw [if_pos c1, pcM_g, if_neg (by omega), if_neg (by omega)]
  · rw [if_neg c1]
    by_cases c2 : c = 114
    · have h1 := (hA.2 c2).2.1
      rw [if_pos c2, rpM_g, if_neg (by omega), if_neg (by omega)]
    · rw [if_neg c2]
      exact gI_ne (by omega)
theorem acM_n {R : xM} {np nr : Nat} {c sd : Int32} {a : Nat → Int32} (hA : acA R np nr c a) (hn : nr = (gI R 167 1644).toNatClampNeg) : (gI R 167 1644).toNatClampNeg ≤ (gI (acM R np nr c a sd) 167 1644).toNatClampNeg := by
  unfold acM
  by_cases c1 : c = 112
  · have h1 := (hA.1 c1).1
    rw [if_pos c1, pcM_g, if_neg (by omega), if_neg (by omega)]
    exact Nat.le_refl _
  · rw [if_neg c1]
    by_cases c2 : c = 114
    · have h1 := (hA.2 c2).2.1
      rw [if_pos c2, rpM_g, if_neg (by omega), if_pos ⟨rfl, rfl⟩, nI_cl (by omega)]
      omega
    · rw [if_neg c2, gI_ne (by omega)]
      exact Nat.le_refl _
theorem txL_o {T : Nat → Int32} {n : Nat} {R0 : xM} : ∀ (f p k : Nat) (R : xM), (∀ j, oT j → gI R 167 j = gI R0 167 j) → ∀ j, oT j → gI (txL T n R0 f R p k).2 167 j = gI R0 167 j
  | 0, _, _, _, h, j, hj => h j hj
  | f + 1, p, k, R, h, j, hj => by
    rw [txL]
    by_cases c : p < n
    · rw [if_pos c]
      by_cases c2 : acA R (gI R 167 1643).toNatClampNeg (gI R 167 1644).toNatClampNeg (chr T n p) (fun i => (stS T n p 0).2.2.1.getD i 0)
      · rw [if_pos c2]
        exact txL_o f _ _ _ (fun j hj => (acM_o c2 hj).trans (h j hj)) j hj
      · rw [if_neg c2]
    · rw [if_neg c]
      exact h j hj
theorem txL_n {T : Nat → Int32} {n : Nat} {R0 : xM} : ∀ (f p k : Nat) (R : xM), (gI R0 167 1644).toNatClampNeg ≤ (gI R 167 1644).toNatClampNeg → (gI R0 167 1644).toNatClampNeg ≤ (gI (txL T n R0 f R p k).2 167 1644).toNatClampNeg
  | 0, _, _, _, h => h
  | f + 1, p, k, R, h => by
    rw [txL]
    by_cases c : p < n
    · rw [if_pos c]
      by_cases c2 : acA R (gI R 167 1643).toNatClampNeg (gI R 167 1644).toNatClampNeg (chr T n p) (fun i => (stS T n p 0).2.2.1.getD i 0)
      · rw [if_pos c2]
        exact txL_n f _ _ _ (Nat.le_trans h (acM_n c2 rfl))
      · rw [if_neg c2]
        exact Nat.le_refl _
    · rw [if_neg c]
      exact h
theorem oR_n {C R : xM} {a sa nr nr2 no : Nat} (h : oR C a R sa nr no) (hn : nr ≤ nr2) : oR C a R sa nr2 no := ⟨h.1, h.2.1, fun k hk => ⟨(h.2.2 k hk).1, (h.2.2 k hk).2.1.elim (fun q z => ⟨q, Nat.lt_of_lt_of_le z.1 hn, z.2⟩), (h.2.2 k hk).2.2⟩⟩
theorem pr_text {κ : xKK} {M : xM} (hI : IV M) {i : Int32} : PRi κ mX11_text mX12_text [.int i] M := by
  intro d hd
  have hI9 := hI
  obtain ⟨⟨np, nr, ng, no, nu, hm, ho, hu⟩, hj, hs, hi9, ht9⟩ := hI
  have hn := hm.2.1.1
  have hn2 := hm.1.1
  have hr := hm.2.2.1.1
  have hr2 := hm.1.2.1
  have hsh : ∀ i, i < np → 0 ≤ (cSh M 1 (6 + i)).toInt ∧ (cSh M 1 (6 + i)).toInt < 5 := fun i hi => r_sh hm hi
  have hz : ∀ j, j < 8 → ∃ z, z ≤ 120 ∧ gI M (142 + 3 * j) 3 = nI z := fun j hj => (hs j hj).2.2.1.elim (fun z q => ⟨z, q.1, q.2.1⟩)
  refine xE2.imp (e_x_text hm hz (by omega)) (fun v M1 h1 => ?_)
  have RR : ∀ j, j < 8 → cRR M j 0 = rWR M j 0 := fun j hj9 => q_RR (hs j hj9) (Or.inr (Int32.le_refl 0))
  rcases h1 with ⟨j, z, hj1, hj2, hz2, hz3, h1⟩ | ⟨hno, rfl, hk⟩
  · have ezz : z = (gI M 172 j).toNatClampNeg := by rw [← (q_z (hs j hj1)).1, hz2, nI_cl (by omega)]
    have z172 : gI M 172 j = nI z := by
      obtain ⟨-, -, ⟨z', z1, z4, z5⟩, -⟩ := hs j hj1
      rw [z5, show z' = z from nI_injb (by omega) (by omega) (hz2.symm.trans z4)]
    rcases h1 with ⟨c1, rfl, hk⟩ | ⟨c1, c2, rfl, hM, hT⟩ | ⟨c1, c2, rfl, ⟨np2, nr2, hM⟩, hT⟩
    · subst hk
      refine ⟨_, rfl, fun d2 hd2 => xE2.imp (e_m_text hm (fun j hj => (hs j hj).2.2.1.elim (fun z q => ⟨z, q.1, q.2.2⟩)) (by omega)) (fun v2 M2 h2 => ?_)⟩
      rcases h2 with ⟨j2, z2, hj3, hj4, hz4, hz5, ⟨d1, rfl, rfl⟩ | ⟨d1, _⟩ | ⟨d1, _⟩⟩ | ⟨hno2, _⟩
      · obtain rfl : j2 = j := nI_injb (by omega) (by omega) (hj2.symm.trans hj4)
        exact ⟨by rw [RR j2 hj1], hI9⟩
      · obtain rfl : j2 = j := nI_injb (by omega) (by omega) (hj2.symm.trans hj4)
        exact absurd ((RR j2 hj1).trans d1) c1
      · obtain rfl : j2 = j := nI_injb (by omega) (by omega) (hj2.symm.trans hj4)
        exact absurd ((RR j2 hj1).trans d1) c1
      · exact absurd ⟨j, hj1, hj2⟩ hno2
    · have e28 : ∀ x k, 28 ≤ x → ¬ x = 127 → ¬ x = 129 → gI M1 x k = gI M x k := fun x k a b c => hT.1 x k ⟨Or.inr a, b, c⟩
      have eE : ∀ k, k < z → gI M1 173 (120 * j + k) = gI M (144 + 3 * j) k := fun k hk => (e28 _ _ (by omega) (by omega) (by omega)).trans (q_E (hs j hj1) k (by omega)).symm
      have hm1 : mR M1 1 M1 167 np nr ng := mR_R hM (fun k => e28 _ _ (by omega) (by omega) (by omega))
      have hI1 : IV M1 := IV_set hI9 ⟨np, nr, ng, no, nu, hm1, oR_g ho (fun x k a b => e28 _ _ (by omega) (by omega) (by omega)) (fun k => e28 _ _ (by omega) (by omega) (by omega)), ruR_g hu (fun x k a b => e28 _ _ (by omega) (by omega) (by omega)) (fun k => e28 _ _ (by omega) (by omega) (by omega))⟩ (fun x k q => hT.1 x k (by omega)) (e28 _ _ (by omega) (by omega) (by omega)) (hT.2.1 _ _) (fun k hk => by rw [e28 70 k (by omega) (by omega) (by omega)]; exact (ht9 k hk).1)
      refine ⟨_, rfl, fun d2 hd2 => xE2.imp (e_m_text hm1 (fun j hj => (hI1.2.2.1 j hj).2.2.1.elim (fun z q => ⟨z, q.1, q.2.2⟩)) (by omega)) (fun v2 M2 h2 => ?_)⟩
      rcases h2 with ⟨j2, z2, hj3, hj4, hz4, hz5, h2⟩ | ⟨hno2, _⟩
      · obtain rfl : j2 = j := nI_injb (by omega) (by omega) (hj2.symm.trans hj4)
        obtain rfl : z2 = z := nI_injb (by omega) (by omega) (z172.symm.trans ((e28 _ _ (by omega) (by omega) (by omega)).symm.trans hz4))
        have e0 : rWR M1 j2 0 = rWR M j2 0 := by unfold rWR; rw [e28 170 j2 (by omega) (by omega) (by omega), e28 171 j2 (by omega) (by omega) (by omega)]
        rw [fpR_c (T' := fun k => gI M1 173 (120 * j2 + k)) eE] at h2
        rcases h2 with ⟨d1, _⟩ | ⟨d1, d3, rfl, hR, hTm⟩ | ⟨d1, d3, _⟩
        · exact absurd (e0.trans ((RR j2 hj1).symm.trans c1)) d1
        · refine ⟨rfl, ?_⟩
          refine IV_k hI1 ⟨fun x k q => ?_, hTm.1 _ _ (by omega) (by omega) (by omega) (by omega), hTm.2.1 _ _⟩
          by_cases c : x = 167
          · subst c; exact hR k
          · exact hTm.1 _ _ c (by omega) (by omega) (by omega)
        · rw [c2] at d3; cases d3
      · exact absurd ⟨j, hj1, hj2⟩ hno2
    · have e28 : ∀ x k, 28 ≤ x → ¬ x = 127 → ¬ x = 129 → gI M1 x k = gI M x k := fun x k a b c => hT.1 x k ⟨Or.inr a, b, c⟩
      have eE : ∀ k, k < z → gI M1 173 (120 * j + k) = gI M (144 + 3 * j) k := fun k hk => (e28 _ _ (by omega) (by omega) (by omega)).trans (q_E (hs j hj1) k (by omega)).symm
      have e67 : ∀ k, gI M1 167 k = gI M 167 k := fun k => e28 _ _ (by omega) (by omega) (by omega)
      have hz1 : ∀ j, j < 8 → ∃ z, z ≤ 120 ∧ gI M1 172 j = nI z := fun j hj => (hs j hj).2.2.1.elim (fun z q => ⟨z, q.1, (e28 _ _ (by omega) (by omega) (by omega)).trans q.2.2⟩)
      have hmx : mR M 1 M1 167 np nr ng := mR_R hm e67
      refine ⟨_, rfl, fun d2 hd2 => xE2.imp (e_m_text hmx hz1 (by omega)) (fun v2 M2 h2 => ?_)⟩
      rcases h2 with ⟨j2, z2, hj3, hj4, hz4, hz5, h2⟩ | ⟨hno2, _⟩
      · obtain rfl : j2 = j := nI_injb (by omega) (by omega) (hj2.symm.trans hj4)
        obtain rfl : z2 = z := nI_injb (by omega) (by omega) (z172.symm.trans ((e28 _ _ (by omega) (by omega) (by omega)).symm.trans hz4))
        have e0 : rWR M1 j2 0 = rWR M j2 0 := by unfold rWR; rw [e28 170 j2 (by omega) (by omega) (by omega), e28 171 j2 (by omega) (by omega) (by omega)]
        obtain ⟨t1, t2⟩ := txL_c (T := gI M (144 + 3 * j2)) (T' := fun k => gI M1 173 (120 * j2 + k)) eE (R0 := M) (R0' := M1) e67 (z2 + 1) 0 0 M M1 e67
        rw [fpR_c (T' := fun k => gI M1 173 (120 * j2 + k)) eE] at h2
        rcases h2 with ⟨d1, _⟩ | ⟨d1, d3, _⟩ | ⟨d1, d3, rfl, hR, hTm⟩
        · exact absurd (e0.trans ((RR j2 hj1).symm.trans c1)) d1
        · rw [c2] at d3; cases d3
        · refine ⟨by rw [t1], ?_⟩
          have eR : ∀ k, gI M2 167 k = gI (txL (gI M (144 + 3 * j2)) z2 M (z2 + 1) M 0 0).2 167 k := fun k => (hR k).trans (t2 k)
          have eC : ∀ x k, (x < 166 ∨ x = 168 ∨ (170 ≤ x ∧ x < 177)) → gI M2 x k = gI M1 x k := fun x k q => hTm.1 _ _ (by omega) (by omega) (by omega) (by omega)
          have eX : ∀ x k, (x < 1 ∨ 28 ≤ x) → (x < 166 ∨ x = 168 ∨ (170 ≤ x ∧ x < 177)) → ¬ x = 127 → ¬ x = 129 → gI M2 x k = gI M x k := fun x k a b c e => (eC x k b).trans (hT.1 x k ⟨a, c, e⟩)
          have hF := txL_o (T := gI M (144 + 3 * j2)) (n := z2) (R0 := M) (z2 + 1) 0 0 M (fun j _ => rfl)
          have hN := txL_n (T := gI M (144 + 3 * j2)) (n := z2) (R0 := M) (z2 + 1) 0 0 M (Nat.le_refl _)
          rw [hm.2.2.1.2, hM.2.2.1.2, nI_cl (by omega), nI_cl (by have := hM.1.2.1; omega)] at hN
          have hno8 := ho.1
          have hnu8 := hu.1
          refine IV_set hI9 ⟨np2, nr2, ng, no, nu, mR_g hM (fun x k a b => eC _ _ (by omega)) eR, ?_, ?_⟩ (fun x k q => eX x k (by omega) (by omega) (by omega) (by omega)) ((hTm.1 _ _ (by omega) (by omega) (by omega) (by omega)).trans (e28 _ _ (by omega) (by omega) (by omega))) ((hTm.2.1 _ _).trans (hT.2.1 _ _)) (fun k hk => by rw [eX 70 k (by omega) (by omega) (by omega) (by omega)]; exact (ht9 k hk).1)
          · exact oR_n (oR_g2 ho (fun x k a b => eX x k (by omega) (by omega) (by omega) (by omega)) (fun k q => (eR k).trans (hF k (by unfold oT; omega)))) hN
          · exact ruR_g2 hu (fun x k a b => eX x k (by omega) (by omega) (by omega) (by omega)) (fun k q => (eR k).trans (hF k (by unfold oT; omega)))
      · exact absurd ⟨j, hj1, hj2⟩ hno2
  · subst hk
    refine ⟨_, rfl, fun d2 hd2 => xE2.imp (e_m_text hm (fun j hj => (hs j hj).2.2.1.elim (fun z q => ⟨z, q.1, q.2.2⟩)) (by omega)) (fun v2 M2 h2 => ?_)⟩
    rcases h2 with ⟨j2, z2, hj3, hj4, _⟩ | ⟨_, rfl, rfl⟩
    · exact absurd ⟨j2, hj3, hj4⟩ hno
    · exact ⟨rfl, hI9⟩
