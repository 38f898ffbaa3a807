/-! ===== pairs: image, restore ===== -/
theorem mR_sa {C R R' : xM} {m sa sb np nr ng : Nat} (hm : mR C m R sa np nr ng) (hR : ∀ k, k < 1651 → gI R' sb k = gI R sa k) : mR C m R' sb np nr ng := by
  have hn2 := hm.1.1
  have hr2 := hm.1.2.1
  obtain ⟨a0, a1, a2, a3, a4, a5, a6, a7, a8, a9, a10⟩ := hm
  refine ⟨a0, ⟨a1.1, (hR _ (by omega)).trans a1.2⟩, ⟨a2.1, (hR _ (by omega)).trans a2.2⟩, ⟨a3.1, (hR _ (by omega)).trans a3.2⟩, ?_, ?_, ?_, fun k hk => ?_, fun k hk => ?_, fun p hp => ?_, fun r hr => ?_⟩
  · rw [hR _ (by omega)]; exact a4
  · rw [hR _ (by omega)]; exact a5
  · rw [hR _ (by omega)]; exact a6
  · rw [hR _ (by omega)]; exact a7 k hk
  · rw [hR _ (by omega)]; exact a8 k hk
  · obtain ⟨⟨b1, b2⟩, b3⟩ := a9 p hp
    refine ⟨⟨b1, fun k hk => ?_⟩, ?_⟩
    · rw [hR _ (by omega)]; exact b2 k hk
    · unfold pB at b3 ⊢
      rw [hR (7 * p) (by omega), hR (7 * p + 1) (by omega), hR (7 * p + 2) (by omega), hR (7 * p + 3) (by omega), hR (7 * p + 4) (by omega), hR (7 * p + 5) (by omega), hR (7 * p + 6) (by omega)]
      exact b3
  · obtain ⟨⟨b1, b2⟩, b3⟩ := a10 r hr
    obtain ⟨⟨hh, h1, h22⟩, b4, b5, b6, b7, b8⟩ := b3
    have z0 : gI R' sb (70 + 6 * r) = gI R sa (70 + 6 * r) := hR _ (by omega)
    refine ⟨⟨fun k hk => ?_, ?_⟩, ⟨hh, h1, z0.trans h22⟩, ?_, ?_, ?_, ?_, ?_⟩
    · rw [hR _ (by omega)]; exact b1 k hk
    · rw [b2]
      have c : (nI hh).toNatClampNeg = hh := nI_cl (by omega)
      unfold aA aA0
      rw [z0, hR (70 + 6 * r + 2) (by omega), h22, c, hR (7 * hh + 1) (by omega)]
    · rw [hR _ (by omega)]; exact b4
    · rw [hR _ (by omega)]; exact b5
    · rw [hR _ (by omega)]; exact b6
    · rw [hR _ (by omega)]; exact b7
    · rw [hR _ (by omega)]; exact b8
theorem oR_sa {C C' R R' : xM} {a b sa sb nr no : Nat} (h : oR C b R sa nr no) (h3 : gI C' a 3 = gI C b 3) (hC : ∀ i k, i < 3 → k < 8 → gI C' (a + 1 + i) k = gI C (b + 1 + i) k) (hR : ∀ k, k < 1651 → gI R' sb k = gI R sa k) : oR C' a R' sb nr no := by
  obtain ⟨h0, h1, h2⟩ := h
  refine ⟨h0, ⟨h3.trans h1.1, (hR _ (by omega)).trans h1.2⟩, fun k hk => ?_⟩
  have c0 := hC 0 k (by omega) (by omega)
  have c1 := hC 1 k (by omega) (by omega)
  have c2 := hC 2 k (by omega) (by omega)
  rw [hR (155 + 3 * k) (by omega), hR (155 + 3 * k + 1) (by omega), hR (155 + 3 * k + 2) (by omega), show a + 2 = a + 1 + 1 by omega, show a + 3 = a + 1 + 2 by omega, show gI C' (a + 1) k = gI C (b + 1) k from c0, c1, c2]
  exact h2 k hk
theorem ruR_sa {C C' R R' : xM} {a b sa sb nu : Nat} (h : ruR C b R sa nu) (h3 : gI C' a 3 = gI C b 3) (hT : ∀ i k, i < 12 → k < 120 → gI C' (a + 2 + i) k = gI C (b + 2 + i) k) (h14 : ∀ i, i < 12 → gI C' (a + 14) i = gI C (b + 14) i) (h15 : ∀ i, i < 12 → gI C' (a + 15) i = gI C (b + 15) i) (hR : ∀ k, k < 1651 → gI R' sb k = gI R sa k) : ruR C' a R' sb nu := by
  obtain ⟨h0, h1, h2⟩ := h
  refine ⟨h0, ⟨h3.trans h1.1, (hR _ (by omega)).trans h1.2⟩, fun i hi => ?_⟩
  obtain ⟨z, g1, ⟨g2, g3⟩, ⟨g4, g5⟩, g6, g7⟩ := h2 i hi
  refine ⟨z, g1, ⟨(h14 i (by omega)).trans g2, (hR _ (by omega)).trans g3⟩, ⟨?_, ?_⟩, fun k hk => ?_, ?_⟩
  · rw [hR _ (by omega)]; exact (h15 i (by omega)).trans g4
  · rw [hR _ (by omega)]; exact g5
  · rw [hR _ (by omega)]; exact (hT i k (by omega) (by omega)).trans (g6 k hk)
  · rw [tx_c (g := fun k => gI R sa (181 + 122 * i + k)) (fun k hk => hR _ (by omega))]
    exact g7
theorem ruX_R {M : xM} {a b : Nat} (hab : a + 16 ≤ b ∨ b + 16 ≤ a) : gI (ruX M a b) a 3 = gI M b 3 ∧ (∀ i k, i < 12 → k < 120 → gI (ruX M a b) (a + 2 + i) k = gI M (b + 2 + i) k) ∧ (∀ i, i < 12 → gI (ruX M a b) (a + 14) i = gI M (b + 14) i) ∧ (∀ i, i < 12 → gI (ruX M a b) (a + 15) i = gI M (b + 15) i) ∧ (∀ x k, x < a ∨ a + 16 ≤ x → gI (ruX M a b) x k = gI M x k) ∧ ∀ x k, gJ (ruX M a b) x k = gJ M x k := by
  unfold ruX
  refine ⟨?_, fun i k hi hk => ?_, fun i hi => ?_, fun i hi => ?_, fun x k q => ?_, fun x k => rfl⟩
  · rw [gI_self, u_3 (by omega)]
  · rw [gI_ne (by omega), u_1 (by omega), show b + (a + 2 + i - a) = b + 2 + i by omega]
  · rw [gI_ne (by omega), u_2 (by omega), show b + (a + 14 - a) = b + 14 by omega]
  · rw [gI_ne (by omega), u_2 (by omega), show b + (a + 15 - a) = b + 15 by omega]
  · rw [gI_ne (by omega), u_3 (by omega)]
theorem pr_image {κ : xKK} {M : xM} (hI : IV M) : PRi κ mX11_image mX12_image [] M := by
  intro d hd
  have hI9 := hI
  obtain ⟨⟨np, nr, ng, no, nu, hm, ho, hu⟩, hj, hs, hi9, ht9⟩ := hI
  have hn := hm.2.1.1
  have hn2 := hm.1.1
  have hr := hm.2.2.1.1
  have hr2 := hm.1.2.1
  have hsh : ∀ i, i < np → 0 ≤ (cSh M 1 (6 + i)).toInt ∧ (cSh M 1 (6 + i)).toInt < 5 := fun i hi => r_sh hm hi
  have hz : ∀ j, j < 8 → ∃ z, z ≤ 120 ∧ gI M (142 + 3 * j) 3 = nI z := fun j hj => (hs j hj).2.2.1.elim (fun z q => ⟨z, q.1, q.2.1⟩)
  refine xE2.imp (e_x_image (fun k hk => (ht9 k hk).1) (by omega)) (fun v M1 h1 => ?_)
  obtain ⟨rfl, hk⟩ := h1
  have mt := mR_tk (a := 75) (b := 1) (M := M) (by omega) hm
  obtain ⟨t1, t2, t3, t4, t5, t6, t7, -⟩ := tkM_R (M := M) (a := 75) (b := 1) (by omega)
  obtain ⟨r1, r2, r3, r4, r5, r6⟩ := ruX_R (M := tkM M 75 1) (a := 102) (b := 55) (by omega)
  obtain ⟨o1, o2, o3, o4, -⟩ := otM_R (M := ruX (tkM M 75 1) 102 55) (a := 118) (b := 71) (by omega)
  have e9 : ∀ x k, (x < 75 ∨ 122 ≤ x) → ¬ x = 0 → gI M1 x k = gI M x k := fun x k q q2 => by
    rw [hk, gI_ne (by omega), o3 x k (by omega), r5 x k (by omega), t6 x k (by omega)]
  have e0 : gI M1 0 7 = 1 := by rw [hk, gI_self]
  have em : ∀ x k, 75 ≤ x → x < 102 → gI M1 x k = gI (tkM M 75 1) x k := fun x k q q2 => by
    rw [hk, gI_ne (by omega), o3 x k (by omega), r5 x k (by omega)]
  have er : ∀ x k, 102 ≤ x → x < 118 → gI M1 x k = gI (ruX (tkM M 75 1) 102 55) x k := fun x k q q2 => by
    rw [hk, gI_ne (by omega), o3 x k (by omega)]
  have eo : ∀ x k, 118 ≤ x → x < 122 → gI M1 x k = gI (otM (ruX (tkM M 75 1) 102 55) 118 71) x k := fun x k q q2 => by
    rw [hk, gI_ne (by omega)]
  have ej : gJ M1 166 18 = gJ M 166 18 := by
    rw [hk]
    exact (o4 _ _).trans ((r6 _ _).trans (t7 _ _))
  clear hk
  have e11 : gI M1 1 1 = nI np := (e9 _ _ (by omega) (by omega)).trans hn
  refine ⟨_, rfl, fun d2 hd2 => xE2.imp e_m_image (fun v2 M2 h2 => ?_)⟩
  obtain ⟨rfl, hk2⟩ := h2
  have f9 : ∀ x k, ¬ x = 168 → ¬ (x = 166 ∧ k = 10) → gI M2 x k = gI M1 x k := fun x k q q2 => by
    rw [hk2, gI_ne (by omega), cpM_g, if_neg (fun z => q z.1)]
  have f0 : gI M2 166 10 = 1 := by rw [hk2, gI_self]
  have f8 : ∀ k, k < 1651 → gI M2 168 k = gI M1 167 k := fun k hk => by
    rw [hk2, gI_ne (by omega), cpM_g, if_pos ⟨rfl, hk⟩]
  have ej2 : gJ M2 166 18 = gJ M1 166 18 := by rw [hk2]; rfl
  clear hk2
  have e67 : ∀ k, gI M2 167 k = gI M 167 k := fun k => (f9 _ _ (by omega) (by omega)).trans (e9 _ _ (by omega) (by omega))
  have f88 : ∀ k, k < 1651 → gI M2 168 k = gI M 167 k := fun k hk => (f8 k hk).trans (e9 _ _ (by omega) (by omega))
  have g9 : ∀ x k, (x < 75 ∨ 122 ≤ x) → ¬ x = 0 → ¬ x = 168 → ¬ (x = 166 ∧ k = 10) → gI M2 x k = gI M x k := fun x k a b c e => (f9 x k c e).trans (e9 x k a b)
  refine ⟨?_, ⟨np, nr, ng, no, nu, mR_g hm (fun x k a b => g9 _ _ (by omega) (by omega) (by omega) (by omega)) e67, oR_g ho (fun x k a b => g9 _ _ (by omega) (by omega) (by omega) (by omega)) e67, ruR_g hu (fun x k a b => g9 _ _ (by omega) (by omega) (by omega) (by omega)) e67⟩, ej2.trans (ej.trans hj), fun j hj9 => shI_g (hs j hj9) (fun k => g9 _ _ (by omega) (by omega) (by omega) (by omega)) (fun k => g9 _ _ (by omega) (by omega) (by omega) (by omega)) (fun k _ => g9 _ _ (by omega) (by omega) (by omega) (by omega)) (fun x q => g9 _ _ (by omega) (by omega) (by omega) (by omega)) (fun k _ => g9 _ _ (by omega) (by omega) (by omega) (by omega)), ⟨⟨?_, Or.inr f0⟩, fun _ => ⟨np, nr, ng, no, nu, ?_, ?_, ?_⟩⟩, fun k hk => ⟨?_, ?_⟩⟩
  · rw [e67, hm.2.1.2, e11]
  · rw [f0, f9 _ _ (by omega) (by omega), e0]
  · exact mR_sa (mR_g mt (C' := M2) (fun x k a b => (f9 _ _ (by omega) (by omega)).trans (em x k (by omega) (by omega))) (fun _ => rfl)) f88
  · refine oR_sa (a := 118) (b := 71) ho ?_ (fun i k hi hk => ?_) f88
    · rw [f9 _ _ (by omega) (by omega), eo _ _ (by omega) (by omega), o1, r5 _ _ (by omega), t6 _ _ (by omega)]
    · rw [f9 _ _ (by omega) (by omega), eo _ _ (by omega) (by omega), o2 i k hi hk, r5 _ _ (by omega), t6 _ _ (by omega)]
  · refine ruR_sa (a := 102) (b := 55) hu ?_ (fun i k hi hk => ?_) (fun i hi => ?_) (fun i hi => ?_) f88
    · rw [f9 _ _ (by omega) (by omega), er _ _ (by omega) (by omega), r1, t6 _ _ (by omega)]
    · rw [f9 _ _ (by omega) (by omega), er _ _ (by omega) (by omega), r2 i k hi hk, t6 _ _ (by omega)]
    · rw [f9 _ _ (by omega) (by omega), er _ _ (by omega) (by omega), r3 i hi, t6 _ _ (by omega)]
    · rw [f9 _ _ (by omega) (by omega), er _ _ (by omega) (by omega), r4 i hi, t6 _ _ (by omega)]
  · rw [g9 70 k (by omega) (by omega) (by omega) (by omega)]; exact (ht9 k hk).1
  · rw [f9 117 k (by omega) (by omega), er 117 k (by omega) (by omega), show gI (ruX (tkM M 75 1) 102 55) 117 k = gI (tkM M 75 1) 70 k from r4 k hk, t6 _ _ (by omega)]
    exact (ht9 k hk).1
theorem pr_restore {κ : xKK} {M : xM} (hI : IV M) : PRi κ mX11_restore mX12_restore [] M := by
  intro d hd
  have hI9 := hI
  obtain ⟨⟨np, nr, ng, no, nu, hm, ho, hu⟩, hj, hs, hi9, ht9⟩ := hI
  have hn := hm.2.1.1
  have hn2 := hm.1.1
  have hr := hm.2.2.1.1
  have hr2 := hm.1.2.1
  have hsh : ∀ i, i < np → 0 ≤ (cSh M 1 (6 + i)).toInt ∧ (cSh M 1 (6 + i)).toInt < 5 := fun i hi => r_sh hm hi
  have hz : ∀ j, j < 8 → ∃ z, z ≤ 120 ∧ gI M (142 + 3 * j) 3 = nI z := fun j hj => (hs j hj).2.2.1.elim (fun z q => ⟨z, q.1, q.2.1⟩)
  obtain ⟨⟨i1, i2⟩, i3⟩ := hi9
  refine xE2.imp (e_x_restore (fun k hk => (ht9 k hk).2) (by omega)) (fun v M1 h1 => ?_)
  rcases h1 with ⟨c1, rfl, hk⟩ | ⟨c1, rfl, hk⟩
  · rw [i1] at c1
    obtain ⟨np2, nr2, ng2, no2, nu2, gm, go, gu⟩ := i3 c1
    have gm' : mR M 75 (cpM M 167 168 1651) 167 np2 nr2 ng2 := mR_sa gm (fun k hk => by rw [cpM_g, if_pos ⟨rfl, hk⟩])
    have mt := mR_tk (a := 1) (b := 75) (M := M) (by omega) gm'
    obtain ⟨t1, t2, t3, t4, t5, t6, t7, -⟩ := tkM_R (M := M) (a := 1) (b := 75) (by omega)
    obtain ⟨r1, r2, r3, r4, r5, r6⟩ := ruX_R (M := tkM M 1 75) (a := 55) (b := 102) (by omega)
    obtain ⟨o1, o2, o3, o4, -⟩ := otM_R (M := ruX (tkM M 1 75) 55 102) (a := 71) (b := 118) (by omega)
    have e9 : ∀ x k, (x < 1 ∨ (28 ≤ x ∧ x < 55) ∨ 75 ≤ x) → gI M1 x k = gI M x k := fun x k q => by
      rw [hk, o3 x k (by omega), r5 x k (by omega), t6 x k (by omega)]
    have em : ∀ x k, 1 ≤ x → x < 28 → gI M1 x k = gI (tkM M 1 75) x k := fun x k q q2 => by
      rw [hk, o3 x k (by omega), r5 x k (by omega)]
    have er : ∀ x k, 55 ≤ x → x < 71 → gI M1 x k = gI (ruX (tkM M 1 75) 55 102) x k := fun x k q q2 => by
      rw [hk, o3 x k (by omega)]
    have eo : ∀ x k, 71 ≤ x → x < 75 → gI M1 x k = gI (otM (ruX (tkM M 1 75) 55 102) 71 118) x k := fun x k q q2 => by
      rw [hk]
    have ej : gJ M1 166 18 = gJ M 166 18 := by
      rw [hk]
      exact (o4 _ _).trans ((r6 _ _).trans (t7 _ _))
    clear hk
    have e11 : gI M1 1 1 = nI np2 := (em _ _ (by omega) (by omega)).trans mt.2.1.1
    refine ⟨_, rfl, fun d2 hd2 => xE2.imp e_m_restore (fun v2 M2 h2 => ?_)⟩
    rcases h2 with ⟨_, rfl, hk2⟩ | ⟨c2, _⟩
    · have f9 : ∀ x k, ¬ x = 167 → gI M2 x k = gI M1 x k := fun x k q => by
        rw [hk2, cpM_g, if_neg (fun z => q z.1)]
      have f7 : ∀ k, k < 1651 → gI M2 167 k = gI M 168 k := fun k hk => by
        rw [hk2, cpM_g, if_pos ⟨rfl, hk⟩, e9 _ _ (by omega)]
      have ej2 : gJ M2 166 18 = gJ M1 166 18 := by rw [hk2]; rfl
      clear hk2
      have g9 : ∀ x k, (x < 1 ∨ (28 ≤ x ∧ x < 55) ∨ 75 ≤ x) → ¬ x = 167 → gI M2 x k = gI M x k := fun x k a b => (f9 x k b).trans (e9 x k a)
      refine ⟨?_, ⟨np2, nr2, ng2, no2, nu2, ?_, ?_, ?_⟩, ej2.trans (ej.trans hj), fun j hj9 => shI_g (hs j hj9) (fun k => g9 _ _ (by omega) (by omega)) (fun k => g9 _ _ (by omega) (by omega)) (fun k _ => g9 _ _ (by omega) (by omega)) (fun x q => g9 _ _ (by omega) (by omega)) (fun k _ => g9 _ _ (by omega) (by omega)), ⟨⟨?_, ?_⟩, fun _ => ⟨np2, nr2, ng2, no2, nu2, mR_g gm (fun x k a b => g9 _ _ (by omega) (by omega)) (fun k => g9 _ _ (by omega) (by omega)), oR_g go (fun x k a b => g9 _ _ (by omega) (by omega)) (fun k => g9 _ _ (by omega) (by omega)), ruR_g gu (fun x k a b => g9 _ _ (by omega) (by omega)) (fun k => g9 _ _ (by omega) (by omega))⟩⟩, fun k hk => ⟨?_, ?_⟩⟩
      · rw [f7 _ (by omega), gm.2.1.2, e11]
      · exact mR_sa (sa := 167) (mR_g mt (C' := M2) (fun x k a b => (f9 _ _ (by omega)).trans (em x k (by omega) (by omega))) (fun _ => rfl)) (fun k hk => by rw [f7 k hk, cpM_g, if_pos ⟨rfl, hk⟩])
      · refine oR_sa (a := 71) (b := 118) go ?_ (fun i k hi hk => ?_) f7
        · rw [f9 _ _ (by omega), eo _ _ (by omega) (by omega), o1, r5 _ _ (by omega), t6 _ _ (by omega)]
        · rw [f9 _ _ (by omega), eo _ _ (by omega) (by omega), o2 i k hi hk, r5 _ _ (by omega), t6 _ _ (by omega)]
      · refine ruR_sa (a := 55) (b := 102) gu ?_ (fun i k hi hk => ?_) (fun i hi => ?_) (fun i hi => ?_) f7
        · rw [f9 _ _ (by omega), er _ _ (by omega) (by omega), r1, t6 _ _ (by omega)]
        · rw [f9 _ _ (by omega), er _ _ (by omega) (by omega), r2 i k hi hk, t6 _ _ (by omega)]
        · rw [f9 _ _ (by omega), er _ _ (by omega) (by omega), r3 i hi, t6 _ _ (by omega)]
        · rw [f9 _ _ (by omega), er _ _ (by omega) (by omega), r4 i hi, t6 _ _ (by omega)]
      · rw [g9 _ _ (by omega) (by omega), g9 _ _ (by omega) (by omega)]; exact i1
      · rw [g9 _ _ (by omega) (by omega)]; exact i2
      · rw [f9 70 k (by omega), er 70 k (by omega) (by omega), show gI (ruX (tkM M 1 75) 55 102) 70 k = gI (tkM M 1 75) 117 k from r4 k hk, t6 _ _ (by omega)]
        exact (ht9 k hk).2
      · rw [g9 117 k (by omega) (by omega)]; exact (ht9 k hk).2
    · rw [e9 _ _ (by omega)] at c2
      exact absurd c2 c1
  · rw [i1] at c1
    subst hk
    refine ⟨_, rfl, fun d2 hd2 => xE2.imp e_m_restore (fun v2 M2 h2 => ?_)⟩
    rcases h2 with ⟨c2, _⟩ | ⟨_, rfl, rfl⟩
    · exact absurd c1 c2
    · exact ⟨rfl, hI9⟩
