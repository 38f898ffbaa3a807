/-! ===== pairs: keep, row, put, copy ===== -/
theorem IV_shf {M M2 : xM} (h : IV M) (f : ∀ x k, (x < 28 ∨ (55 ≤ x ∧ x ≤ 122) ∨ x = 167 ∨ x = 168) → gI M2 x k = gI M x k) (f10 : gI M2 166 10 = gI M 166 10) (fj : gJ M2 166 18 = gJ M 166 18) (hs : ∀ j, j < 8 → shI M2 j) : IV M2 := by
  obtain ⟨⟨np, nr, ng, no, nu, h1, h2, h3⟩, h4, h5, ⟨⟨h6, h7⟩, h8⟩, h9⟩ := h
  refine ⟨⟨np, nr, ng, no, nu, mR_g h1 (fun x k a b => f _ _ (by omega)) (fun k => f _ _ (by omega)), oR_g h2 (fun x k a b => f _ _ (by omega)) (fun k => f _ _ (by omega)), ruR_g h3 (fun x k a b => f _ _ (by omega)) (fun k => f _ _ (by omega))⟩, fj.trans h4, hs, ⟨⟨?_, ?_⟩, fun q => ?_⟩, fun k hk => ?_⟩
  · rw [f10]; exact (f _ _ (by omega)).trans h6
  · rw [f10]; exact h7
  · rw [f10] at q
    obtain ⟨np, nr, ng, no, nu, g1, g2, g3⟩ := h8 q
    exact ⟨np, nr, ng, no, nu, mR_g g1 (fun x k a b => f _ _ (by omega)) (fun k => f _ _ (by omega)), oR_g g2 (fun x k a b => f _ _ (by omega)) (fun k => f _ _ (by omega)), ruR_g g3 (fun x k a b => f _ _ (by omega)) (fun k => f _ _ (by omega))⟩
  · rw [f 70 k (by omega), f 117 k (by omega)]
    exact h9 k hk
section KP
variable {C R M : xM} {np nr ng : Nat}
theorem kd_4 {x : Int32} (h : nr3 0 3 x) : x = 0 ∨ x = 1 ∨ x = 2 ∨ x = 3 := by
  obtain ⟨k, hk, rfl⟩ := nI_of3 (x := x) (n := 3) (by rw [Int32.le_iff_toInt_le]; exact h.1) (by rw [Int32.le_iff_toInt_le, nI_ti (by omega)]; exact h.2) (by omega)
  rcases (show k = 0 ∨ k = 1 ∨ k = 2 ∨ k = 3 by omega) with rfl | rfl | rfl | rfl
  · exact Or.inl rfl
  · exact Or.inr (Or.inl rfl)
  · exact Or.inr (Or.inr (Or.inl rfl))
  · exact Or.inr (Or.inr (Or.inr rfl))
theorem q_Hf (h : mR C 1 R 167 np nr ng) {p : Nat} (hp : p < np) : cH C (6 + p) = rHf R p := by
  have e := (r_p h hp).1
  have e0 : gI C (6 + p) 1 = rs R p 0 := e 0 (by omega)
  have e1 : gI C (6 + p) 2 = rs R p 1 := e 1 (by omega)
  have e3 : gI C (6 + p) 4 = rs R p 3 := e 3 (by omega)
  have e4 : gI C (6 + p) 5 = rs R p 4 := e 4 (by omega)
  have ew : cW C (6 + p) = rW R p := q_W h hp
  have hk : nr3 0 3 (rs R p 0) := (r_pB h hp).1
  unfold cH rHf
  rw [e0, e1, e3, e4, ew]
  rcases kd_4 hk with q | q | q | q <;> rw [q]
  · rw [if_pos rfl, if_neg (by decide), if_neg (by decide), if_neg (by decide), Int32.add_zero]
  · rw [if_neg (by decide), if_neg (by decide), if_neg (by decide), if_neg (by decide), if_neg (by decide), if_pos (by decide)]
  · rw [if_neg (by decide), if_pos rfl, if_pos rfl, if_pos (by decide)]
  · rw [if_neg (by decide), if_neg (by decide), if_pos rfl, if_neg (by decide), if_pos rfl, if_pos (by decide)]
theorem q_Ts (h : mR C 1 R 167 np nr ng) {p : Nat} (hp : p < np) : cT C (6 + p) = rTs R p := by
  have e := (r_p h hp).1
  have e0 : gI C (6 + p) 1 = rs R p 0 := e 0 (by omega)
  have e5 : gI C (6 + p) 6 = rs R p 5 := e 5 (by omega)
  have en : gI C (6 + p) 0 = nI p := (r_p h hp).2
  unfold cT rTs
  rw [e0, e5, en]
theorem cH_8 {M M' : xM} {a b : Nat} (h : ∀ k, k < 8 → gI M' a k = gI M b k) : cH M' a = cH M b := by
  unfold cH cW
  rw [h 1 (by omega), h 2 (by omega), h 3 (by omega), h 4 (by omega), h 5 (by omega), h 6 (by omega)]
theorem cT_8 {M M' : xM} {a b : Nat} (h : ∀ k, k < 8 → gI M' a k = gI M b k) : cT M' a = cT M b := by
  unfold cT
  rw [h 0 (by omega), h 1 (by omega), h 6 (by omega)]
end KP
theorem rHf_c {M M' : xM} (h : ∀ k, gI M' 167 k = gI M 167 k) (p : Nat) : rHf M' p = rHf M p := by unfold rHf rW; simp only [rs_c h]
theorem rTs_c {M M' : xM} (h : ∀ k, gI M' 167 k = gI M 167 k) (p : Nat) : rTs M' p = rTs M p := by unfold rTs; simp only [rs_c h]
theorem pr_keep {κ : xKK} {M : xM} (hI : IV M) {i w k : Int32} : PRi κ mX11_keep mX12_keep [.int i, .int w, .int k] M := by
  intro d hd
  have hI9 := hI
  obtain ⟨⟨np, nr, ng, no, nu, hm, ho, hu⟩, hj, hs, hi9, ht9⟩ := hI
  have hn := hm.2.1.1
  have hn2 := hm.1.1
  have hr := hm.2.2.1.1
  have hr2 := hm.1.2.1
  have hsh : ∀ i, i < np → 0 ≤ (cSh M 1 (6 + i)).toInt ∧ (cSh M 1 (6 + i)).toInt < 5 := fun i hi => r_sh hm hi
  have hz : ∀ j, j < 8 → ∃ z, z ≤ 120 ∧ gI M (142 + 3 * j) 3 = nI z := fun j hj => (hs j hj).2.2.1.elim (fun z q => ⟨z, q.1, q.2.1⟩)
  refine xE2.imp (e_x_keep hn hn2 (by omega)) (fun v M1 h1 => ?_)
  rcases h1 with ⟨j, hj1, hj2, c1, rfl, hk⟩ | ⟨j, p, hj1, hj2, c1, hp, hkp, rfl, hk⟩ | ⟨hno, rfl, hk⟩
  · subst hk
    have e67 : ∀ k, gI (sI M (142 + 3 * j) 0 0) 167 k = gI M 167 k := fun k => gI_ne (by omega)
    refine ⟨_, rfl, fun d2 hd2 => xE2.imp (e_m_keep (np := np) ((e67 _).trans hm.2.1.2) hn2 (by omega)) (fun v2 M2 h2 => ?_)⟩
    rcases h2 with ⟨j2, hj3, hj4, _, rfl, rfl⟩ | ⟨j2, p, _, _, c2, _⟩ | ⟨hno2, _⟩
    · obtain rfl : j2 = j := nI_injb (by omega) (by omega) (hj2.symm.trans hj4)
      refine ⟨rfl, IV_shf hI9 (fun x k q => (gI_ne (by omega)).trans (gI_ne (by omega))) ((gI_ne (by omega)).trans (gI_ne (by omega))) rfl (fun i hi => ?_)⟩
      by_cases e : i = j2
      · subst e
        obtain ⟨a1, a2, ⟨z, z1, z2, z3⟩, a4, a5⟩ := hs i hi
        refine ⟨⟨?_, ?_⟩, ?_, ⟨z, z1, (gI_ne (by omega)).trans ((gI_ne (by omega)).trans z2), (gI_ne (by omega)).trans ((gI_ne (by omega)).trans z3)⟩, fun k hk => ?_, fun q => ?_⟩
        · rw [gI_ne (by omega), gI_self, gI_self]
        · rw [gI_self]; exact ⟨by decide, by decide⟩
        · rw [gI_ne (by omega), gI_ne (by omega), gI_ne (by omega), gI_ne (by omega)]; exact a2
        · rw [gI_ne (by omega), gI_ne (by omega), gI_ne (by omega), gI_ne (by omega)]; exact a4 k hk
        · rw [gI_self] at q; exact absurd q (by decide)
      · exact shI_g (hs i hi) (fun k => (gI_ne (by omega)).trans (gI_ne (by omega))) (fun k => (gI_ne (by omega)).trans (gI_ne (by omega))) (fun k _ => (gI_ne (by omega)).trans (gI_ne (by omega))) (fun x q => (gI_ne (by omega)).trans (gI_ne (by omega))) (fun k _ => (gI_ne (by omega)).trans (gI_ne (by omega)))
    · rw [c1] at c2; exact absurd c2 (by decide)
    · exact absurd ⟨⟨j, hj1, hj2⟩, Or.inl c1⟩ hno2
  · obtain ⟨M9, hM9⟩ : ∃ M9, M9 = cpM (sI M (142 + 3 * j) 0 1) (143 + 3 * j) (6 + p) 8 := ⟨_, rfl⟩
    rw [← hM9] at hk
    subst hk
    have e9 : ∀ x k, ¬ (x = 142 + 3 * j ∧ k = 0) → ¬ x = 143 + 3 * j → gI M1 x k = gI M x k := fun x k a b => by
      rw [hM9, cpM_g, if_neg (fun q => b q.1), gI_ne (by omega)]
    have e67 : ∀ k, gI M1 167 k = gI M 167 k := fun k => e9 _ _ (by omega) (by omega)
    have k8 : ∀ k, k < 8 → gI M1 (143 + 3 * j) k = gI M (6 + p) k := fun k hk => by
      rw [hM9, cpM_g, if_pos ⟨rfl, hk⟩, gI_ne (by omega)]
    have kh : gI M1 (142 + 3 * j) 0 = 1 := by rw [hM9, cpM_g, if_neg (by omega), gI_self]
    have ej9 : gJ M1 166 18 = gJ M 166 18 := by rw [hM9]; rfl
    clear hM9
    refine ⟨_, rfl, fun d2 hd2 => xE2.imp (e_m_keep (np := np) ((e67 _).trans hm.2.1.2) hn2 (by omega)) (fun v2 M2 h2 => ?_)⟩
    rcases h2 with ⟨j2, _, _, c2, _⟩ | ⟨j2, p2, hj3, hj4, _, hp2, hkp2, rfl, rfl⟩ | ⟨hno2, _⟩
    · rw [c1] at c2; exact absurd c2 (by decide)
    · obtain rfl : j2 = j := nI_injb (by omega) (by omega) (hj2.symm.trans hj4)
      obtain rfl : p2 = p := nI_injb (by omega) (by omega) (hkp.symm.trans hkp2)
      refine ⟨rfl, IV_shf hI9 (fun x k q => by rw [gI_ne (by omega), gI_ne (by omega), gI_ne (by omega)]; exact e9 _ _ (by omega) (by omega)) (by rw [gI_ne (by omega), gI_ne (by omega), gI_ne (by omega)]; exact e9 _ _ (by omega) (by omega)) ej9 (fun i hi => ?_)⟩
      have eo : ∀ x k, ¬ (x = 170 ∨ x = 175 ∨ x = 176) → gI (sI (sI (sI M1 170 j2 1) 175 j2 (rHf M1 p2)) 176 j2 (rTs M1 p2)) x k = gI M1 x k := fun x k q => by
        rw [gI_ne (by omega), gI_ne (by omega), gI_ne (by omega)]
      by_cases e : i = j2
      · subst e
        obtain ⟨a1, a2, ⟨z, z1, z2, z3⟩, a4, a5⟩ := hs i hi
        refine ⟨⟨?_, ?_⟩, ?_, ⟨z, z1, (eo _ _ (by omega)).trans ((e9 _ _ (by omega) (by omega)).trans z2), (eo _ _ (by omega)).trans ((e9 _ _ (by omega) (by omega)).trans z3)⟩, fun k hk => ?_, fun _ => ⟨?_, ?_⟩⟩
        · rw [eo _ _ (by omega), kh, gI_ne (by omega), gI_ne (by omega), gI_self]
        · rw [gI_ne (by omega), gI_ne (by omega), gI_self]; exact ⟨by decide, by decide⟩
        · rw [eo _ _ (by omega), eo _ _ (by omega), e9 _ _ (by omega) (by omega), e9 _ _ (by omega) (by omega)]; exact a2
        · rw [eo _ _ (by omega), eo _ _ (by omega), e9 _ _ (by omega) (by omega), e9 _ _ (by omega) (by omega)]; exact a4 k hk
        · refine (cH_8 (M := M) (b := 6 + p2) (fun k hk => (eo _ _ (by omega)).trans (k8 k hk))).trans ?_
          rw [gI_ne (by omega), gI_self, rHf_c e67]
          exact q_Hf hm hp
        · refine (cT_8 (M := M) (b := 6 + p2) (fun k hk => (eo _ _ (by omega)).trans (k8 k hk))).trans ?_
          rw [gI_self, rTs_c e67]
          exact q_Ts hm hp
      · exact shI_g (hs i hi) (fun k => (eo _ _ (by omega)).trans (e9 _ _ (by omega) (by omega))) (fun k => (eo _ _ (by omega)).trans (e9 _ _ (by omega) (by omega))) (fun k _ => (eo _ _ (by omega)).trans (e9 _ _ (by omega) (by omega))) (fun x q => by rw [gI_ne (by omega), gI_ne (by omega), gI_ne (by omega)]; exact e9 _ _ (by omega) (by omega)) (fun k _ => (eo _ _ (by omega)).trans (e9 _ _ (by omega) (by omega)))
    · exact absurd ⟨⟨j, hj1, hj2⟩, Or.inr ⟨c1, p, hp, hkp⟩⟩ hno2
  · subst hk
    refine ⟨_, rfl, fun d2 hd2 => xE2.imp (e_m_keep (np := np) hm.2.1.2 hn2 (by omega)) (fun v2 M2 h2 => ?_)⟩
    rcases h2 with ⟨j2, hj3, hj4, c2, _⟩ | ⟨j2, p, hj3, hj4, c2, hp, hkp, _⟩ | ⟨_, rfl, rfl⟩
    · exact absurd ⟨⟨j2, hj3, hj4⟩, Or.inl c2⟩ hno
    · exact absurd ⟨⟨j2, hj3, hj4⟩, Or.inr ⟨c2, p, hp, hkp⟩⟩ hno
    · exact ⟨rfl, hI9⟩
theorem pr_row {κ : xKK} {M : xM} (hI : IV M) {i s n : Int32} : PRi κ mX11_row mX12_row [.int i, .int s, .int n] M := by
  intro d hd
  have hI9 := hI
  obtain ⟨⟨np, nr, ng, no, nu, hm, ho, hu⟩, hj, hs, hi9, ht9⟩ := hI
  have hn := hm.2.1.1
  have hn2 := hm.1.1
  have hr := hm.2.2.1.1
  have hr2 := hm.1.2.1
  have hsh : ∀ i, i < np → 0 ≤ (cSh M 1 (6 + i)).toInt ∧ (cSh M 1 (6 + i)).toInt < 5 := fun i hi => r_sh hm hi
  have hz : ∀ j, j < 8 → ∃ z, z ≤ 120 ∧ gI M (142 + 3 * j) 3 = nI z := fun j hj => (hs j hj).2.2.1.elim (fun z q => ⟨z, q.1, q.2.1⟩)
  refine xE2.imp (e_x_row (by omega)) (fun v M1 h1 => ?_)
  rcases h1 with ⟨j, hj1, hj2, c1, c2, c3, ⟨c4, rfl, hk⟩ | ⟨c4, rfl, hk⟩⟩ | ⟨hno, rfl, hk⟩
  · obtain ⟨z, hz9, rfl⟩ := nI_of3 (n := 120) c4 c3 (by omega)
    have e9 : ∀ x k, ¬ (x = 142 + 3 * j ∧ (k = 0 ∨ k = 2 ∨ k = 3)) → ¬ (x = 144 + 3 * j ∧ k < 120) → gI M1 x k = gI M x k := fun x k a b => by
      rw [hk]
      unfold lyM
      rw [zrM_g, if_neg b, gI_ne (by omega), gI_ne (by omega), gI_ne (by omega)]
    have t0 : gI M1 (142 + 3 * j) 0 = 2 := by
      rw [hk]; unfold lyM
      rw [zrM_g, if_neg (by omega), gI_ne (by omega), gI_ne (by omega), gI_self]
    have t2 : gI M1 (142 + 3 * j) 2 = s := by
      rw [hk]; unfold lyM
      rw [zrM_g, if_neg (by omega), gI_ne (by omega), gI_self]
    have t3 : gI M1 (142 + 3 * j) 3 = nI z := by
      rw [hk]; unfold lyM
      rw [zrM_g, if_neg (by omega), gI_self]
    have t4 : ∀ k, k < 120 → gI M1 (144 + 3 * j) k = 0 := fun k hk9 => by
      rw [hk]; unfold lyM
      rw [zrM_g, if_pos ⟨rfl, hk9⟩]
    have ej9 : gJ M1 166 18 = gJ M 166 18 := by rw [hk]; rfl
    clear hk
    refine ⟨_, rfl, fun d2 hd2 => xE2.imp (e_m_row (by omega)) (fun v2 M2 h2 => ?_)⟩
    rcases h2 with ⟨j2, hj3, hj4, _, _, _, ⟨_, rfl, hk2⟩ | ⟨c5, _⟩⟩ | ⟨hno2, _⟩
    · obtain rfl : j2 = j := nI_injb (by omega) (by omega) (hj2.symm.trans hj4)
      have f9 : ∀ x k, ¬ ((x = 170 ∨ x = 171 ∨ x = 172) ∧ k = j2) → ¬ (x = 173 ∧ 120 * j2 ≤ k ∧ k < 120 * j2 + 120) → gI M2 x k = gI M1 x k := fun x k a b => by
        rw [hk2]
        unfold lrM
        rw [zrB_g, if_neg b, gI_ne (by omega), gI_ne (by omega), gI_ne (by omega)]
      have u0 : gI M2 170 j2 = 2 := by
        rw [hk2]; unfold lrM
        rw [zrB_g, if_neg (by omega), gI_ne (by omega), gI_ne (by omega), gI_self]
      have u1 : gI M2 171 j2 = s := by
        rw [hk2]; unfold lrM
        rw [zrB_g, if_neg (by omega), gI_ne (by omega), gI_self]
      have u2 : gI M2 172 j2 = nI z := by
        rw [hk2]; unfold lrM
        rw [zrB_g, if_neg (by omega), gI_self]
      have u3 : ∀ k, k < 120 → gI M2 173 (120 * j2 + k) = 0 := fun k hk9 => by
        rw [hk2]; unfold lrM
        rw [zrB_g, if_pos (by omega)]
      have ej2 : gJ M2 166 18 = gJ M1 166 18 := by rw [hk2]; rfl
      clear hk2
      refine ⟨rfl, IV_shf hI9 (fun x k q => (f9 _ _ (by omega) (by omega)).trans (e9 _ _ (by omega) (by omega))) ((f9 _ _ (by omega) (by omega)).trans (e9 _ _ (by omega) (by omega))) (ej2.trans ej9) (fun i hi => ?_)⟩
      by_cases e : i = j2
      · subst e
        refine ⟨⟨?_, ?_⟩, ⟨?_, ?_⟩, ⟨z, hz9, (f9 _ _ (by omega) (by omega)).trans t3, u2⟩, fun k hk => ?_, fun q => ?_⟩
        · rw [f9 _ _ (by omega) (by omega), t0, u0]
        · rw [u0]; exact ⟨by decide, by decide⟩
        · rw [f9 _ _ (by omega) (by omega), t2, u1]
        · rw [u1]; exact n3_k (k := 2) c1 c2 (by omega)
        · rw [f9 _ _ (by omega) (by omega), t4 k hk, u3 k hk]
        · rw [u0] at q; exact absurd q (by decide)
      · exact shI_g (hs i hi) (fun k => (f9 _ _ (by omega) (by omega)).trans (e9 _ _ (by omega) (by omega))) (fun k => (f9 _ _ (by omega) (by omega)).trans (e9 _ _ (by omega) (by omega))) (fun k _ => (f9 _ _ (by omega) (by omega)).trans (e9 _ _ (by omega) (by omega))) (fun x q => (f9 _ _ (by omega) (by omega)).trans (e9 _ _ (by omega) (by omega))) (fun k _ => (f9 _ _ (by omega) (by omega)).trans (e9 _ _ (by omega) (by omega)))
    · exact absurd c5 (Int32.not_lt.mpr c4)
    · exact absurd ⟨⟨j, hj1, hj2⟩, c1, c2, c3⟩ hno2
  · subst hk
    refine ⟨_, rfl, fun d2 hd2 => xE2.imp (e_m_row (by omega)) (fun v2 M2 h2 => ?_)⟩
    rcases h2 with ⟨j2, hj3, hj4, _, _, _, ⟨c5, _⟩ | ⟨_, rfl, rfl⟩⟩ | ⟨hno2, _⟩
    · exact absurd c4 (Int32.not_lt.mpr c5)
    · exact ⟨rfl, hI9⟩
    · exact absurd ⟨⟨j, hj1, hj2⟩, c1, c2, c3⟩ hno2
  · subst hk
    refine ⟨_, rfl, fun d2 hd2 => xE2.imp (e_m_row (by omega)) (fun v2 M2 h2 => ?_)⟩
    rcases h2 with ⟨j2, hj3, hj4, c1, c2, c3, _⟩ | ⟨_, rfl, rfl⟩
    · exact absurd ⟨⟨j2, hj3, hj4⟩, c1, c2, c3⟩ hno
    · exact ⟨rfl, hI9⟩
theorem q_h1 {M : xM} {j : Nat} (h : shI M j) {a : Int32} : hsP M j a 1 ↔ (0 ≤ a ∧ a < gI M 172 j) := by
  obtain ⟨-, -, ⟨z, z1, z2, z3⟩, -⟩ := h
  unfold hsP
  rw [z2, z3, Int32.lt_iff_toInt_lt, nI_ti (by omega), show (1 : Int32).toInt = 1 by decide]
  constructor
  · rintro ⟨h1, -, h2⟩; exact ⟨h1, by omega⟩
  · rintro ⟨h1, h2⟩; exact ⟨h1, by decide, by omega⟩
theorem q_cp {M : xM} {a b : Nat} (ha : shI M a) (hb : shI M b) {s t n : Int32} : (hsP M a s n ∧ hsP M b t n) ↔ rcP M a b s t n := by
  obtain ⟨-, -, ⟨z, z1, z2, z3⟩, -⟩ := ha
  obtain ⟨-, -, ⟨y, y1, y2, y3⟩, -⟩ := hb
  unfold hsP rcP
  rw [z2, z3, y2, y3]
  have e0 : (0 : Int32).toInt = 0 := by decide
  have s1 := Int32.toInt_lt s
  have t1 := Int32.toInt_lt t
  rw [Int32.le_iff_toInt_le, Int32.le_iff_toInt_le, Int32.le_iff_toInt_le, Int32.le_iff_toInt_le, Int32.le_iff_toInt_le, nI_ti (by omega), nI_ti (by omega), e0]
  constructor
  · rintro ⟨⟨h1, h2, h3⟩, h4, h5, h6⟩
    refine ⟨h2, h1, h4, ?_, ?_⟩
    · rw [fb_subI (by rw [nI_ti (by omega)]; omega) (by rw [nI_ti (by omega)]; omega), nI_ti (by omega)]; omega
    · rw [fb_subI (by rw [nI_ti (by omega)]; omega) (by rw [nI_ti (by omega)]; omega), nI_ti (by omega)]; omega
  · rintro ⟨h1, h2, h3, h4, h5⟩
    rw [fb_subI (by rw [nI_ti (by omega)]; omega) (by rw [nI_ti (by omega)]; omega), nI_ti (by omega)] at h4 h5
    exact ⟨⟨h2, h1, by omega⟩, h3, h1, by omega⟩
theorem cl_ti {a : Int32} (h : 0 ≤ a) : (a.toNatClampNeg : Int) = a.toInt := by
  rw [Int32.le_iff_toInt_le, show (0 : Int32).toInt = 0 by decide] at h
  show ((a.toInt.toNat : Nat) : Int) = _
  omega
theorem pr_put {κ : xKK} {M : xM} (hI : IV M) {i a x : Int32} : PRi κ mX11_put mX12_put [.int i, .int a, .int x] M := by
  intro d hd
  have hI9 := hI
  obtain ⟨⟨np, nr, ng, no, nu, hm, ho, hu⟩, hj, hs, hi9, ht9⟩ := hI
  have hn := hm.2.1.1
  have hn2 := hm.1.1
  have hr := hm.2.2.1.1
  have hr2 := hm.1.2.1
  have hsh : ∀ i, i < np → 0 ≤ (cSh M 1 (6 + i)).toInt ∧ (cSh M 1 (6 + i)).toInt < 5 := fun i hi => r_sh hm hi
  have hz : ∀ j, j < 8 → ∃ z, z ≤ 120 ∧ gI M (142 + 3 * j) 3 = nI z := fun j hj => (hs j hj).2.2.1.elim (fun z q => ⟨z, q.1, q.2.1⟩)
  have RR : ∀ j, j < 8 → cRR M j (-1) = rWR M j (-1) := fun j hj9 => q_RR (hs j hj9) (Or.inl rfl)
  have hz0 : ∀ j, j < 8 → ∃ z, z ≤ 120 ∧ gI M 172 j = nI z := fun j hj => (hs j hj).2.2.1.elim (fun z q => ⟨z, q.1, q.2.2⟩)
  refine xE2.imp (e_x_put hz (by omega)) (fun v M1 h1 => ?_)
  rcases h1 with ⟨j, hj1, hj2, ⟨c1, c2, rfl, hk⟩ | ⟨c1, c2, rfl, hk⟩ | ⟨c1, rfl, hk⟩⟩ | ⟨hno, rfl, hk⟩
  · have hsj := hs j hj1
    have c3 := (q_h1 hsj).mp c2
    obtain ⟨z, z1, z2, z3⟩ := hsj.2.2.1
    have ha120 : a.toNatClampNeg < z := by
      have h1 := cl_ti c3.1
      have h2 := c3.2
      rw [z3, Int32.lt_iff_toInt_lt, nI_ti (by omega)] at h2
      omega
    have e9 : ∀ x k, ¬ (x = 144 + 3 * j ∧ k = a.toNatClampNeg) → gI M1 x k = gI M x k := fun x k q => by rw [hk]; exact gI_ne (by omega)
    have t4 : gI M1 (144 + 3 * j) a.toNatClampNeg = cLB (gI M (142 + 3 * j) 2) x := by rw [hk]; exact gI_self _ _ _ _
    have ej9 : gJ M1 166 18 = gJ M 166 18 := by rw [hk]; rfl
    clear hk
    refine ⟨_, rfl, fun d2 hd2 => xE2.imp (e_m_put (fun j hj => (hz0 j hj).elim (fun z q => ⟨z, q.1, (e9 _ _ (by omega)).trans q.2⟩)) (by omega)) (fun v2 M2 h2 => ?_)⟩
    rcases h2 with ⟨j2, hj3, hj4, ⟨d1, d2, rfl, hk2⟩ | ⟨d1, d2, _⟩ | ⟨d1, _⟩⟩ | ⟨hno2, _⟩
    · obtain rfl : j2 = j := nI_injb (by omega) (by omega) (hj2.symm.trans hj4)
      rw [e9 171 j2 (by omega)] at hk2
      subst hk2
      refine ⟨rfl, IV_shf hI9 (fun x k q => (gI_ne (by omega)).trans (e9 _ _ (by omega))) ((gI_ne (by omega)).trans (e9 _ _ (by omega))) ej9 (fun i hi => ?_)⟩
      by_cases e : i = j2
      · subst e
        obtain ⟨a1, a2, a3, a4, a5⟩ := hs i hi
        refine ⟨?_, ?_, ?_, fun k hk => ?_, ?_⟩
        · rw [gI_ne (by omega), gI_ne (by omega), e9 _ _ (by omega), e9 _ _ (by omega)]; exact a1
        · rw [gI_ne (by omega), gI_ne (by omega), e9 _ _ (by omega), e9 _ _ (by omega)]; exact a2
        · rw [gI_ne (by omega), gI_ne (by omega), e9 _ _ (by omega), e9 _ _ (by omega)]; exact a3
        · by_cases ck : k = a.toNatClampNeg
          · rw [ck, gI_ne (by omega), t4, gI_self, a2.1]
          · rw [gI_ne (by omega), gI_ne (by omega), e9 _ _ (by omega), e9 _ _ (by omega)]; exact a4 k hk
        · rw [gI_ne (by omega), gI_ne (by omega), gI_ne (by omega), e9 _ _ (by omega), e9 _ _ (by omega), e9 _ _ (by omega), cH_c (M := M) (fun k => (gI_ne (by omega)).trans (e9 _ _ (by omega))), cT_c (M := M) (fun k => (gI_ne (by omega)).trans (e9 _ _ (by omega)))]
          exact a5
      · exact shI_g (hs i hi) (fun k => (gI_ne (by omega)).trans (e9 _ _ (by omega))) (fun k => (gI_ne (by omega)).trans (e9 _ _ (by omega))) (fun k _ => (gI_ne (by omega)).trans (e9 _ _ (by omega))) (fun x q => (gI_ne (by omega)).trans (e9 _ _ (by omega))) (fun k _ => (gI_ne (by omega)).trans (e9 _ _ (by omega)))
    · obtain rfl : j2 = j := nI_injb (by omega) (by omega) (hj2.symm.trans hj4)
      rw [e9 172 j2 (by omega)] at d2
      exact absurd c3 d2
    · obtain rfl : j2 = j := nI_injb (by omega) (by omega) (hj2.symm.trans hj4)
      have e0 : rWR M1 j2 (-1) = rWR M j2 (-1) := by unfold rWR; rw [e9 _ _ (by omega), e9 _ _ (by omega)]
      exact absurd (e0.trans ((RR j2 hj1).symm.trans c1)) d1
    · exact absurd ⟨j, hj1, hj2⟩ hno2
  · subst hk
    refine ⟨_, rfl, fun d2 hd2 => xE2.imp (e_m_put hz0 (by omega)) (fun v2 M2 h2 => ?_)⟩
    rcases h2 with ⟨j2, hj3, hj4, ⟨d1, d2, _⟩ | ⟨d1, d2, rfl, rfl⟩ | ⟨d1, _⟩⟩ | ⟨hno2, _⟩
    · obtain rfl : j2 = j := nI_injb (by omega) (by omega) (hj2.symm.trans hj4)
      exact absurd ((q_h1 (hs j2 hj1)).mpr d2) c2
    · exact ⟨rfl, hI9⟩
    · obtain rfl : j2 = j := nI_injb (by omega) (by omega) (hj2.symm.trans hj4)
      exact absurd ((RR j2 hj1).symm.trans c1) d1
    · exact absurd ⟨j, hj1, hj2⟩ hno2
  · subst hk
    refine ⟨_, rfl, fun d2 hd2 => xE2.imp (e_m_put hz0 (by omega)) (fun v2 M2 h2 => ?_)⟩
    rcases h2 with ⟨j2, hj3, hj4, ⟨d1, _⟩ | ⟨d1, _⟩ | ⟨d1, rfl, rfl⟩⟩ | ⟨hno2, _⟩
    · obtain rfl : j2 = j := nI_injb (by omega) (by omega) (hj2.symm.trans hj4)
      exact absurd ((RR j2 hj1).trans d1) c1
    · obtain rfl : j2 = j := nI_injb (by omega) (by omega) (hj2.symm.trans hj4)
      exact absurd ((RR j2 hj1).trans d1) c1
    · obtain rfl : j2 = j := nI_injb (by omega) (by omega) (hj2.symm.trans hj4)
      exact ⟨by rw [RR j2 hj1], hI9⟩
    · exact absurd ⟨j, hj1, hj2⟩ hno2
  · subst hk
    refine ⟨_, rfl, fun d2 hd2 => xE2.imp (e_m_put hz0 (by omega)) (fun v2 M2 h2 => ?_)⟩
    rcases h2 with ⟨j2, hj3, hj4, _⟩ | ⟨_, rfl, rfl⟩
    · exact absurd ⟨j2, hj3, hj4⟩ hno
    · exact ⟨rfl, hI9⟩
