/-! ===== pairs of calls that only ask: shelves, gusts, order ===== -/
section QS
variable {M : xM} {j : Nat}
theorem q_RR (h : shI M j) {s : Int32} (hs : s = -1 ∨ 0 ≤ s) : cRR M j s = rWR M j s := by
  obtain ⟨⟨a1, a2⟩, ⟨b1, b2⟩, -⟩ := h
  have e : (s = -1 ∨ s = gI M 171 j) ↔ (s < 0 ∨ gI M 171 j = s) := by
    rcases hs with rfl | h0
    · exact ⟨fun _ => Or.inl (by decide), fun _ => Or.inl rfl⟩
    · have hn : ¬ s < 0 := Int32.not_lt.mpr h0
      have hn1 : ¬ s = -1 := fun q => by rw [q] at hn; exact hn (by decide)
      exact ⟨fun q => q.elim (fun z => absurd z hn1) (fun z => Or.inr z.symm), fun q => q.elim (fun z => absurd z hn) (fun z => Or.inr z.symm)⟩
  unfold cRR rWR
  rw [a1, b1]
  by_cases c : gI M 170 j = 0
  · rw [if_pos c, if_pos c]
  · rw [if_neg c, if_neg c]
    by_cases c2 : gI M 170 j = 2 ∧ (s = -1 ∨ s = gI M 171 j)
    · rw [if_pos c2, if_pos ⟨c2.1, e.mp c2.2⟩]
    · rw [if_neg c2, if_neg (fun q => c2 ⟨q.1, e.mpr q.2⟩)]
theorem q_PR (h : shI M j) : cPR M j = rWK M j := by
  unfold cPR rWK
  rw [h.1.1]
theorem q_z (h : shI M j) : (gI M (142 + 3 * j) 3).toNatClampNeg = (gI M 172 j).toNatClampNeg ∧ (gI M 172 j).toNatClampNeg ≤ 120 := by
  obtain ⟨-, -, ⟨z, z1, z2, z3⟩, -⟩ := h
  rw [z2, z3, nI_cl (by omega)]
  exact ⟨rfl, z1⟩
theorem q_E (h : shI M j) : ∀ k, k < (gI M 172 j).toNatClampNeg → gI M (144 + 3 * j) k = gI M 173 (120 * j + k) := fun k hk => h.2.2.2.1 k (by have := (q_z h).2; omega)
theorem q_Fl (h : shI M j) : cFl M j = rFl M j := by
  unfold cFl rFl
  rw [q_RR h (Or.inr (Int32.le_refl 0)), (q_z h).1, tx_c (q_E h)]
theorem q_heft (h : shI M j) : (if cPR M j = 0 then cH M (143 + 3 * j) else cPR M j) = if rWK M j = 0 then gI M 175 j else rWK M j := by
  rw [q_PR h]
  by_cases c : rWK M j = 0
  · have c1 : gI M 170 j = 1 := by
      unfold rWK at c
      by_cases d0 : gI M 170 j = 0
      · rw [if_pos d0] at c; exact absurd c (by decide)
      · rw [if_neg d0] at c
        by_cases d1 : gI M 170 j = 1
        · exact d1
        · rw [if_neg d1] at c; exact absurd c (by decide)
    rw [if_pos c, if_pos c, (h.2.2.2.2 c1).1]
  · rw [if_neg c, if_neg c]
theorem q_toss (h : shI M j) : (if cPR M j = 0 then cT M (143 + 3 * j) else cPR M j) = if rWK M j = 0 then gI M 176 j else rWK M j := by
  rw [q_PR h]
  by_cases c : rWK M j = 0
  · have c1 : gI M 170 j = 1 := by
      unfold rWK at c
      by_cases d0 : gI M 170 j = 0
      · rw [if_pos d0] at c; exact absurd c (by decide)
      · rw [if_neg d0] at c
        by_cases d1 : gI M 170 j = 1
        · exact d1
        · rw [if_neg d1] at c; exact absurd c (by decide)
    rw [if_pos c, if_pos c, (h.2.2.2.2 c1).2]
  · rw [if_neg c, if_neg c]
end QS
theorem kIV_sw {M : xM} {a i j k : Nat} {r : Int32 × Int64 × Int64} (h : a = 141 ∨ (a = 166 ∧ i ≠ 10 ∧ j ≠ 18 ∧ k ≠ 18)) : kIV M (swX M a i j k r) := by
  unfold swX swM
  refine ⟨fun x y q => ?_, ?_, ?_⟩
  · show gI (sI M a i r.1) x y = _
    exact gI_ne (by omega)
  · show gI (sI M a i r.1) 166 10 = _
    exact gI_ne (by omega)
  · rw [gJ_ne (by omega), gJ_ne (by omega)]
    rfl
theorem sq_u9 {q s t : Nat} (h1 : s * s ≤ q) (h2 : q < (s + 1) * (s + 1)) (h3 : t * t ≤ q) (h4 : q < (t + 1) * (t + 1)) : s = t := by
  rcases Nat.lt_trichotomy s t with c | c | c
  · have := Nat.mul_le_mul (show s + 1 ≤ t from c) (show s + 1 ≤ t from c)
    omega
  · exact c
  · have := Nat.mul_le_mul (show t + 1 ≤ s from c) (show t + 1 ≤ s from c)
    omega
theorem sq_n {f : Nat → Int32} : ∀ n, n ≤ 8 → (∀ k, k < n → nr3 0 999 (f k)) → ∃ q, q ≤ 998001 * n ∧ iSum (fun k => f k * f k) n = nI q
  | 0, _, _ => ⟨0, by omega, rfl⟩
  | n + 1, hn, h => by
    obtain ⟨q, hq, e⟩ := sq_n (f := f) n (by omega) (fun k hk => h k (by omega))
    obtain ⟨a1, a2⟩ := h n (by omega)
    obtain ⟨m, hm, em⟩ := nI_of3 (x := f n) (n := 999) (by rw [Int32.le_iff_toInt_le]; exact a1) (by rw [Int32.le_iff_toInt_le, nI_ti (by omega)]; exact a2) (by omega)
    have hmm : m * m ≤ 999 * 999 := Nat.mul_le_mul hm hm
    refine ⟨q + m * m, by omega, ?_⟩
    rw [iSum, e, em, pk_mul, nI_add]
theorem sgS_b (a b : Int32) : 0 ≤ (sgS a b).toInt := by
  have a1 := Int32.le_toInt a
  have a2 := Int32.toInt_lt a
  have b1 := Int32.le_toInt b
  have b2 := Int32.toInt_lt b
  have e : (a.toInt64 - b.toInt64).toInt = a.toInt - b.toInt := by
    rw [Int64.toInt_sub, Int32.toInt_toInt64, Int32.toInt_toInt64]
    exact Int.bmod_eq_of_le (by omega) (by omega)
  have en : (-(a.toInt64 - b.toInt64)).toInt = -(a.toInt - b.toInt) := by
    rw [Int64.toInt_neg, e]
    exact Int.bmod_eq_of_le (by omega) (by omega)
  unfold sgS
  by_cases c : 0 < a.toInt64 - b.toInt64
  · rw [if_pos c, e]
    rw [Int64.lt_iff_toInt_lt, e, show (0 : Int64).toInt = 0 by decide] at c
    omega
  · rw [if_neg c, en]
    rw [Int64.lt_iff_toInt_lt, e, show (0 : Int64).toInt = 0 by decide] at c
    omega
theorem sgT_b {x : Int64} (hx : 0 ≤ x.toInt) : 0 ≤ (sgT x).toInt ∧ (sgT x).toInt ≤ 1000000 := by
  have x2 := Int64.toInt_lt x
  have ed : (x / 10).toInt = x.toInt / 10 := by
    rw [Int64.toInt_div, show (10 : Int64).toInt = 10 by decide, Int.tdiv_eq_ediv_of_nonneg hx]
    exact Int.bmod_eq_of_le (by omega) (by omega)
  unfold sgT
  by_cases c : 100 ≤ x / 10
  · rw [if_pos c]; decide
  · rw [if_neg c]
    rw [Int64.le_iff_toInt_le, ed, show (100 : Int64).toInt = 100 by decide] at c
    have v0 : 0 ≤ x.toInt / 10 := by omega
    have v9 : x.toInt / 10 ≤ 99 := by omega
    have m1 : 0 ≤ x.toInt / 10 * (x.toInt / 10) := Int.mul_nonneg v0 v0
    have m2 : x.toInt / 10 * (x.toInt / 10) ≤ 99 * 99 := Int.mul_le_mul v9 v9 v0 (by omega)
    have e2 : (x / 10 * (x / 10)).toInt = x.toInt / 10 * (x.toInt / 10) := by
      rw [Int64.toInt_mul, ed]
      exact Int.bmod_eq_of_le (by omega) (by omega)
    have m3 : 0 ≤ x.toInt / 10 * (x.toInt / 10) * (x.toInt / 10) := Int.mul_nonneg m1 v0
    have m4 : x.toInt / 10 * (x.toInt / 10) * (x.toInt / 10) ≤ 99 * 99 * 99 := Int.mul_le_mul m2 v9 v0 (by omega)
    have e3 : (x / 10 * (x / 10) * (x / 10)).toInt = x.toInt / 10 * (x.toInt / 10) * (x.toInt / 10) := by
      rw [Int64.toInt_mul, e2, ed]
      exact Int.bmod_eq_of_le (by omega) (by omega)
    rw [e3]
    omega
theorem t_add {a b : Int64} {n : Nat} (h1 : 0 ≤ a.toInt ∧ a.toInt ≤ 1000000 * (n : Int)) (h2 : 0 ≤ b.toInt ∧ b.toInt ≤ 1000000) (hn : n ≤ 1000) : 0 ≤ (a + b).toInt ∧ (a + b).toInt ≤ 1000000 * ((n + 1 : Nat) : Int) := by
  have e : (a + b).toInt = a.toInt + b.toInt := by
    rw [Int64.toInt_add]
    exact Int.bmod_eq_of_le (by omega) (by omega)
  rw [e]
  omega
theorem swK_t (s : swT) (e : Int32) : (swK s e).2.2.1 = s.2.2.1 ∨ (swK s e).2.2.1 = s.2.2.1 + sgT (sgS s.2.2.2.1 s.2.2.2.2.1) := by
  unfold swK
  by_cases c : e = s.2.2.2.2.1
  · rw [if_pos c]; exact Or.inl rfl
  · rw [if_neg c]
    by_cases c2 : ¬ s.2.2.2.2.2 = 0 ∧ ¬ (if s.2.2.2.2.1 < e then (1 : Int32) else -1) = s.2.2.2.2.2
    · rw [if_pos c2]; exact Or.inr rfl
    · rw [if_neg c2]; exact Or.inl rfl
theorem swF_t (s : swT) : (swF s).2.2 = s.2.2.1 ∨ (swF s).2.2 = s.2.2.1 + sgT (sgS s.2.2.2.1 s.2.2.2.2.1) := by
  unfold swF
  split
  · exact Or.inl rfl
  · exact Or.inr rfl
theorem sw_b (E : Nat → Int32) : ∀ k, k ≤ 120 → 0 ≤ (sw E k).2.2.1.toInt ∧ (sw E k).2.2.1.toInt ≤ 1000000 * (k : Int)
  | 0, _ => ⟨by show 0 ≤ (0 : Int64).toInt; decide, by show (0 : Int64).toInt ≤ _; decide⟩
  | k + 1, h => by
    obtain ⟨i1, i2⟩ := sw_b E k (by omega)
    rw [sw]
    rcases swK_t (sw E k) (E (k + 1)) with e | e
    · rw [e]; exact ⟨i1, by omega⟩
    · rw [e]; exact t_add ⟨i1, i2⟩ (sgT_b (sgS_b _ _)) (by omega)
theorem swR_b (E : Nat → Int32) {z : Nat} (hz : z ≤ 120) : 0 ≤ (swR E z).2.2.toInt := by
  unfold swR
  split
  · show 0 ≤ (0 : Int64).toInt; decide
  · obtain ⟨i1, i2⟩ := sw_b E (z - 1) (by omega)
    rcases swF_t (sw E (z - 1)) with e | e
    · rw [e]; exact i1
    · rw [e]; exact (t_add ⟨i1, i2⟩ (sgT_b (sgS_b _ _)) (by omega)).1
theorem le0_iff {x : Int64} (h : 0 ≤ x.toInt) : x ≤ 0 ↔ x = 0 := by
  constructor
  · intro q
    rw [Int64.le_iff_toInt_le, show (0 : Int64).toInt = 0 by decide] at q
    refine Int64.toInt_inj.mp ?_
    rw [show (0 : Int64).toInt = 0 by decide]
    omega
  · intro q
    rw [q]
    exact Int64.le_refl 0
theorem pr_fault {κ : xKK} {M : xM} (hI : IV M) {i : Int32} : PRi κ mX11_fault mX12_fault [.int i] M := by
  intro d hd
  have hI9 := hI
  obtain ⟨⟨np, nr, ng, no, nu, hm, ho, hu⟩, hj, hs, hi9, ht9⟩ := hI
  have hn := hm.2.1.1
  have hn2 := hm.1.1
  have hr := hm.2.2.1.1
  have hr2 := hm.1.2.1
  have hsh : ∀ i, i < np → 0 ≤ (cSh M 1 (6 + i)).toInt ∧ (cSh M 1 (6 + i)).toInt < 5 := fun i hi => r_sh hm hi
  have hz : ∀ j, j < 8 → ∃ z, z ≤ 120 ∧ gI M (142 + 3 * j) 3 = nI z := fun j hj => (hs j hj).2.2.1.elim (fun z q => ⟨z, q.1, q.2.1⟩)
  refine xE2.imp (e_x_fault hz (by omega)) (fun v M1 h1 => ?_)
  obtain ⟨h1, hk⟩ := h1
  have k1 : kIV M M1 := kIV_k hk
  have hI1 := IV_k hI9 k1
  have e67 : ∀ k, gI M1 167 k = gI M 167 k := fun k => k1.1 _ _ (by omega)
  have ej : gJ M1 166 18 = gJ M 166 18 := k1.2.2
  have hjk1 : gJ M1 166 18 = 0 := ej.trans hj
  have hm1 : mR M1 1 M1 167 np nr ng := mR_g hm (fun x k a b => k1.1 _ _ (by omega)) e67
  have ho1 : oR M1 71 M1 167 nr no := oR_g ho (fun x k a b => k1.1 _ _ (by omega)) e67
  have hu1 : ruR M1 55 M1 167 nu := ruR_g hu (fun x k a b => k1.1 _ _ (by omega)) e67
  have hs1 : ∀ j, j < 8 → shI M1 j := hI1.2.2.1
  have hz1 : ∀ j, j < 8 → ∃ z, z ≤ 120 ∧ gI M1 172 j = nI z := fun j hj => (hs1 j hj).2.2.1.elim (fun z q => ⟨z, q.1, q.2.2⟩)
  have hn' := hm1.2.1.2
  have hr' := hm1.2.2.1.2
  have hw1 := rPw hm1
  have hh1 := rQh hm1
  rcases h1 with ⟨j, hj1, hj2, rfl⟩ | ⟨hno, rfl⟩
  · refine ⟨_, rfl, fun d2 hd2 => xE2.imp (e_m_fault hz1 (by omega)) (fun v2 M2 h2 => ?_)⟩
    obtain ⟨h2, hk2⟩ := h2
    refine ⟨?_, IV_k hI1 (kIV_r hk2)⟩
    rcases h2 with ⟨j2, hj3, hj4, rfl⟩ | ⟨hno2, rfl⟩
    · obtain rfl : j2 = j := nI_injb (by omega) (by omega) (hj2.symm.trans hj4)
      rw [← q_Fl (hs1 j2 hj1)]
      unfold cFl
      rw [show cRR M1 j2 0 = cRR M j2 0 by unfold cRR; rw [k1.1 _ _ (by omega), k1.1 _ _ (by omega)], k1.1 (142 + 3 * j2) 3 (by omega), show (fun k => gI M1 (144 + 3 * j2) k) = fun k => gI M (144 + 3 * j2) k from funext (fun k => k1.1 _ _ (by omega))]
    · exact absurd ⟨j, hj1, hj2⟩ hno2
  · refine ⟨_, rfl, fun d2 hd2 => xE2.imp (e_m_fault hz1 (by omega)) (fun v2 M2 h2 => ?_)⟩
    obtain ⟨h2, hk2⟩ := h2
    refine ⟨?_, IV_k hI1 (kIV_r hk2)⟩
    rcases h2 with ⟨j2, hj3, hj4, rfl⟩ | ⟨hno2, rfl⟩
    · exact absurd ⟨j2, hj3, hj4⟩ hno
    · rfl
theorem pr_heft {κ : xKK} {M : xM} (hI : IV M) {i : Int32} : PRi κ mX11_heft mX12_heft [.int i] M := by
  intro d hd
  have hI9 := hI
  obtain ⟨⟨np, nr, ng, no, nu, hm, ho, hu⟩, hj, hs, hi9, ht9⟩ := hI
  have hn := hm.2.1.1
  have hn2 := hm.1.1
  have hr := hm.2.2.1.1
  have hr2 := hm.1.2.1
  have hsh : ∀ i, i < np → 0 ≤ (cSh M 1 (6 + i)).toInt ∧ (cSh M 1 (6 + i)).toInt < 5 := fun i hi => r_sh hm hi
  have hz : ∀ j, j < 8 → ∃ z, z ≤ 120 ∧ gI M (142 + 3 * j) 3 = nI z := fun j hj => (hs j hj).2.2.1.elim (fun z q => ⟨z, q.1, q.2.1⟩)
  refine xE2.imp (e_x_heft (by omega)) (fun v M1 h1 => ?_)
  obtain ⟨h1, hk⟩ := h1
  have k1 : kIV M M1 := hk ▸ kIV_0
  have hI1 := IV_k hI9 k1
  have e67 : ∀ k, gI M1 167 k = gI M 167 k := fun k => k1.1 _ _ (by omega)
  have ej : gJ M1 166 18 = gJ M 166 18 := k1.2.2
  have hjk1 : gJ M1 166 18 = 0 := ej.trans hj
  have hm1 : mR M1 1 M1 167 np nr ng := mR_g hm (fun x k a b => k1.1 _ _ (by omega)) e67
  have ho1 : oR M1 71 M1 167 nr no := oR_g ho (fun x k a b => k1.1 _ _ (by omega)) e67
  have hu1 : ruR M1 55 M1 167 nu := ruR_g hu (fun x k a b => k1.1 _ _ (by omega)) e67
  have hs1 : ∀ j, j < 8 → shI M1 j := hI1.2.2.1
  have hz1 : ∀ j, j < 8 → ∃ z, z ≤ 120 ∧ gI M1 172 j = nI z := fun j hj => (hs1 j hj).2.2.1.elim (fun z q => ⟨z, q.1, q.2.2⟩)
  have hn' := hm1.2.1.2
  have hr' := hm1.2.2.1.2
  have hw1 := rPw hm1
  have hh1 := rQh hm1
  rcases h1 with ⟨j, hj1, hj2, rfl⟩ | ⟨hno, rfl⟩
  · refine ⟨_, rfl, fun d2 hd2 => xE2.imp (e_m_heft (by omega)) (fun v2 M2 h2 => ?_)⟩
    obtain ⟨h2, hk2⟩ := h2
    refine ⟨?_, IV_k hI1 (hk2 ▸ kIV_0)⟩
    rcases h2 with ⟨j2, hj3, hj4, rfl⟩ | ⟨hno2, rfl⟩
    · obtain rfl : j2 = j := nI_injb (by omega) (by omega) (hj2.symm.trans hj4)
      subst M1
      rw [q_heft (hs j2 hj1)]
    · exact absurd ⟨j, hj1, hj2⟩ hno2
  · refine ⟨_, rfl, fun d2 hd2 => xE2.imp (e_m_heft (by omega)) (fun v2 M2 h2 => ?_)⟩
    obtain ⟨h2, hk2⟩ := h2
    refine ⟨?_, IV_k hI1 (hk2 ▸ kIV_0)⟩
    rcases h2 with ⟨j2, hj3, hj4, rfl⟩ | ⟨hno2, rfl⟩
    · exact absurd ⟨j2, hj3, hj4⟩ hno
    · rfl
theorem pr_toss {κ : xKK} {M : xM} (hI : IV M) {i : Int32} : PRi κ mX11_toss mX12_toss [.int i] M := by
  intro d hd
  have hI9 := hI
  obtain ⟨⟨np, nr, ng, no, nu, hm, ho, hu⟩, hj, hs, hi9, ht9⟩ := hI
  have hn := hm.2.1.1
  have hn2 := hm.1.1
  have hr := hm.2.2.1.1
  have hr2 := hm.1.2.1
  have hsh : ∀ i, i < np → 0 ≤ (cSh M 1 (6 + i)).toInt ∧ (cSh M 1 (6 + i)).toInt < 5 := fun i hi => r_sh hm hi
  have hz : ∀ j, j < 8 → ∃ z, z ≤ 120 ∧ gI M (142 + 3 * j) 3 = nI z := fun j hj => (hs j hj).2.2.1.elim (fun z q => ⟨z, q.1, q.2.1⟩)
  refine xE2.imp (e_x_toss (by omega)) (fun v M1 h1 => ?_)
  obtain ⟨h1, hk⟩ := h1
  have k1 : kIV M M1 := hk ▸ kIV_0
  have hI1 := IV_k hI9 k1
  have e67 : ∀ k, gI M1 167 k = gI M 167 k := fun k => k1.1 _ _ (by omega)
  have ej : gJ M1 166 18 = gJ M 166 18 := k1.2.2
  have hjk1 : gJ M1 166 18 = 0 := ej.trans hj
  have hm1 : mR M1 1 M1 167 np nr ng := mR_g hm (fun x k a b => k1.1 _ _ (by omega)) e67
  have ho1 : oR M1 71 M1 167 nr no := oR_g ho (fun x k a b => k1.1 _ _ (by omega)) e67
  have hu1 : ruR M1 55 M1 167 nu := ruR_g hu (fun x k a b => k1.1 _ _ (by omega)) e67
  have hs1 : ∀ j, j < 8 → shI M1 j := hI1.2.2.1
  have hz1 : ∀ j, j < 8 → ∃ z, z ≤ 120 ∧ gI M1 172 j = nI z := fun j hj => (hs1 j hj).2.2.1.elim (fun z q => ⟨z, q.1, q.2.2⟩)
  have hn' := hm1.2.1.2
  have hr' := hm1.2.2.1.2
  have hw1 := rPw hm1
  have hh1 := rQh hm1
  rcases h1 with ⟨j, hj1, hj2, rfl⟩ | ⟨hno, rfl⟩
  · refine ⟨_, rfl, fun d2 hd2 => xE2.imp (e_m_toss (by omega)) (fun v2 M2 h2 => ?_)⟩
    obtain ⟨h2, hk2⟩ := h2
    refine ⟨?_, IV_k hI1 (hk2 ▸ kIV_0)⟩
    rcases h2 with ⟨j2, hj3, hj4, rfl⟩ | ⟨hno2, rfl⟩
    · obtain rfl : j2 = j := nI_injb (by omega) (by omega) (hj2.symm.trans hj4)
      subst M1
      rw [q_toss (hs j2 hj1)]
    · exact absurd ⟨j, hj1, hj2⟩ hno2
  · refine ⟨_, rfl, fun d2 hd2 => xE2.imp (e_m_toss (by omega)) (fun v2 M2 h2 => ?_)⟩
    obtain ⟨h2, hk2⟩ := h2
    refine ⟨?_, IV_k hI1 (hk2 ▸ kIV_0)⟩
    rcases h2 with ⟨j2, hj3, hj4, rfl⟩ | ⟨hno2, rfl⟩
    · exact absurd ⟨j2, hj3, hj4⟩ hno
    · rfl
theorem pr_cheapest {κ : xKK} {M : xM} (hI : IV M) {i mk w : Int32} : PRi κ mX11_cheapest mX12_cheapest [.int i, .int mk, .int w] M := by
  intro d hd
  have hI9 := hI
  obtain ⟨⟨np, nr, ng, no, nu, hm, ho, hu⟩, hj, hs, hi9, ht9⟩ := hI
  have hn := hm.2.1.1
  have hn2 := hm.1.1
  have hr := hm.2.2.1.1
  have hr2 := hm.1.2.1
  have hsh : ∀ i, i < np → 0 ≤ (cSh M 1 (6 + i)).toInt ∧ (cSh M 1 (6 + i)).toInt < 5 := fun i hi => r_sh hm hi
  have hz : ∀ j, j < 8 → ∃ z, z ≤ 120 ∧ gI M (142 + 3 * j) 3 = nI z := fun j hj => (hs j hj).2.2.1.elim (fun z q => ⟨z, q.1, q.2.1⟩)
  refine xE2.imp (e_x_cheapest hm hj ho hz (by omega)) (fun v M1 h1 => ?_)
  obtain ⟨h1, hk⟩ := h1
  have k1 : kIV M M1 := kIV_k hk
  have hI1 := IV_k hI9 k1
  have e67 : ∀ k, gI M1 167 k = gI M 167 k := fun k => k1.1 _ _ (by omega)
  have ej : gJ M1 166 18 = gJ M 166 18 := k1.2.2
  have hjk1 : gJ M1 166 18 = 0 := ej.trans hj
  have hm1 : mR M1 1 M1 167 np nr ng := mR_g hm (fun x k a b => k1.1 _ _ (by omega)) e67
  have ho1 : oR M1 71 M1 167 nr no := oR_g ho (fun x k a b => k1.1 _ _ (by omega)) e67
  have hu1 : ruR M1 55 M1 167 nu := ruR_g hu (fun x k a b => k1.1 _ _ (by omega)) e67
  have hs1 : ∀ j, j < 8 → shI M1 j := hI1.2.2.1
  have hz1 : ∀ j, j < 8 → ∃ z, z ≤ 120 ∧ gI M1 172 j = nI z := fun j hj => (hs1 j hj).2.2.1.elim (fun z q => ⟨z, q.1, q.2.2⟩)
  have hn' := hm1.2.1.2
  have hr' := hm1.2.2.1.2
  have hw1 := rPw hm1
  have hh1 := rQh hm1
  rcases h1 with ⟨j, hj1, hj2, c1, rfl⟩ | ⟨hno, rfl⟩
  · refine ⟨_, rfl, fun d2 hd2 => xE2.imp (e_m_cheapest hm1 ho1 hz1 (by omega)) (fun v2 M2 h2 => ?_)⟩
    obtain ⟨h2, hk2⟩ := h2
    refine ⟨?_, IV_k hI1 (kIV_r hk2)⟩
    rcases h2 with ⟨j2, hj3, hj4, c12, rfl⟩ | ⟨hno2, rfl⟩
    · obtain rfl : j2 = j := nI_injb (by omega) (by omega) (hj2.symm.trans hj4)
      have hsj := hs j2 hj1
      have hz9 := q_z hsj
      have e1 : gI M1 172 j2 = gI M 172 j2 := k1.1 _ _ (by omega)
      have e0 : rWR M1 j2 0 = rWR M j2 0 := by unfold rWR; rw [k1.1 _ _ (by omega), k1.1 _ _ (by omega)]
      have eE : ∀ k, k < (gI M 172 j2).toNatClampNeg → gI M1 173 (120 * j2 + k) = gI M (144 + 3 * j2) k := fun k hk9 => (k1.1 _ _ (by omega)).trans (q_E hsj k hk9).symm
      unfold cheM cheC wspV
      rw [e0, e1, q_RR hsj (Or.inr (Int32.le_refl 0)), hz9.1]
      by_cases c : ¬ rWR M j2 0 = 0
      · rw [if_pos c, if_pos c, if_pos c]
      · rw [if_neg c, if_neg c]
        by_cases c2 : spOK (fun k => gI M (144 + 3 * j2) k) (gI M 172 j2).toNatClampNeg
        · have c3 := (spOK_c (E' := fun k => gI M1 173 (120 * j2 + k)) eE).mpr c2
          rw [if_pos c2, if_pos c3, if_neg (fun q => q rfl), cheV_c e67 ej eE]
        · have c3 : ¬ spOK (fun k => gI M1 173 (120 * j2 + k)) (gI M 172 j2).toNatClampNeg := fun q => c2 ((spOK_c (E' := fun k => gI M1 173 (120 * j2 + k)) eE).mp q)
          rw [if_neg c2, if_neg c3, if_pos (by decide)]
    · exact absurd ⟨⟨j, hj1, hj2⟩, c1⟩ hno2
  · refine ⟨_, rfl, fun d2 hd2 => xE2.imp (e_m_cheapest hm1 ho1 hz1 (by omega)) (fun v2 M2 h2 => ?_)⟩
    obtain ⟨h2, hk2⟩ := h2
    refine ⟨?_, IV_k hI1 (kIV_r hk2)⟩
    rcases h2 with ⟨j2, hj3, hj4, c12, rfl⟩ | ⟨hno2, rfl⟩
    · exact absurd ⟨⟨j2, hj3, hj4⟩, c12⟩ hno
    · rfl
theorem pr_climb {κ : xKK} {M : xM} (hI : IV M) {h : Int32} : PRi κ mX11_climb mX12_climb [.int h] M := by
  intro d hd
  have hI9 := hI
  obtain ⟨⟨np, nr, ng, no, nu, hm, ho, hu⟩, hj, hs, hi9, ht9⟩ := hI
  have hn := hm.2.1.1
  have hn2 := hm.1.1
  have hr := hm.2.2.1.1
  have hr2 := hm.1.2.1
  have hsh : ∀ i, i < np → 0 ≤ (cSh M 1 (6 + i)).toInt ∧ (cSh M 1 (6 + i)).toInt < 5 := fun i hi => r_sh hm hi
  have hz : ∀ j, j < 8 → ∃ z, z ≤ 120 ∧ gI M (142 + 3 * j) 3 = nI z := fun j hj => (hs j hj).2.2.1.elim (fun z q => ⟨z, q.1, q.2.1⟩)
  refine xE2.imp (e_x_climb hm hj hu (by omega)) (fun v M1 h1 => ?_)
  obtain ⟨h1, hk⟩ := h1
  have k1 : kIV M M1 := kIV_k hk
  have hI1 := IV_k hI9 k1
  have e67 : ∀ k, gI M1 167 k = gI M 167 k := fun k => k1.1 _ _ (by omega)
  have ej : gJ M1 166 18 = gJ M 166 18 := k1.2.2
  have hjk1 : gJ M1 166 18 = 0 := ej.trans hj
  have hm1 : mR M1 1 M1 167 np nr ng := mR_g hm (fun x k a b => k1.1 _ _ (by omega)) e67
  have ho1 : oR M1 71 M1 167 nr no := oR_g ho (fun x k a b => k1.1 _ _ (by omega)) e67
  have hu1 : ruR M1 55 M1 167 nu := ruR_g hu (fun x k a b => k1.1 _ _ (by omega)) e67
  have hs1 : ∀ j, j < 8 → shI M1 j := hI1.2.2.1
  have hz1 : ∀ j, j < 8 → ∃ z, z ≤ 120 ∧ gI M1 172 j = nI z := fun j hj => (hs1 j hj).2.2.1.elim (fun z q => ⟨z, q.1, q.2.2⟩)
  have hn' := hm1.2.1.2
  have hr' := hm1.2.2.1.2
  have hw1 := rPw hm1
  have hh1 := rQh hm1
  rcases h1 with ⟨c1, rfl⟩ | ⟨c1, rfl⟩
  · refine ⟨_, rfl, fun d2 hd2 => xE2.imp (e_m_climb hm1 hjk1 hu1 (by omega)) (fun v2 M2 h2 => ?_)⟩
    obtain ⟨h2, hk2⟩ := h2
    refine ⟨?_, IV_k hI1 (kIV_r hk2)⟩
    rcases h2 with ⟨c2, rfl⟩ | ⟨c2, rfl⟩
    · rw [clV_c e67 ej]
    · exact absurd c1 c2
  · refine ⟨_, rfl, fun d2 hd2 => xE2.imp (e_m_climb hm1 hjk1 hu1 (by omega)) (fun v2 M2 h2 => ?_)⟩
    obtain ⟨h2, hk2⟩ := h2
    refine ⟨?_, IV_k hI1 (kIV_r hk2)⟩
    rcases h2 with ⟨c2, rfl⟩ | ⟨c2, rfl⟩
    · exact absurd c2 c1
    · rfl
theorem pr_gusts {κ : xKK} {M : xM} (hI : IV M) {w : Int32} : PRi κ mX11_gusts mX12_gusts [.int w] M := by
  intro d hd
  have hI9 := hI
  obtain ⟨⟨np, nr, ng, no, nu, hm, ho, hu⟩, hj, hs, hi9, ht9⟩ := hI
  have hn := hm.2.1.1
  have hn2 := hm.1.1
  have hr := hm.2.2.1.1
  have hr2 := hm.1.2.1
  have hsh : ∀ i, i < np → 0 ≤ (cSh M 1 (6 + i)).toInt ∧ (cSh M 1 (6 + i)).toInt < 5 := fun i hi => r_sh hm hi
  have hz : ∀ j, j < 8 → ∃ z, z ≤ 120 ∧ gI M (142 + 3 * j) 3 = nI z := fun j hj => (hs j hj).2.2.1.elim (fun z q => ⟨z, q.1, q.2.1⟩)
  obtain ⟨q, hq, e⟩ := sq_n (f := fun k => gI M 5 k) ng hm.1.2.2 (fun k hk => by
    obtain ⟨g1, g2⟩ := hm.2.2.2.2.2.2.2.2.1 k (by have := hm.1.2.2; omega)
    show nr3 0 999 (gI M 5 k)
    rw [show gI M 5 k = gI M 167 (147 + k) from g1]
    exact g2)
  have hng := hm.1.2.2
  have e5 : (fun k => gI M 167 (147 + k) * gI M 167 (147 + k)) = fun k => gI M 167 (147 + k) * gI M 167 (147 + k) := rfl
  have e2 : iSum (fun k => gI M 167 (147 + k) * gI M 167 (147 + k)) ng = nI q := by
    rw [← e]
    exact iSum_cong (fun k hk => by rw [show gI M 5 k = gI M 167 (147 + k) from (hm.2.2.2.2.2.2.2.2.1 k (by omega)).1])
  have e3 : iSum (gI M 5) ng = iSum (fun k => gI M 167 (147 + k)) ng := iSum_cong (fun k hk => (hm.2.2.2.2.2.2.2.2.1 k (by omega)).1)
  refine xE2.imp (e_x_gusts (q := q) hm.2.2.2.1.1 hng e (by omega) (by omega)) (fun v M1 h1 => ?_)
  obtain ⟨h1, hk⟩ := h1
  subst M1
  have RF : ∀ d2, 190 ≤ d2 → xE2 κ mX12_gusts d2 [.ref 166, .int w] M (fun v2 M2 => ((w = 0 ∧ (∃ s : Nat, v2 = some (.int (nI s)) ∧ s * s ≤ q ∧ q < (s + 1) * (s + 1)) ∨ w = 1 ∧ v2 = some (.int (iSum (fun k => gI M 167 (147 + k)) ng))) ∨ (¬ (0 ≤ w ∧ w ≤ 1) ∧ v2 = some (.int (-1)))) ∧ M2 = M) := fun d2 hd2 => e_m_gusts (q := q) hm.2.2.2.1.2 hng e2 (by omega) (by omega)
  rcases h1 with (⟨rfl, s, rfl, s1, s2⟩ | ⟨rfl, rfl⟩) | ⟨c1, rfl⟩
  · refine ⟨_, rfl, fun d2 hd2 => xE2.imp (RF d2 hd2) (fun v2 M2 h2 => ?_)⟩
    obtain ⟨h2, rfl⟩ := h2
    refine ⟨?_, hI9⟩
    rcases h2 with (⟨_, t, rfl, t1, t2⟩ | ⟨c, _⟩) | ⟨c, _⟩
    · rw [sq_u9 s1 s2 t1 t2]
    · exact absurd c (by decide)
    · exact absurd (by decide) c
  · refine ⟨_, rfl, fun d2 hd2 => xE2.imp (RF d2 hd2) (fun v2 M2 h2 => ?_)⟩
    obtain ⟨h2, rfl⟩ := h2
    refine ⟨?_, hI9⟩
    rcases h2 with (⟨c, _⟩ | ⟨_, rfl⟩) | ⟨c, _⟩
    · exact absurd c (by decide)
    · rw [e3]
    · exact absurd (by decide) c
  · refine ⟨_, rfl, fun d2 hd2 => xE2.imp (RF d2 hd2) (fun v2 M2 h2 => ?_)⟩
    obtain ⟨h2, rfl⟩ := h2
    refine ⟨?_, hI9⟩
    rcases h2 with (⟨rfl, _⟩ | ⟨rfl, _⟩) | ⟨_, rfl⟩
    · exact absurd (by decide) c1
    · exact absurd (by decide) c1
    · rfl
theorem pr_swings {κ : xKK} {M : xM} (hI : IV M) {i w : Int32} : PRl κ mX11_swings mX12_swings [.int i, .int w] M := by
  intro d hd
  have hI9 := hI
  obtain ⟨⟨np, nr, ng, no, nu, hm, ho, hu⟩, hj, hs, hi9, ht9⟩ := hI
  have hn := hm.2.1.1
  have hn2 := hm.1.1
  have hr := hm.2.2.1.1
  have hr2 := hm.1.2.1
  have hsh : ∀ i, i < np → 0 ≤ (cSh M 1 (6 + i)).toInt ∧ (cSh M 1 (6 + i)).toInt < 5 := fun i hi => r_sh hm hi
  have hz : ∀ j, j < 8 → ∃ z, z ≤ 120 ∧ gI M (142 + 3 * j) 3 = nI z := fun j hj => (hs j hj).2.2.1.elim (fun z q => ⟨z, q.1, q.2.1⟩)
  have SX : ∀ j, j < 8 → swR (gI M (144 + 3 * j)) (gI M (142 + 3 * j) 3).toNatClampNeg = swR (fun k => gI M 173 (120 * j + k)) (gI M 172 j).toNatClampNeg := fun j hj9 => by
    rw [(q_z (hs j hj9)).1]
    exact swR_c (q_E (hs j hj9))
  refine xE2.imp (e_x_swings hz (by omega)) (fun v M1 h1 => ?_)
  rcases h1 with ⟨j, hj1, hj2, c1, ⟨e0, rfl, hk⟩ | ⟨e0, rfl, hk⟩⟩ | ⟨hno, rfl, hk⟩
  · have k1 : kIV M M1 := hk ▸ kIV_sw (Or.inl rfl)
    have hI1 := IV_k hI9 k1
    have e67 : ∀ k, gI M1 167 k = gI M 167 k := fun k => k1.1 _ _ (by omega)
    have ej : gJ M1 166 18 = gJ M 166 18 := k1.2.2
    have hjk1 : gJ M1 166 18 = 0 := ej.trans hj
    have hm1 : mR M1 1 M1 167 np nr ng := mR_g hm (fun x k a b => k1.1 _ _ (by omega)) e67
    have ho1 : oR M1 71 M1 167 nr no := oR_g ho (fun x k a b => k1.1 _ _ (by omega)) e67
    have hu1 : ruR M1 55 M1 167 nu := ruR_g hu (fun x k a b => k1.1 _ _ (by omega)) e67
    have hs1 : ∀ j, j < 8 → shI M1 j := hI1.2.2.1
    have hz1 : ∀ j, j < 8 → ∃ z, z ≤ 120 ∧ gI M1 172 j = nI z := fun j hj => (hs1 j hj).2.2.1.elim (fun z q => ⟨z, q.1, q.2.2⟩)
    have hn' := hm1.2.1.2
    have hr' := hm1.2.2.1.2
    have hw1 := rPw hm1
    have hh1 := rQh hm1
    refine ⟨_, rfl, fun d2 hd2 => xE2.imp (e_m_swings hz1 (by omega)) (fun v2 M2 h2 => ?_)⟩
    rcases h2 with ⟨j2, hj3, hj4, c2, ⟨e2, rfl, hk2⟩ | ⟨e2, rfl, hk2⟩⟩ | ⟨hno2, rfl, hk2⟩
    · refine ⟨?_, IV_k hI1 (hk2 ▸ kIV_sw (Or.inr ⟨rfl, by decide, by decide, by decide⟩))⟩
      obtain rfl : j2 = j := nI_injb (by omega) (by omega) (hj2.symm.trans hj4)
      have h0 := swR_b (fun k => gI M 173 (120 * j2 + k)) (q_z (hs j2 hj1)).2
      have eS : swR (fun k => gI M1 173 (120 * j2 + k)) (gI M1 172 j2).toNatClampNeg = swR (gI M (144 + 3 * j2)) (gI M (142 + 3 * j2) 3).toNatClampNeg := by
        rw [SX j2 hj1, k1.1 172 j2 (by omega)]
        exact swR_c (fun k hk => k1.1 _ _ (by omega))
      rw [SX j2 hj1] at eS ⊢
      rw [eS]
    · obtain rfl : j2 = j := nI_injb (by omega) (by omega) (hj2.symm.trans hj4)
      rw [← q_RR (hs1 j2 hj1) (Or.inr (by decide))] at e2
      unfold cRR at e0 e2
      rw [k1.1 _ _ (by omega), k1.1 _ _ (by omega)] at e2
      exact absurd e0 e2
    · exact absurd ⟨⟨j, hj1, hj2⟩, c1⟩ hno2
  · have k1 : kIV M M1 := hk ▸ kIV_0
    have hI1 := IV_k hI9 k1
    have e67 : ∀ k, gI M1 167 k = gI M 167 k := fun k => k1.1 _ _ (by omega)
    have ej : gJ M1 166 18 = gJ M 166 18 := k1.2.2
    have hjk1 : gJ M1 166 18 = 0 := ej.trans hj
    have hm1 : mR M1 1 M1 167 np nr ng := mR_g hm (fun x k a b => k1.1 _ _ (by omega)) e67
    have ho1 : oR M1 71 M1 167 nr no := oR_g ho (fun x k a b => k1.1 _ _ (by omega)) e67
    have hu1 : ruR M1 55 M1 167 nu := ruR_g hu (fun x k a b => k1.1 _ _ (by omega)) e67
    have hs1 : ∀ j, j < 8 → shI M1 j := hI1.2.2.1
    have hz1 : ∀ j, j < 8 → ∃ z, z ≤ 120 ∧ gI M1 172 j = nI z := fun j hj => (hs1 j hj).2.2.1.elim (fun z q => ⟨z, q.1, q.2.2⟩)
    have hn' := hm1.2.1.2
    have hr' := hm1.2.2.1.2
    have hw1 := rPw hm1
    have hh1 := rQh hm1
    refine ⟨_, rfl, fun d2 hd2 => xE2.imp (e_m_swings hz1 (by omega)) (fun v2 M2 h2 => ?_)⟩
    subst M1
    rcases h2 with ⟨j2, hj3, hj4, c2, ⟨e2, rfl, hk2⟩ | ⟨e2, rfl, hk2⟩⟩ | ⟨hno2, rfl, hk2⟩
    · obtain rfl : j2 = j := nI_injb (by omega) (by omega) (hj2.symm.trans hj4)
      rw [← q_RR (hs j2 hj1) (Or.inr (by decide))] at e2
      exact absurd e2 e0
    · obtain rfl : j2 = j := nI_injb (by omega) (by omega) (hj2.symm.trans hj4)
      exact ⟨by rw [q_RR (hs j2 hj1) (Or.inr (by decide))], hk2 ▸ hI9⟩
    · exact absurd ⟨⟨j, hj1, hj2⟩, c1⟩ hno2
  · have k1 : kIV M M1 := hk ▸ kIV_0
    have hI1 := IV_k hI9 k1
    have e67 : ∀ k, gI M1 167 k = gI M 167 k := fun k => k1.1 _ _ (by omega)
    have ej : gJ M1 166 18 = gJ M 166 18 := k1.2.2
    have hjk1 : gJ M1 166 18 = 0 := ej.trans hj
    have hm1 : mR M1 1 M1 167 np nr ng := mR_g hm (fun x k a b => k1.1 _ _ (by omega)) e67
    have ho1 : oR M1 71 M1 167 nr no := oR_g ho (fun x k a b => k1.1 _ _ (by omega)) e67
    have hu1 : ruR M1 55 M1 167 nu := ruR_g hu (fun x k a b => k1.1 _ _ (by omega)) e67
    have hs1 : ∀ j, j < 8 → shI M1 j := hI1.2.2.1
    have hz1 : ∀ j, j < 8 → ∃ z, z ≤ 120 ∧ gI M1 172 j = nI z := fun j hj => (hs1 j hj).2.2.1.elim (fun z q => ⟨z, q.1, q.2.2⟩)
    have hn' := hm1.2.1.2
    have hr' := hm1.2.2.1.2
    have hw1 := rPw hm1
    have hh1 := rQh hm1
    refine ⟨_, rfl, fun d2 hd2 => xE2.imp (e_m_swings hz1 (by omega)) (fun v2 M2 h2 => ?_)⟩
    subst M1
    rcases h2 with ⟨j2, hj3, hj4, c2, _⟩ | ⟨hno2, rfl, hk2⟩
    · exact absurd ⟨⟨j2, hj3, hj4⟩, c2⟩ hno
    · exact ⟨rfl, hk2 ▸ hI9⟩
theorem pr_years {κ : xKK} {M : xM} (hI : IV M) {i w : Int32} : PRi κ mX11_years mX12_years [.int i, .int w] M := by
  intro d hd
  have hI9 := hI
  obtain ⟨⟨np, nr, ng, no, nu, hm, ho, hu⟩, hj, hs, hi9, ht9⟩ := hI
  have hn := hm.2.1.1
  have hn2 := hm.1.1
  have hr := hm.2.2.1.1
  have hr2 := hm.1.2.1
  have hsh : ∀ i, i < np → 0 ≤ (cSh M 1 (6 + i)).toInt ∧ (cSh M 1 (6 + i)).toInt < 5 := fun i hi => r_sh hm hi
  have hz : ∀ j, j < 8 → ∃ z, z ≤ 120 ∧ gI M (142 + 3 * j) 3 = nI z := fun j hj => (hs j hj).2.2.1.elim (fun z q => ⟨z, q.1, q.2.1⟩)
  have SX : ∀ j, j < 8 → swR (gI M (144 + 3 * j)) (gI M (142 + 3 * j) 3).toNatClampNeg = swR (fun k => gI M 173 (120 * j + k)) (gI M 172 j).toNatClampNeg := fun j hj9 => by
    rw [(q_z (hs j hj9)).1]
    exact swR_c (q_E (hs j hj9))
  refine xE2.imp (e_x_years hz (by omega)) (fun v M1 h1 => ?_)
  rcases h1 with ⟨j, hj1, hj2, c1, ⟨e0, rfl, hk⟩ | ⟨e0, rfl, hk⟩⟩ | ⟨hno, rfl, hk⟩
  · have k1 : kIV M M1 := hk ▸ kIV_sw (Or.inl rfl)
    have hI1 := IV_k hI9 k1
    have e67 : ∀ k, gI M1 167 k = gI M 167 k := fun k => k1.1 _ _ (by omega)
    have ej : gJ M1 166 18 = gJ M 166 18 := k1.2.2
    have hjk1 : gJ M1 166 18 = 0 := ej.trans hj
    have hm1 : mR M1 1 M1 167 np nr ng := mR_g hm (fun x k a b => k1.1 _ _ (by omega)) e67
    have ho1 : oR M1 71 M1 167 nr no := oR_g ho (fun x k a b => k1.1 _ _ (by omega)) e67
    have hu1 : ruR M1 55 M1 167 nu := ruR_g hu (fun x k a b => k1.1 _ _ (by omega)) e67
    have hs1 : ∀ j, j < 8 → shI M1 j := hI1.2.2.1
    have hz1 : ∀ j, j < 8 → ∃ z, z ≤ 120 ∧ gI M1 172 j = nI z := fun j hj => (hs1 j hj).2.2.1.elim (fun z q => ⟨z, q.1, q.2.2⟩)
    have hn' := hm1.2.1.2
    have hr' := hm1.2.2.1.2
    have hw1 := rPw hm1
    have hh1 := rQh hm1
    refine ⟨_, rfl, fun d2 hd2 => xE2.imp (e_m_years hz1 (by omega)) (fun v2 M2 h2 => ?_)⟩
    rcases h2 with ⟨j2, hj3, hj4, c2, ⟨e2, rfl, hk2⟩ | ⟨e2, rfl, hk2⟩⟩ | ⟨hno2, rfl, hk2⟩
    · refine ⟨?_, IV_k hI1 (hk2 ▸ kIV_sw (Or.inr ⟨rfl, by decide, by decide, by decide⟩))⟩
      obtain rfl : j2 = j := nI_injb (by omega) (by omega) (hj2.symm.trans hj4)
      have h0 := swR_b (fun k => gI M 173 (120 * j2 + k)) (q_z (hs j2 hj1)).2
      have eS : swR (fun k => gI M1 173 (120 * j2 + k)) (gI M1 172 j2).toNatClampNeg = swR (gI M (144 + 3 * j2)) (gI M (142 + 3 * j2) 3).toNatClampNeg := by
        rw [SX j2 hj1, k1.1 172 j2 (by omega)]
        exact swR_c (fun k hk => k1.1 _ _ (by omega))
      rw [SX j2 hj1] at eS ⊢
      rw [eS]
      by_cases c : (swR (fun k => gI M 173 (120 * j2 + k)) (gI M 172 j2).toNatClampNeg).2.2 = 0
      · rw [if_pos c, if_pos ((le0_iff h0).mpr c)]
      · rw [if_neg c, if_neg (fun q => c ((le0_iff h0).mp q))]
    · obtain rfl : j2 = j := nI_injb (by omega) (by omega) (hj2.symm.trans hj4)
      rw [← q_RR (hs1 j2 hj1) (Or.inr (by decide))] at e2
      unfold cRR at e0 e2
      rw [k1.1 _ _ (by omega), k1.1 _ _ (by omega)] at e2
      exact absurd e0 e2
    · exact absurd ⟨⟨j, hj1, hj2⟩, c1⟩ hno2
  · have k1 : kIV M M1 := hk ▸ kIV_0
    have hI1 := IV_k hI9 k1
    have e67 : ∀ k, gI M1 167 k = gI M 167 k := fun k => k1.1 _ _ (by omega)
    have ej : gJ M1 166 18 = gJ M 166 18 := k1.2.2
    have hjk1 : gJ M1 166 18 = 0 := ej.trans hj
    have hm1 : mR M1 1 M1 167 np nr ng := mR_g hm (fun x k a b => k1.1 _ _ (by omega)) e67
    have ho1 : oR M1 71 M1 167 nr no := oR_g ho (fun x k a b => k1.1 _ _ (by omega)) e67
    have hu1 : ruR M1 55 M1 167 nu := ruR_g hu (fun x k a b => k1.1 _ _ (by omega)) e67
    have hs1 : ∀ j, j < 8 → shI M1 j := hI1.2.2.1
    have hz1 : ∀ j, j < 8 → ∃ z, z ≤ 120 ∧ gI M1 172 j = nI z := fun j hj => (hs1 j hj).2.2.1.elim (fun z q => ⟨z, q.1, q.2.2⟩)
    have hn' := hm1.2.1.2
    have hr' := hm1.2.2.1.2
    have hw1 := rPw hm1
    have hh1 := rQh hm1
    refine ⟨_, rfl, fun d2 hd2 => xE2.imp (e_m_years hz1 (by omega)) (fun v2 M2 h2 => ?_)⟩
    subst M1
    rcases h2 with ⟨j2, hj3, hj4, c2, ⟨e2, rfl, hk2⟩ | ⟨e2, rfl, hk2⟩⟩ | ⟨hno2, rfl, hk2⟩
    · obtain rfl : j2 = j := nI_injb (by omega) (by omega) (hj2.symm.trans hj4)
      rw [← q_RR (hs j2 hj1) (Or.inr (by decide))] at e2
      exact absurd e2 e0
    · obtain rfl : j2 = j := nI_injb (by omega) (by omega) (hj2.symm.trans hj4)
      exact ⟨by rw [q_RR (hs j2 hj1) (Or.inr (by decide))], hk2 ▸ hI9⟩
    · exact absurd ⟨⟨j, hj1, hj2⟩, c1⟩ hno2
  · have k1 : kIV M M1 := hk ▸ kIV_0
    have hI1 := IV_k hI9 k1
    have e67 : ∀ k, gI M1 167 k = gI M 167 k := fun k => k1.1 _ _ (by omega)
    have ej : gJ M1 166 18 = gJ M 166 18 := k1.2.2
    have hjk1 : gJ M1 166 18 = 0 := ej.trans hj
    have hm1 : mR M1 1 M1 167 np nr ng := mR_g hm (fun x k a b => k1.1 _ _ (by omega)) e67
    have ho1 : oR M1 71 M1 167 nr no := oR_g ho (fun x k a b => k1.1 _ _ (by omega)) e67
    have hu1 : ruR M1 55 M1 167 nu := ruR_g hu (fun x k a b => k1.1 _ _ (by omega)) e67
    have hs1 : ∀ j, j < 8 → shI M1 j := hI1.2.2.1
    have hz1 : ∀ j, j < 8 → ∃ z, z ≤ 120 ∧ gI M1 172 j = nI z := fun j hj => (hs1 j hj).2.2.1.elim (fun z q => ⟨z, q.1, q.2.2⟩)
    have hn' := hm1.2.1.2
    have hr' := hm1.2.2.1.2
    have hw1 := rPw hm1
    have hh1 := rQh hm1
    refine ⟨_, rfl, fun d2 hd2 => xE2.imp (e_m_years hz1 (by omega)) (fun v2 M2 h2 => ?_)⟩
    subst M1
    rcases h2 with ⟨j2, hj3, hj4, c2, _⟩ | ⟨hno2, rfl, hk2⟩
    · exact absurd ⟨⟨j2, hj3, hj4⟩, c2⟩ hno
    · exact ⟨rfl, hk2 ▸ hI9⟩
theorem pr_order {κ : xKK} {M : xM} (hI : IV M) {x t ml mp : Int32} : PRl κ mX11_order mX12_order [.int x, .int t, .int ml, .int mp] M := by
  intro d hd
  have hI9 := hI
  obtain ⟨⟨np, nr, ng, no, nu, hm, ho, hu⟩, hj, hs, hi9, ht9⟩ := hI
  have hn := hm.2.1.1
  have hn2 := hm.1.1
  have hr := hm.2.2.1.1
  have hr2 := hm.1.2.1
  have hsh : ∀ i, i < np → 0 ≤ (cSh M 1 (6 + i)).toInt ∧ (cSh M 1 (6 + i)).toInt < 5 := fun i hi => r_sh hm hi
  have hz : ∀ j, j < 8 → ∃ z, z ≤ 120 ∧ gI M (142 + 3 * j) 3 = nI z := fun j hj => (hs j hj).2.2.1.elim (fun z q => ⟨z, q.1, q.2.1⟩)
  have NQ : ∀ U r, ¬ oQ M np nr U t ml mp 0 r := fun U r q => by
    have := q.1.2
    rw [Nat.zero_testBit] at this
    cases this
  refine xE2.imp (e_x_order hm hj (by omega)) (fun v M1 h1 => ?_)
  obtain ⟨h1, hk⟩ := h1
  have k1 : kIV M M1 := kIV_k hk
  have hI1 := IV_k hI9 k1
  have e67 : ∀ k, gI M1 167 k = gI M 167 k := fun k => k1.1 _ _ (by omega)
  have ej : gJ M1 166 18 = gJ M 166 18 := k1.2.2
  have hjk1 : gJ M1 166 18 = 0 := ej.trans hj
  have hm1 : mR M1 1 M1 167 np nr ng := mR_g hm (fun x k a b => k1.1 _ _ (by omega)) e67
  have ho1 : oR M1 71 M1 167 nr no := oR_g ho (fun x k a b => k1.1 _ _ (by omega)) e67
  have hu1 : ruR M1 55 M1 167 nu := ruR_g hu (fun x k a b => k1.1 _ _ (by omega)) e67
  have hs1 : ∀ j, j < 8 → shI M1 j := hI1.2.2.1
  have hz1 : ∀ j, j < 8 → ∃ z, z ≤ 120 ∧ gI M1 172 j = nI z := fun j hj => (hs1 j hj).2.2.1.elim (fun z q => ⟨z, q.1, q.2.2⟩)
  have hn' := hm1.2.1.2
  have hr' := hm1.2.2.1.2
  have hw1 := rPw hm1
  have hh1 := rQh hm1
  have HU : ∀ U V, gO M nr x t ml mp U → gO M1 nr x t ml mp V → V = U := fun U V a b => by
    have h1 := a.1
    have h2 := b.1
    have hp : 2 ^ nr ≤ 4096 := Nat.pow_le_pow_right (n := 2) (by omega) hr2
    exact nI_injb (by omega) (by omega) (h1.1.symm.trans h2.1)
  have RF : ∀ d2, 190 ≤ d2 → xE2 κ mX12_order d2 [.ref 166, .int x, .int t, .int ml, .int mp] M1 _ := fun d2 hd2 => e_m_order hm1 hjk1 (by omega)
  rcases h1 with ⟨U, g1, ⟨w, w1, rfl⟩ | ⟨w1, rfl⟩⟩ | ⟨g1, rfl⟩
  · refine ⟨_, rfl, fun d2 hd2 => xE2.imp (RF d2 hd2) (fun v2 M2 h2 => ?_)⟩
    obtain ⟨h2, hk2⟩ := h2
    refine ⟨?_, IV_k hI1 (kIV_r hk2)⟩
    rcases h2 with ⟨V, g2, ⟨w', w2, rfl⟩ | ⟨w2, rfl⟩⟩ | ⟨g2, rfl⟩
    · obtain rfl := HU U V g1 g2
      rw [oQ_c e67 ej] at w2
      obtain ⟨f1, o1⟩ := w1
      obtain ⟨f2, o2⟩ := w2
      rw [Ord_u (NQ _) o2 o1]
    · obtain rfl := HU U V g1 g2
      rw [oQ_c e67 ej] at w2
      exact absurd (Ord_C w1) w2
    · exact absurd ⟨U, (gO_c e67).mpr g1⟩ g2
  · refine ⟨_, rfl, fun d2 hd2 => xE2.imp (RF d2 hd2) (fun v2 M2 h2 => ?_)⟩
    obtain ⟨h2, hk2⟩ := h2
    refine ⟨?_, IV_k hI1 (kIV_r hk2)⟩
    rcases h2 with ⟨V, g2, ⟨w', w2, rfl⟩ | ⟨w2, rfl⟩⟩ | ⟨g2, rfl⟩
    · obtain rfl := HU U V g1 g2
      rw [oQ_c e67 ej] at w2
      exact absurd (Ord_C w2) w1
    · rfl
    · exact absurd ⟨U, (gO_c e67).mpr g1⟩ g2
  · refine ⟨_, rfl, fun d2 hd2 => xE2.imp (RF d2 hd2) (fun v2 M2 h2 => ?_)⟩
    obtain ⟨h2, hk2⟩ := h2
    refine ⟨?_, IV_k hI1 (kIV_r hk2)⟩
    rcases h2 with ⟨V, g2, _⟩ | ⟨g2, rfl⟩
    · exact absurd ⟨V, (gO_c e67).mp g2⟩ g1
    · rfl
