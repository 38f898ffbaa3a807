/-! ===== class's functions are the reference's ===== -/
section QF
variable {C R : xM} {np nr ng : Nat}
theorem rW_b (h : mR C 1 R 167 np nr ng) {j : Nat} (hj : j < np) : 0 ≤ (rW R j).toInt ∧ (rW R j).toInt ≤ 300 := by
  obtain ⟨⟨a1, a2⟩, -, ⟨b1, b2⟩, -, -, ⟨c1, c2⟩, -⟩ := r_pB h hj
  have e2 : (2 : Int32).toInt = 2 := by decide
  have e3 : (3 : Int32).toInt = 3 := by decide
  have e5 : (5 : Int32).toInt = 5 := by decide
  have m2 : (2 * rs R j 2).toInt = 2 * (rs R j 2).toInt := by
    have b1' : 1 ≤ (rs R j 2).toInt := b1
    have b2' : (rs R j 2).toInt ≤ 99 := b2
    rw [fb_mulI (by rw [e2]; omega) (by rw [e2]; omega), e2]
  have b1' : 1 ≤ (rs R j 2).toInt := b1
  have b2' : (rs R j 2).toInt ≤ 99 := b2
  have c1' : 0 ≤ (rs R j 5).toInt := c1
  have c2' : (rs R j 5).toInt ≤ 20 := c2
  have m3 : (3 * rs R j 5).toInt = 3 * (rs R j 5).toInt := by rw [fb_mulI (by rw [e3]; omega) (by rw [e3]; omega), e3]
  have s1 : (rs R j 2 + rs R j 5).toInt = (rs R j 2).toInt + (rs R j 5).toInt := fb_addI (by omega) (by omega)
  have s2 : (2 * rs R j 2 + rs R j 5).toInt = 2 * (rs R j 2).toInt + (rs R j 5).toInt := by rw [fb_addI (by omega) (by omega), m2]
  have s3 : (2 * rs R j 2 + 3 * rs R j 5).toInt = 2 * (rs R j 2).toInt + 3 * (rs R j 5).toInt := by rw [fb_addI (by omega) (by omega), m2, m3]
  have s4 : (2 * rs R j 2 + rs R j 5 + 5).toInt = 2 * (rs R j 2).toInt + (rs R j 5).toInt + 5 := by rw [fb_addI (by omega) (by omega), s2, e5]
  unfold rW
  split
  · rw [s1]; omega
  · split
    · rw [s2]; omega
    · split
      · rw [s3]; omega
      · rw [s4]; omega
theorem t64_add {a b : Int32} (h1 : -2147483648 ≤ a.toInt + b.toInt) (h2 : a.toInt + b.toInt < 2147483648) : (a + b).toInt64 = a.toInt64 + b.toInt64 := by
  refine Int64.toInt_inj.mp ?_
  rw [Int64.toInt_add, Int32.toInt_toInt64, Int32.toInt_toInt64, Int32.toInt_toInt64, fb_addI (by omega) (by omega)]
  exact (Int.bmod_eq_of_le (by omega) (by omega)).symm
theorem t64_sub {a b : Int32} (h1 : -2147483648 ≤ a.toInt - b.toInt) (h2 : a.toInt - b.toInt < 2147483648) : (a - b).toInt64 = a.toInt64 - b.toInt64 := by
  refine Int64.toInt_inj.mp ?_
  rw [Int64.toInt_sub, Int32.toInt_toInt64, Int32.toInt_toInt64, Int32.toInt_toInt64, fb_subI (by omega) (by omega)]
  exact (Int.bmod_eq_of_le (by omega) (by omega)).symm
theorem xw_b {x w : Int32} (hx : 0 ≤ x.toInt ∧ x.toInt ≤ 9999) (hw : 0 ≤ w.toInt ∧ w.toInt ≤ 300) : 0 ≤ (x * w / 100).toInt ∧ (x * w / 100).toInt ≤ 30000 := by
  have hp : 0 ≤ x.toInt * w.toInt := Int.mul_nonneg hx.1 hw.1
  have hp2 : x.toInt * w.toInt ≤ 9999 * 300 := Int.mul_le_mul hx.2 hw.2 hw.1 (by omega)
  have e : (x * w).toInt = x.toInt * w.toInt := fb_mulI (by omega) (by omega)
  have ed : (x * w / 100).toInt = x.toInt * w.toInt / 100 := by
    rw [Int32.toInt_div, e, show (100 : Int32).toInt = 100 by decide, Int.tdiv_eq_ediv_of_nonneg hp]
    exact Int.bmod_eq_of_le (by omega) (by omega)
  rw [ed]
  omega
theorem q_Na (h : mR C 1 R 167 np nr ng) {x : Int32} (hx : 0 ≤ x.toInt ∧ x.toInt ≤ 9999) {j : Nat} (hj : j < np) : cNa C np x j = rNa R np x j := by
  have e1 : gI C (6 + j) 5 = rs R j 4 := (r_p h hj).1 4 (by omega)
  have e2 : cW C (6 + j) = rW R j := q_W h hj
  have hw := xw_b hx (rW_b h hj)
  obtain ⟨-, -, -, -, ⟨b1, b2⟩, -⟩ := r_pB h hj
  have b1' : 1 ≤ (rs R j 4).toInt := b1
  have b2' : (rs R j 4).toInt ≤ 99 := b2
  unfold cNa rNa
  rw [e1, e2]
  by_cases c : j + 1 < np
  · have e3 : gI C (6 + (j + 1)) 5 = rs R (j + 1) 4 := (r_p h c).1 4 (by omega)
    obtain ⟨-, -, -, -, ⟨d1, d2⟩, -⟩ := r_pB h c
    have d1' : 1 ≤ (rs R (j + 1) 4).toInt := d1
    have d2' : (rs R (j + 1) 4).toInt ≤ 99 := d2
    have s : (rs R j 4 + rs R (j + 1) 4).toInt = (rs R j 4).toInt + (rs R (j + 1) 4).toInt := fb_addI (by omega) (by omega)
    rw [if_pos c, if_pos c, e3, t64_sub (by omega) (by omega), t64_add (by omega) (by omega)]
  · rw [if_neg c, if_neg c, Int32.add_zero, t64_sub (by omega) (by omega), show (0 : Int32).toInt64 = 0 by decide, Int64.add_zero]
theorem q_Q (h : mR C 1 R 167 np nr ng) {x : Int32} (hx : 0 ≤ x.toInt ∧ x.toInt ≤ 9999) : ∀ j, j ≤ np → cQ C np x j = rQ R np x j
  | 0, _ => rfl
  | j + 1, hj => by
    have e1 : gI C (6 + j) 5 = rs R j 4 := (r_p h (show j < np by omega)).1 4 (by omega)
    rw [cQ, rQ, q_Na h hx (by omega), q_Q h hx j (by omega), e1]
    by_cases c : j = 0
    · rw [if_pos c, if_pos c]
      subst c
      rw [rQ, if_pos rfl, show (0 : Int64) / 1 = 0 by decide]
    · rw [if_neg c, if_neg c]
theorem q_Cn (h : mR C 1 R 167 np nr ng) {x : Int32} (hx : 0 ≤ x.toInt ∧ x.toInt ≤ 9999) : ∀ j, j ≤ np → cCn C np x j = rCn R np x j
  | 0, _ => rfl
  | j + 1, hj => by rw [cCn, rCn, q_Q h hx (j + 1) hj, q_Cn h hx j (by omega)]
theorem q_Od (h : mR C 1 R 167 np nr ng) : ∀ j, j ≤ np → cOd C j = rOd R j
  | 0, _ => rfl
  | j + 1, hj => by
    have e1 : gI C (6 + j) 6 = rs R j 5 := (r_p h (show j < np by omega)).1 5 (by omega)
    have e2 : gI C (6 + j) 7 = rs R j 6 := (r_p h (show j < np by omega)).1 6 (by omega)
    rw [cOd, rOd, e1, e2, q_Od h j (by omega)]
theorem q_S (h : mR C 1 R 167 np nr ng) {j : Nat} (hj : j < np) (u : Int32) : cS C (6 + j) u = rS R j u := by
  have e1 : gI C (6 + j) 4 = rs R j 3 := (r_p h hj).1 3 (by omega)
  unfold cS rS
  rw [e1]
theorem q_tn (h : mR C 1 R 167 np nr ng) (n : Int32) : tnA (fun x => cCn C np x np) n = tnA (fun x => rCn R np x np) n := tnA_cong (fun t ht => q_Cn h (by rw [nI_ti (by omega)]; omega) np (Nat.le_refl np))
theorem q_Ab (h : mR C 1 R 167 np nr ng) {j : Nat} (hj : j < np) {w : Int32} (h0 : 0 ≤ w) (h7 : w ≤ 7) : cAb C (6 + j) w = rAb R j w := by
  obtain ⟨k, hk, rfl⟩ := nI_of3 (n := 7) h0 h7 (by omega)
  have e := (r_p h hj).1
  have e0 : gI C (6 + j) 1 = rs R j 0 := e 0 (by omega)
  have e1 : gI C (6 + j) 2 = rs R j 1 := e 1 (by omega)
  have e2 : gI C (6 + j) 3 = rs R j 2 := e 2 (by omega)
  have e3 : gI C (6 + j) 4 = rs R j 3 := e 3 (by omega)
  have e4 : gI C (6 + j) 5 = rs R j 4 := e 4 (by omega)
  have e5 : gI C (6 + j) 6 = rs R j 5 := e 5 (by omega)
  have e6 : cW C (6 + j) = rW R j := q_W h hj
  have e7 : cF C (6 + j) = rF R j := q_F h hj
  unfold cAb
  rw [e0, e1, e2, e3, e4, e5, e6, e7]
  rcases (show k = 0 ∨ k = 1 ∨ k = 2 ∨ k = 3 ∨ k = 4 ∨ k = 5 ∨ k = 6 ∨ k = 7 by omega) with rfl | rfl | rfl | rfl | rfl | rfl | rfl | rfl <;> rfl
theorem q_Rb (h : mR C 1 R 167 np nr ng) {q : Nat} (hq : q < nr) {w : Int32} (h0 : 0 ≤ w) (h6 : w ≤ 6) : cRb C (16 + q) w = rRb R q w := by
  obtain ⟨k, hk, rfl⟩ := nI_of3 (n := 6) h0 h6 (by omega)
  have e := (r_q h hq).1
  have e0 : gI C (16 + q) 0 = rr R q 0 := e 0 (by omega)
  have e1 : gI C (16 + q) 1 = rr R q 1 := e 1 (by omega)
  have e2 : gI C (16 + q) 2 = rr R q 2 := e 2 (by omega)
  have e3 : gI C (16 + q) 3 = rr R q 3 := e 3 (by omega)
  have e4 : gI C (16 + q) 4 = rr R q 4 := e 4 (by omega)
  have e5 : gI C (16 + q) 5 = rr R q 5 := e 5 (by omega)
  have e6 : gI C (16 + q) 6 = rA R q (rH R q) := (r_q h hq).2
  unfold cRb
  rw [e0, e1, e2, e3, e4, e5, e6]
  rcases (show k = 0 ∨ k = 1 ∨ k = 2 ∨ k = 3 ∨ k = 4 ∨ k = 5 ∨ k = 6 by omega) with rfl | rfl | rfl | rfl | rfl | rfl | rfl <;> rfl
theorem q_sd (h : mR C 1 R 167 np nr ng) (hj : gJ R 166 18 = 0) (i : Int32) : sdM (cAll C 1 np nr) i = sdM (rAll R np nr) i := by
  unfold sdM
  rw [sdA_cong (fun l a b => q_All h hj a b)]
theorem q_Tl {no nu : Nat} (h : mR C 1 R 167 np nr ng) (ho : oR C 71 R 167 nr no) (hu : ruR C 55 R 167 nu) (w : Int32) : cTl C np nr nu w = rTl R np nr nu w := by
  have e2 : iSum (fun j => if gI C (16 + j) 5 = 0 then (1 : Int32) else 0) nr = iSum (fun j => if rr R j 5 = 0 then (1 : Int32) else 0) nr := iSum_cong (fun k hk => by rw [show gI C (16 + k) 5 = rr R k 5 from (r_q h hk).1 5 (by omega)])
  have e3 : iSum (fun j => cW C (6 + j)) np = iSum (fun p => rW R p) np := iSum_cong (fun k hk => q_W h hk)
  have e4 : iSum (fun j => gI C (6 + j) 6) np = iSum (fun p => rs R p 5) np := iSum_cong (fun k hk => (r_p h hk).1 5 (by omega))
  have e7 : iSum (fun k => if gI C 70 k = 0 then (0 : Int32) else 1) nu = iSum (fun k => gI R 167 (179 + 122 * k)) nu := iSum_cong (fun k hk => by
    obtain ⟨z, -, -, ⟨g4, g5⟩, -⟩ := hu.2.2 k hk
    have g4' : gI C 70 k = gI R 167 (179 + 122 * k) := g4
    rw [g4']
    rcases g5 with g | g <;> rw [g] <;> decide)
  unfold cTl rTl
  rw [e2, e3, e4, e7, h.2.1.1, h.2.1.2, h.2.2.1.1, h.2.2.1.2, h.2.2.2.1.1, h.2.2.2.1.2, h.2.2.2.2.1.1, ho.2.1.1, ho.2.1.2, hu.2.1.1, hu.2.1.2]
  by_cases c3 : w = 3
  · subst c3; rfl
  · by_cases c4 : w = 4
    · subst c4; rfl
    · simp only [if_neg c3, if_neg c4, if_neg (show ¬ (w = 3 ∨ w = 4) from fun q => q.elim c3 c4)]
end QF
