/-! local masks: what is still to be drawn when d has been drawn -/
def lmS (U d : Nat) : Nat → Nat
  | 0 => 0
  | k + 1 => if U.testBit k = true ∧ d.testBit (bK U k) = false then 2 ^ k + lmS U d k else lmS U d k
theorem lm_lt (U d : Nat) : ∀ n, lmS U d n < 2 ^ n
  | 0 => Nat.one_pos
  | n + 1 => by
    have h := lm_lt U d n
    rw [lmS, Nat.pow_succ]
    split <;> omega
theorem lm_b {U d : Nat} : ∀ n r, r < n → (lmS U d n).testBit r = (U.testBit r && !d.testBit (bK U r))
  | 0, _, h => absurd h (Nat.not_lt_zero _)
  | n + 1, r, h => by
    rw [lmS]
    by_cases e : r = n
    · subst e
      have z : (lmS U d r).testBit r = false := Nat.testBit_lt_two_pow (lm_lt U d r)
      by_cases c : U.testBit r = true ∧ d.testBit (bK U r) = false
      · rw [if_pos c, Nat.testBit_two_pow_add_eq, z, c.1, c.2]; rfl
      · rw [if_neg c, z]
        cases h1 : U.testBit r with
        | false => rfl
        | true =>
          cases h2 : d.testBit (bK U r) with
          | true => rfl
          | false => exact absurd ⟨h1, h2⟩ c
    · have ih := lm_b (U := U) (d := d) n r (by omega)
      by_cases c : U.testBit n = true ∧ d.testBit (bK U n) = false
      · rw [if_pos c, Nat.testBit_two_pow_add_gt (by omega)]; exact ih
      · rw [if_neg c]; exact ih
theorem lt_tb {a n i : Nat} (h : a < 2 ^ n) (hi : ¬ i < n) : a.testBit i = false := Nat.testBit_lt_two_pow (Nat.lt_of_lt_of_le h (Nat.pow_le_pow_right (by omega) (by omega)))
theorem lm_0 {U n : Nat} (h : U < 2 ^ n) : lmS U 0 n = U := Nat.eq_of_testBit_eq (fun i => by
  by_cases c : i < n
  · rw [lm_b n i c, Nat.zero_testBit]; cases U.testBit i <;> rfl
  · rw [lt_tb (lm_lt U 0 n) c, lt_tb h c])
theorem bK_inj {U a b : Nat} (ha : U.testBit a = true) (hb : U.testBit b = true) (h : bK U a = bK U b) : a = b := by
  rcases Nat.lt_trichotomy a b with c | c | c
  · have := bK_lt ha c; omega
  · exact c
  · have := bK_lt hb c; omega
theorem lm_or {U d n r : Nat} (hr : r < n) (hU : U.testBit r = true) (hd : d.testBit (bK U r) = false) : lmS U (d ||| 2 ^ bK U r) n = lmS U d n ^^^ 2 ^ r := Nat.eq_of_testBit_eq (fun i => by
  have hb : (lmS U d n).testBit r = true := by rw [lm_b n r hr, hU, hd]; rfl
  rw [clr_b hb]
  by_cases c : i < n
  · rw [lm_b n i c, lm_b n i c, Nat.testBit_or, Nat.testBit_two_pow]
    cases h1 : U.testBit i with
    | false => rfl
    | true =>
      by_cases e : r = i
      · subst e; rw [decide_eq_true rfl, decide_eq_true rfl]; cases d.testBit (bK U r) <;> rfl
      · rw [decide_eq_false (fun q => e (bK_inj hU h1 q)), decide_eq_false e]; cases d.testBit (bK U i) <;> rfl
  · rw [lt_tb (lm_lt U _ n) c, lt_tb (lm_lt U d n) c]; rfl)
theorem lm_all {U n : Nat} : lmS U (2 ^ bK U n - 1) n = 0 := Nat.eq_of_testBit_eq (fun i => by
  rw [Nat.zero_testBit]
  by_cases c : i < n
  · rw [lm_b n i c]
    cases h1 : U.testBit i with
    | false => rfl
    | true => rw [Nat.testBit_two_pow_sub_one, decide_eq_true (bK_lt h1 c)]; rfl
  · exact lt_tb (lm_lt U _ n) c)
theorem bK_surj {U : Nat} : ∀ {n i : Nat}, i < bK U n → ∃ r, r < n ∧ U.testBit r = true ∧ bK U r = i
  | 0, _, h => absurd h (Nat.not_lt_zero _)
  | n + 1, i, h => by
    by_cases c : i < bK U n
    · obtain ⟨r, h1, h2⟩ := bK_surj c
      exact ⟨r, by omega, h2⟩
    · by_cases hb : U.testBit n = true
      · rw [bK_s hb] at h
        exact ⟨n, by omega, hb, by omega⟩
      · rw [bK_z hb] at h
        exact absurd h c
theorem lm_ne {U d n : Nat} (hd : d < 2 ^ bK U n) (h : ¬ d = 2 ^ bK U n - 1) : ¬ lmS U d n = 0 := fun q => h (Nat.eq_of_testBit_eq (fun i => by
  rw [Nat.testBit_two_pow_sub_one]
  by_cases c : i < bK U n
  · obtain ⟨r, h1, h2, h3⟩ := bK_surj c
    have e := lm_b (U := U) (d := d) n r h1
    rw [q, Nat.zero_testBit, h2, h3] at e
    rw [decide_eq_true c]
    cases h4 : d.testBit i with
    | true => rfl
    | false => rw [h4] at e; cases e
  · rw [decide_eq_false c, lt_tb hd c]))
