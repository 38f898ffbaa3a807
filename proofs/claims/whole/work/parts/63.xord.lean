/-! ===== order ===== -/
def tgU (R : xM) (nr U S : Nat) (t : Int32) : xM := (fun x k => if x = 167 ∧ 70 ≤ k ∧ (k - 70) % 6 = 4 ∧ (k - 70) / 6 < nr ∧ U.testBit ((k - 70) / 6) = true ∧ S.testBit ((k - 70) / 6) = false then t else gI R x k, R.2.1, R.2.2)
def ofR (R : xM) (q : Nat) : xM := sI R 167 (70 + 6 * q + 5) 2
abbrev isF (R : xM) (np nr : Nat) (ml mp : Int32) : Prop := ab (rSt R np nr) ≤ ml ∧ ∀ q, q < nr → rP R q (rSt R np nr) ≤ mp
def oQ (R : xM) (np nr U : Nat) (t ml mp : Int32) (S r : Nat) : Prop := (r < nr ∧ S.testBit r = true) ∧ isF (ofR (tgU R nr U S t) r) np nr ml mp ∧ isF (tgU R nr U (S ^^^ 2 ^ r) t) np nr ml mp
def canF (Q : Nat → Nat → Prop) : Nat → Nat → Prop
  | 0, S => S = 0
  | f + 1, S => S = 0 ∨ ∃ r, Q S r ∧ canF Q f (S ^^^ 2 ^ r)
def Can (Q : Nat → Nat → Prop) (S : Nat) : Prop := ∃ f, canF Q f S
theorem Can_d {Q : Nat → Nat → Prop} : Can Q 0 := ⟨0, rfl⟩
theorem Can_s {Q : Nat → Nat → Prop} {S r : Nat} (h : Q S r) (h2 : Can Q (S ^^^ 2 ^ r)) : Can Q S := h2.elim (fun f e => ⟨f + 1, Or.inr ⟨r, h, e⟩⟩)
def dQ (Q : Nat → Nat → Prop) (S r : Nat) : Prop := Q S r ∧ Can Q (S ^^^ 2 ^ r)
def ordF (Q : Nat → Nat → Prop) : Nat → Nat → Nat → Int64 → Prop
  | 0, S, _, v => S = 0 ∧ v = 0
  | f + 1, S, n, v => (S = 0 ∧ v = 0) ∨ ∃ r v', dQ Q S r ∧ (∀ i, i < r → ¬ dQ Q S i) ∧ ordF Q f (S ^^^ 2 ^ r) (n + 1) v' ∧ v = v' + (nI (r * 16 ^ n)).toInt64
def Ord (Q : Nat → Nat → Prop) (S n : Nat) (v : Int64) : Prop := ∃ f, ordF Q f S n v
theorem Ord_d {Q : Nat → Nat → Prop} {n : Nat} : Ord Q 0 n 0 := ⟨0, rfl, rfl⟩
theorem Ord_s {Q : Nat → Nat → Prop} {S r n : Nat} {v : Int64} (h : dQ Q S r) (h2 : ∀ i, i < r → ¬ dQ Q S i) (h3 : Ord Q (S ^^^ 2 ^ r) (n + 1) v) : Ord Q S n (v + (nI (r * 16 ^ n)).toInt64) := h3.elim (fun f e => ⟨f + 1, Or.inr ⟨r, v, h, h2, e, rfl⟩⟩)
theorem ordF_c {Q : Nat → Nat → Prop} {f S n : Nat} {v : Int64} (h : ordF Q f S n v) : (S = 0 ∧ v = 0) ∨ ∃ f' r v', f = f' + 1 ∧ dQ Q S r ∧ (∀ i, i < r → ¬ dQ Q S i) ∧ ordF Q f' (S ^^^ 2 ^ r) (n + 1) v' ∧ v = v' + (nI (r * 16 ^ n)).toInt64 := by
  cases f with
  | zero => exact Or.inl h
  | succ f =>
    rcases h with h | ⟨r, v', h⟩
    · exact Or.inl h
    · exact Or.inr ⟨f, r, v', rfl, h⟩
theorem Ord_u {Q : Nat → Nat → Prop} (h0 : ∀ r, ¬ Q 0 r) : ∀ {f g S n : Nat} {v w : Int64}, ordF Q f S n v → ordF Q g S n w → v = w
  | f, g, S, n, v, w, h, h' => by
    rcases ordF_c h with ⟨e, e2⟩ | ⟨f', r, v', ef, a, b, c, e⟩
    · rcases ordF_c h' with ⟨_, e3⟩ | ⟨g', r', w', eg, a', b', c', e'⟩
      · rw [e2, e3]
      · exact absurd a'.1 (by rw [e]; exact h0 _)
    · rcases ordF_c h' with ⟨e3, _⟩ | ⟨g', r', w', eg, a', b', c', e'⟩
      · exact absurd a.1 (by rw [e3]; exact h0 _)
      · have er : r = r' := by
          rcases Nat.lt_trichotomy r r' with h | h | h
          · exact absurd a (b' r h)
          · exact h
          · exact absurd a' (b r' h)
        subst er
        subst ef
        rw [e, e', Ord_u h0 c c']
theorem Can_0 {Q : Nat → Nat → Prop} {S : Nat} (h : Can Q S) (hS : ¬ S = 0) : ∃ r, dQ Q S r := by
  obtain ⟨f, h⟩ := h
  cases f with
  | zero => exact absurd h hS
  | succ f =>
    rcases h with h | ⟨r, h1, h2⟩
    · exact absurd h hS
    · exact ⟨r, h1, f, h2⟩
theorem clr_b {S r : Nat} (h : S.testBit r = true) (i : Nat) : (S ^^^ 2 ^ r).testBit i = (S.testBit i && !decide (r = i)) := by
  rw [Nat.testBit_xor, Nat.testBit_two_pow]
  by_cases c : r = i
  · subst c; rw [h, decide_eq_true rfl]; rfl
  · rw [decide_eq_false c, Bool.xor_false]; cases S.testBit i <;> rfl
theorem clr_lt {S r : Nat} (hr : r < 12) (hS : S < 4096) : S ^^^ 2 ^ r < 4096 := Nat.xor_lt_two_pow (n := 12) hS (Nat.pow_lt_pow_right (by omega) hr)
theorem bN_all : (List.range 4096).all (fun S => (List.range 12).all (fun r => !S.testBit r || bN (S ^^^ 2 ^ r) + 1 == bN S)) = true := by decide +kernel
theorem bN_clr {S r : Nat} (hr : r < 12) (hS : S < 4096) (h : S.testBit r = true) : bN (S ^^^ 2 ^ r) + 1 = bN S := by
  have h1 := List.all_eq_true.mp (List.all_eq_true.mp bN_all S (List.mem_range.mpr hS)) r (List.mem_range.mpr hr)
  rw [h] at h1
  exact eq_of_beq h1
theorem shl64 : ∀ n, n < 7 → ∀ r, r < 12 → (nI r).toInt64 <<< ((4 * nI n).toInt64 &&& 63) = (nI (r * 16 ^ n)).toInt64 := by decide +kernel
theorem clr_nI {S r : Nat} (hr : r < 12) (h : S.testBit r = true) : nI S &&& ((1 : Int32) <<< (nI r &&& 31) ^^^ (-1)) = nI (S ^^^ 2 ^ r) := by
  rw [shl_p r (by omega)]
  refine b_ext (fun i hi => ?_)
  rw [b_and, b_xor, b_m1 i hi, bt_nI hi, bt_nI hi, bt_nI hi, clr_b h, Nat.testBit_two_pow]
  cases S.testBit i <;> cases decide (r = i) <;> rfl
theorem l_ti {k : Nat} (h : k < 2147483648) : (nI k).toInt64.toInt = (k : Int) := by rw [Int32.toInt_toInt64, nI_ti h]
theorem Ord_b {Q : Nat → Nat → Prop} (hQ : ∀ S r, Q S r → r < 12 ∧ S.testBit r = true) : ∀ {f S n : Nat} {v : Int64}, ordF Q f S n v → S < 4096 → bN S + n ≤ 6 → 0 ≤ v.toInt ∧ v.toInt + ((16 ^ n : Nat) : Int) ≤ 16777216
  | f, S, n, v, h, hS, hn => by
    rcases ordF_c h with ⟨e, e2⟩ | ⟨f', r, v', ef, a, b, c, e⟩
    · have h1 : 16 ^ n ≤ 16 ^ 6 := Nat.pow_le_pow_right (by omega) (by omega)
      subst e2
      refine ⟨by decide, ?_⟩
      rw [show (0 : Int64).toInt = 0 by decide]
      omega
    · subst ef
      obtain ⟨hr, hb⟩ := hQ _ _ a.1
      have h2 := bN_clr hr hS hb
      obtain ⟨i1, i2⟩ := Ord_b hQ c (clr_lt hr hS) (by omega)
      have h1 : 16 ^ n ≤ 16 ^ 5 := Nat.pow_le_pow_right (by omega) (by omega)
      have h3 : r * 16 ^ n ≤ 11 * 16 ^ n := Nat.mul_le_mul_right _ (by omega)
      rw [Nat.pow_succ] at i2
      have e1 := l_ti (k := r * 16 ^ n) (by omega)
      have e5 : (v' + (nI (r * 16 ^ n)).toInt64).toInt = v'.toInt + ((r * 16 ^ n : Nat) : Int) := by
        rw [Int64.toInt_add, e1]
        exact Int.bmod_eq_of_le (by omega) (by omega)
      rw [e, e5]
      exact ⟨by omega, by omega⟩
theorem Ord_C {Q : Nat → Nat → Prop} {S n : Nat} {v : Int64} (h : Ord Q S n v) : Can Q S := by
  obtain ⟨f, h⟩ := h
  rcases ordF_c h with ⟨e, _⟩ | ⟨f', r, v', ef, a, b, c, e⟩
  · rw [e]; exact Can_d
  · exact Can_s a.1 a.2
theorem tu_g {R : xM} {nr U S : Nat} {t : Int32} {x k : Nat} : gI (tgU R nr U S t) x k = if x = 167 ∧ 70 ≤ k ∧ (k - 70) % 6 = 4 ∧ (k - 70) / 6 < nr ∧ U.testBit ((k - 70) / 6) = true ∧ S.testBit ((k - 70) / 6) = false then t else gI R x k := rfl
theorem tu_o {R : xM} {nr U S : Nat} {t : Int32} {k : Nat} (h : ¬ (70 ≤ k ∧ (k - 70) % 6 = 4 ∧ (k - 70) / 6 < nr)) : gI (tgU R nr U S t) 167 k = gI R 167 k := by rw [tu_g, if_neg (fun q => h ⟨q.2.1, q.2.2.1, q.2.2.2.1⟩)]
theorem tu_i {R : xM} {nr U S : Nat} {t : Int32} {q : Nat} (h : q < nr) : gI (tgU R nr U S t) 167 (70 + 6 * q + 4) = if U.testBit q = true ∧ S.testBit q = false then t else rr R q 4 := by
  rw [tu_g, show (70 + 6 * q + 4 - 70) / 6 = q by omega]
  by_cases c : U.testBit q = true ∧ S.testBit q = false
  · rw [if_pos c, if_pos ⟨rfl, by omega, by omega, h, c⟩]
  · rw [if_neg c, if_neg (fun z => c z.2.2.2.2)]; rfl
theorem mR_tt {C C' R R' : xM} {m np nr ng : Nat} {f : Nat → Int32} (h : mR C m R 167 np nr ng) (hf : ∀ q, q < nr → nr3 0 999 (f q)) (hC : ∀ x k, ¬ (k = 4 ∧ m + 15 ≤ x ∧ x < m + 27) → gI C' x k = gI C x k) (h2 : ∀ q, q < nr → gI C' (m + 15 + q) 4 = f q) (hR : ∀ k, ¬ (70 ≤ k ∧ (k - 70) % 6 = 4 ∧ (k - 70) / 6 < nr) → gI R' 167 k = gI R 167 k) (hR2 : ∀ q, q < nr → gI R' 167 (70 + 6 * q + 4) = f q) : mR C' m R' 167 np nr ng := by
  obtain ⟨a0, a1, a2, a3, a4, a5, a6, a7, a8, a9, a10⟩ := h
  have hn := a0.1
  have hr := a0.2.1
  refine ⟨a0, ⟨(hC _ _ (by omega)).trans a1.1, (hR _ (by omega)).trans a1.2⟩, ⟨(hC _ _ (by omega)).trans a2.1, (hR _ (by omega)).trans a2.2⟩, ⟨(hC _ _ (by omega)).trans a3.1, (hR _ (by omega)).trans a3.2⟩, ⟨?_, ?_⟩, ⟨?_, ?_⟩, ⟨?_, ?_⟩, fun j hj => ⟨?_, ?_⟩, fun j hj => ⟨?_, ?_⟩, fun p hp => ?_, fun r hr2 => ?_⟩
  · rw [hC _ _ (by omega), hR _ (by omega)]; exact a4.1
  · rw [hR _ (by omega)]; exact a4.2
  · rw [hC _ _ (by omega), hR _ (by omega)]; exact a5.1
  · rw [hR _ (by omega)]; exact a5.2
  · rw [hC _ _ (by omega), hR _ (by omega)]; exact a6.1
  · rw [hR _ (by omega)]; exact a6.2
  · rw [hC _ _ (by omega), hR _ (by omega)]; exact (a7 j hj).1
  · rw [hR _ (by omega)]; exact (a7 j hj).2
  · rw [hC _ _ (by omega), hR _ (by omega)]; exact (a8 j hj).1
  · rw [hR _ (by omega)]; exact (a8 j hj).2
  · refine ⟨⟨(hC _ _ (by omega)).trans (a9 p hp).1.1, fun j hj => ?_⟩, pB_c (fun j hj => hR _ (by omega)) (a9 p hp).2⟩
    rw [hC _ _ (by omega), hR _ (by omega)]
    exact (a9 p hp).1.2 j hj
  · obtain ⟨⟨b1, b2⟩, b3⟩ := a10 r hr2
    have b3' := b3
    obtain ⟨⟨hh, h1, h22⟩, b4, b5, b6, b7, b8⟩ := b3'
    have z0 : gI R' 167 (70 + 6 * r) = gI R 167 (70 + 6 * r) := hR _ (by omega)
    have z2 : gI R' 167 (70 + 6 * r + 2) = gI R 167 (70 + 6 * r + 2) := hR _ (by omega)
    refine ⟨⟨fun j hj => ?_, ?_⟩, ⟨hh, h1, z0.trans h22⟩, ?_, ?_, ?_, ?_, ?_⟩
    · by_cases c : j = 4
      · subst c; rw [h2 r hr2, hR2 r hr2]
      · rw [hC _ _ (by omega), hR _ (by omega)]; exact b1 j hj
    · rw [hC _ _ (by omega), b2]; exact (aA_c h22 (by omega) z0 z2 (hR _ (by omega))).symm
    · rw [hR _ (by omega)]; exact b4
    · rw [hR _ (by omega)]; exact b5
    · rw [hR _ (by omega)]; exact b6
    · rw [hR2 r hr2]; exact hf r hr2
    · rw [hR _ (by omega)]; exact b8
