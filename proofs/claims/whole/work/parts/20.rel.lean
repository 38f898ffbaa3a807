/-! ===== numbers within bounds, and wider ===== -/
def bi (n : Nat) (x : Int32) : Prop := -(n : Int) ≤ x.toInt ∧ x.toInt ≤ (n : Int)
theorem bi_mono {n m : Nat} {x : Int32} (h : bi n x) (hm : n ≤ m) : bi m x := ⟨by have := h.1; omega, by have := h.2; omega⟩
theorem bi_abs {n : Nat} {x : Int32} : bi n x ↔ x.toInt.natAbs ≤ n := by unfold bi; omega
theorem w_inj {x y : Int64} (h : x.toInt = y.toInt) : x = y := Int64.toInt_inj.mp h
theorem bi_mulI {a b : Nat} {x y : Int32} (hx : bi a x) (hy : bi b y) (h : a * b < 2147483648) : (x * y).toInt = x.toInt * y.toInt ∧ (x.toInt * y.toInt).natAbs ≤ a * b := by
  have h1 := bi_abs.mp hx
  have h2 := bi_abs.mp hy
  have h3 : (x.toInt * y.toInt).natAbs ≤ a * b := by rw [Int.natAbs_mul]; exact Nat.mul_le_mul h1 h2
  exact ⟨fb_mulI (by omega) (by omega), h3⟩
theorem bi_mul {a b : Nat} {x y : Int32} (hx : bi a x) (hy : bi b y) (h : a * b < 2147483648) : bi (a * b) (x * y) := by
  obtain ⟨h1, h2⟩ := bi_mulI hx hy h
  exact bi_abs.mpr (by rw [h1]; exact h2)
theorem w_mul {a b : Nat} {x y : Int32} (hx : bi a x) (hy : bi b y) (h : a * b < 2147483648) : (x * y).toInt64 = x.toInt64 * y.toInt64 := by
  obtain ⟨h1, h2⟩ := bi_mulI hx hy h
  apply w_inj
  rw [fb_mulL (by rw [Int32.toInt_toInt64, Int32.toInt_toInt64]; omega) (by rw [Int32.toInt_toInt64, Int32.toInt_toInt64]; omega), Int32.toInt_toInt64, Int32.toInt_toInt64, Int32.toInt_toInt64, h1]
theorem bi_add {a b : Nat} {x y : Int32} (hx : bi a x) (hy : bi b y) (h : a + b < 2147483648) : bi (a + b) (x + y) := by
  unfold bi at *
  rw [fb_addI (by omega) (by omega)]
  omega
theorem w_add {a b : Nat} {x y : Int32} (hx : bi a x) (hy : bi b y) (h : a + b < 2147483648) : (x + y).toInt64 = x.toInt64 + y.toInt64 := by
  unfold bi at *
  apply w_inj
  rw [fb_addL (by rw [Int32.toInt_toInt64, Int32.toInt_toInt64]; omega) (by rw [Int32.toInt_toInt64, Int32.toInt_toInt64]; omega), Int32.toInt_toInt64, Int32.toInt_toInt64, Int32.toInt_toInt64, fb_addI (by omega) (by omega)]
theorem bi_sub {a b : Nat} {x y : Int32} (hx : bi a x) (hy : bi b y) (h : a + b < 2147483648) : bi (a + b) (x - y) := by
  unfold bi at *
  rw [fb_subI (by omega) (by omega)]
  omega
theorem w_sub {a b : Nat} {x y : Int32} (hx : bi a x) (hy : bi b y) (h : a + b < 2147483648) : (x - y).toInt64 = x.toInt64 - y.toInt64 := by
  unfold bi at *
  apply w_inj
  rw [fb_subL (by rw [Int32.toInt_toInt64, Int32.toInt_toInt64]; omega) (by rw [Int32.toInt_toInt64, Int32.toInt_toInt64]; omega), Int32.toInt_toInt64, Int32.toInt_toInt64, Int32.toInt_toInt64, fb_subI (by omega) (by omega)]
theorem bi_div {a c : Nat} {x y : Int32} (hx : bi a x) (hy : y.toInt = (c : Int)) : bi (a / c) (x / y) := by
  have h1 := bi_abs.mp hx
  have hne : y ≠ -1 := fun q => by
    rw [q] at hy
    have e : (-1 : Int32).toInt = -1 := by decide
    omega
  rw [bi_abs, Int32.toInt_div_of_ne_right _ _ hne, hy, Int.natAbs_tdiv]
  exact Nat.div_le_div_right h1
/-! ===== how the class's cells and the reference's numbers go together ===== -/
def aA0 (R : xM) (sa q : Nat) : Int32 := gI R sa (7 * (gI R sa (70 + 6 * q)).toNatClampNeg + 1) * gI R sa (70 + 6 * q + 2) / (gI R sa (7 * (gI R sa (70 + 6 * q)).toNatClampNeg + 1) + gI R sa (70 + 6 * q + 2))
def aA (R : xM) (sa q : Nat) : Int32 := if aA0 R sa q < 1 then 1 else aA0 R sa q
/-- x is within lo .. hi -/
def nr3 (lo hi : Int) (x : Int32) : Prop := lo ≤ x.toInt ∧ x.toInt ≤ hi
def pR (C : xM) (m : Nat) (R : xM) (sa p : Nat) : Prop := gI C (m + 5 + p) 0 = nI p ∧ ∀ k, k < 7 → gI C (m + 5 + p) (k + 1) = gI R sa (7 * p + k)
def pB (R : xM) (sa p : Nat) : Prop := nr3 0 3 (gI R sa (7 * p)) ∧ nr3 1 99 (gI R sa (7 * p + 1)) ∧ nr3 1 99 (gI R sa (7 * p + 2)) ∧ nr3 0 99 (gI R sa (7 * p + 3)) ∧ nr3 1 99 (gI R sa (7 * p + 4)) ∧ nr3 0 20 (gI R sa (7 * p + 5)) ∧ nr3 0 100 (gI R sa (7 * p + 6))
def qR (C : xM) (m : Nat) (R : xM) (sa q : Nat) : Prop := (∀ k, k < 6 → gI C (m + 15 + q) k = gI R sa (70 + 6 * q + k)) ∧ gI C (m + 15 + q) 6 = aA R sa q
def qB (R : xM) (sa np q : Nat) : Prop := (∃ h, h < np ∧ gI R sa (70 + 6 * q) = nI h) ∧ (gI R sa (70 + 6 * q + 1) = 1 ∨ gI R sa (70 + 6 * q + 1) = -1) ∧ nr3 1 99 (gI R sa (70 + 6 * q + 2)) ∧ nr3 1 99 (gI R sa (70 + 6 * q + 3)) ∧ nr3 0 999 (gI R sa (70 + 6 * q + 4)) ∧ nr3 0 2 (gI R sa (70 + 6 * q + 5))
def mR (C : xM) (m : Nat) (R : xM) (sa np nr ng : Nat) : Prop := (np ≤ 10 ∧ nr ≤ 12 ∧ ng ≤ 8) ∧ (gI C m 1 = nI np ∧ gI R sa 1643 = nI np) ∧ (gI C m 3 = nI nr ∧ gI R sa 1644 = nI nr) ∧ (gI C m 9 = nI ng ∧ gI R sa 1645 = nI ng) ∧ (gI C m 4 = gI R sa 1650 ∧ nr3 0 999 (gI R sa 1650)) ∧ (gI C m 5 = gI R sa 1648 ∧ nr3 0 99 (gI R sa 1648)) ∧ (gI C m 6 = gI R sa 1649 ∧ (gI R sa 1649 = 1 ∨ gI R sa 1649 = -1)) ∧
  (∀ k, k < 5 → gI C (m + 3) k = gI R sa (142 + k) ∧ nr3 0 200 (gI R sa (142 + k))) ∧ (∀ k, k < 8 → gI C (m + 4) k = gI R sa (147 + k) ∧ nr3 0 999 (gI R sa (147 + k))) ∧ (∀ p, p < np → pR C m R sa p ∧ pB R sa p) ∧ ∀ q, q < nr → qR C m R sa q ∧ qB R sa np q
theorem nr_bi {lo hi : Int} {n : Nat} {x : Int32} (h : nr3 lo hi x) (h1 : -(n : Int) ≤ lo) (h2 : hi ≤ n) : bi n x := ⟨by have := h.1; omega, by have := h.2; omega⟩
section REL
variable {C R : xM} {m np nr ng : Nat}
theorem r_p (h : mR C m R 167 np nr ng) {p : Nat} (hp : p < np) : (∀ k, k < 7 → gI C (m + 5 + p) (k + 1) = rs R p k) ∧ gI C (m + 5 + p) 0 = nI p := ⟨(h.2.2.2.2.2.2.2.2.2.1 p hp).1.2, (h.2.2.2.2.2.2.2.2.2.1 p hp).1.1⟩
theorem r_pB (h : mR C m R 167 np nr ng) {p : Nat} (hp : p < np) : pB R 167 p := (h.2.2.2.2.2.2.2.2.2.1 p hp).2
theorem r_q (h : mR C m R 167 np nr ng) {q : Nat} (hq : q < nr) : (∀ k, k < 6 → gI C (m + 15 + q) k = rr R q k) ∧ gI C (m + 15 + q) 6 = rA R q (rH R q) := ⟨(h.2.2.2.2.2.2.2.2.2.2 q hq).1.1, (h.2.2.2.2.2.2.2.2.2.2 q hq).1.2⟩
theorem r_qB (h : mR C m R 167 np nr ng) {q : Nat} (hq : q < nr) : qB R 167 np q := (h.2.2.2.2.2.2.2.2.2.2 q hq).2
theorem i3 (x : Int32) : x + 2 * x = 3 * x := by
  rw [show (3 : Int32) = 1 + 2 by decide, Int32.add_mul, Int32.one_mul]
theorem kind4 {x : Int32} (h : nr3 0 3 x) : x = 0 ∨ x = 1 ∨ x = 2 ∨ x = 3 := by
  have e : ∀ k : Int32, x.toInt = k.toInt → x = k := fun k q => Int32.toInt_inj.mp q
  have h1 := h.1
  have h2 := h.2
  rcases (show x.toInt = 0 ∨ x.toInt = 1 ∨ x.toInt = 2 ∨ x.toInt = 3 by omega) with q | q | q | q
  · exact Or.inl (e 0 q)
  · exact Or.inr (Or.inl (e 1 q))
  · exact Or.inr (Or.inr (Or.inl (e 2 q)))
  · exact Or.inr (Or.inr (Or.inr (e 3 q)))
theorem q_W (h : mR C m R 167 np nr ng) {p : Nat} (hp : p < np) : cW C (m + 5 + p) = rW R p := by
  obtain ⟨a, -⟩ := r_p h hp
  have k := kind4 (r_pB h hp).1
  unfold cW rW
  rw [a 0 (by omega), a 2 (by omega), a 5 (by omega)]
  rcases k with k | k | k | k <;> rw [show rs R p 0 = _ from k]
  · rfl
  · rfl
  · show 2 * rs R p 2 + rs R p 5 + 2 * rs R p 5 = 2 * rs R p 2 + 3 * rs R p 5
    rw [Int32.add_assoc, i3]
  · rfl
theorem q_F (h : mR C m R 167 np nr ng) {p : Nat} (hp : p < np) : cF C (m + 5 + p) = rF R p := by
  obtain ⟨a, -⟩ := r_p h hp
  have k := kind4 (r_pB h hp).1
  unfold cF rF
  rw [a 0 (by omega), a 3 (by omega), a 5 (by omega)]
  rcases k with k | k | k | k <;> rw [show rs R p 0 = _ from k]
  · exact (Int32.add_zero _).symm
  · exact (Int32.add_zero _).symm
  · rfl
  · exact (Int32.add_zero _).symm
theorem c_lit (k : Nat) (h : k < 2147483648) : bi k (nI k) := ⟨by rw [nI_ti h]; omega, by rw [nI_ti h]; omega⟩
theorem bW (h : mR C m R 167 np nr ng) {p : Nat} (hp : p < np) : bi 300 (rW R p) := by
  obtain ⟨b0, b1, b2, b3, b4, b5, b6⟩ := r_pB h hp
  have m := nr_bi (n := 99) b2 (by omega) (by omega)
  have i := nr_bi (n := 20) b5 (by omega) (by omega)
  have m2 : bi 198 (2 * rs R p 2) := bi_mul (a := 2) (b := 99) (c_lit 2 (by omega)) m (by omega)
  have i2 : bi 60 (3 * rs R p 5) := bi_mul (a := 3) (b := 20) (c_lit 3 (by omega)) i (by omega)
  have mi : bi 218 (2 * rs R p 2 + rs R p 5) := bi_add m2 i (by omega)
  unfold rW
  split
  · exact bi_mono (bi_add m i (by omega)) (by omega)
  · split
    · exact bi_mono mi (by omega)
    · split
      · exact bi_mono (bi_add m2 i2 (by omega)) (by omega)
      · exact bi_mono (bi_add mi (c_lit 5 (by omega)) (by omega)) (by omega)
theorem bF (h : mR C m R 167 np nr ng) {p : Nat} (hp : p < np) : bi 129 (rF R p) := by
  obtain ⟨b0, b1, b2, b3, b4, b5, b6⟩ := r_pB h hp
  have a := nr_bi (n := 99) b3 (by omega) (by omega)
  have i := nr_bi (n := 20) b5 (by omega) (by omega)
  have a2 : bi 49 (rs R p 3 / 2) := bi_div (c := 2) a rfl
  have i2 : bi 10 (rs R p 5 / 2) := bi_div (c := 2) i rfl
  have s1 : bi 99 (if rs R p 0 = 0 then rs R p 3 else rs R p 3 / 2) := by
    split
    · exact a
    · exact bi_mono a2 (by omega)
  have s2 : bi 20 (if rs R p 0 = 2 then rs R p 5 else 0) := by
    split
    · exact i
    · exact bi_mono (c_lit 0 (by omega)) (by omega)
  exact bi_add (bi_add s1 i2 (by omega)) s2 (by omega)
end REL
/-! ===== both find the same REST ===== -/
section REL2
variable {C R : xM} {m np nr ng : Nat}
theorem bi_div' {a : Nat} {x y : Int32} (hx : bi a x) (hy : 0 < y.toInt) : bi a (x / y) := by
  obtain ⟨c, hc⟩ : ∃ c : Nat, y.toInt = (c : Int) := ⟨y.toInt.toNat, by omega⟩
  exact bi_mono (bi_div hx hc) (Nat.div_le_self _ _)
theorem r_h (h : mR C m R 167 np nr ng) {q : Nat} (hq : q < nr) : rr R q 0 = nI (rH R q) ∧ rH R q < np := by
  obtain ⟨⟨k, hk, e⟩, -⟩ := r_qB h hq
  have e0 : rr R q 0 = nI k := e
  have hn := h.1.1
  have e1 : rH R q = k := by unfold rH; rw [e0]; exact nI_cl (by omega)
  rw [e1]
  exact ⟨e0, hk⟩
theorem r_hs (h : mR C m R 167 np nr ng) {q : Nat} (hq : q < nr) : nr3 1 99 (rs R (rH R q) 1) ∧ nr3 1 99 (rr R q 2) := ⟨(r_pB h (r_h h hq).2).2.1, (r_qB h hq).2.2.1⟩
theorem r_h0 (h : mR C m R 167 np nr ng) {q : Nat} (hq : q < nr) : ¬ rs R (rH R q) 1 + rr R q 2 = 0 ∧ 0 < (rs R (rH R q) 1 + rr R q 2).toInt := by
  obtain ⟨⟨a1, a2⟩, b1, b2⟩ := r_hs h hq
  have e : (rs R (rH R q) 1 + rr R q 2).toInt = (rs R (rH R q) 1).toInt + (rr R q 2).toInt := fb_addI (by omega) (by omega)
  refine ⟨fun z => ?_, by omega⟩
  rw [z, Int32.toInt_zero] at e
  omega
theorem bA (h : mR C m R 167 np nr ng) {q : Nat} (hq : q < nr) : bi 9801 (rA R q (rH R q)) := by
  obtain ⟨a, b⟩ := r_hs h hq
  unfold rA rA0
  split
  · exact bi_mono (c_lit 1 (by omega)) (by omega)
  · exact bi_div' (bi_mul (nr_bi (n := 99) a (by omega) (by omega)) (nr_bi (n := 99) b (by omega) (by omega)) (by omega)) (r_h0 h hq).2
theorem l_bi {l : Int32} (h1 : -300 ≤ l.toInt) (h2 : l.toInt ≤ 300) : bi 300 l := ⟨by omega, by omega⟩
theorem r_hw (h : mR C m R 167 np nr ng) {p : Nat} (hp : p < np) : ∃ k, k < 5 ∧ rs R p 1 / 20 = nI k := by
  obtain ⟨b1, b2⟩ := (r_pB h hp).2.1
  have e20 : (20 : Int32).toInt = 20 := by decide
  have hne : (20 : Int32) ≠ -1 := by decide
  have e : (rs R p 1 / 20).toInt = (rs R p 1).toInt.tdiv 20 := by rw [Int32.toInt_div_of_ne_right _ _ hne, e20]
  have b1 : 1 ≤ (rs R p 1).toInt := b1
  have b2 : (rs R p 1).toInt ≤ 99 := b2
  rw [Int.tdiv_eq_ediv_of_nonneg (by omega)] at e
  have hg : ¬ (rs R p 1 / 20) < 0 := by rw [Int32.lt_iff_toInt_lt, Int32.toInt_zero]; omega
  obtain ⟨k, hk, e2⟩ := nI_of hg
  refine ⟨k, ?_, e2⟩
  rw [e2, nI_ti hk] at e
  omega
theorem q_Sh (h : mR C m R 167 np nr ng) {p : Nat} (hp : p < np) : cSh C m (m + 5 + p) = rs R p 1 / 20 := by
  obtain ⟨a, -⟩ := r_p h hp
  obtain ⟨k, hk, e⟩ := r_hw h hp
  unfold cSh
  rw [a 1 (by omega), e]
  rw [if_neg (show ¬ nI 5 - 1 < nI k from by
    rw [show nI 5 - 1 = nI 4 by decide]
    exact nI_nlt (by omega) (by omega))]
theorem r_sh (h : mR C m R 167 np nr ng) {p : Nat} (hp : p < np) : 0 ≤ (cSh C m (m + 5 + p)).toInt ∧ (cSh C m (m + 5 + p)).toInt < 5 := by
  obtain ⟨k, hk, e⟩ := r_hw h hp
  rw [q_Sh h hp, e, nI_ti (by omega)]
  omega
theorem bV (h : mR C m R 167 np nr ng) {p : Nat} (hp : p < np) : bi 198 (rV R p) := by
  obtain ⟨k, hk, e⟩ := r_hw h hp
  unfold rV
  rw [e, nI_cl (by omega)]
  exact bi_div (a := 19800) (c := 100) (bi_mul (a := 99) (b := 200) (nr_bi h.2.2.2.2.2.1.2 (by omega) (by omega)) (nr_bi (h.2.2.2.2.2.2.2.1 k hk).2 (by omega) (by omega)) (by omega)) rfl
theorem q_V (h : mR C m R 167 np nr ng) {p : Nat} (hp : p < np) : cV C m (m + 5 + p) = (rV R p).toInt64 := by
  obtain ⟨k, hk, e⟩ := r_hw h hp
  unfold cV rV
  rw [q_Sh h hp, e, nI_cl (by omega), h.2.2.2.2.2.1.1, (h.2.2.2.2.2.2.2.1 k hk).1]
theorem side_bi {x : Int32} (h : x = 1 ∨ x = -1) : bi 1 x := by
  rcases h with rfl | rfl
  · exact c_lit 1 (by omega)
  · exact ⟨by decide, by decide⟩
theorem q_Pu (h : mR C m R 167 np nr ng) {p : Nat} (hp : p < np) : cPu C m (m + 5 + p) = (rPu R p).toInt64 := by
  have v := bV h hp
  have f := bF h hp
  have vv : bi 39204 (rV R p * rV R p) := bi_mul v v (by omega)
  have vvf : bi 5057316 (rV R p * rV R p * rF R p) := bi_mul vv f (by omega)
  have d : bi 50573 (rV R p * rV R p * rF R p / 100) := bi_div (c := 100) vvf rfl
  have s := side_bi h.2.2.2.2.2.2.1.2
  unfold cPu rPu
  rw [q_V h hp, q_F h hp, h.2.2.2.2.2.2.1.1, w_mul d s (by omega), Int32.toInt64_div_of_ne_right _ _ (by decide), w_mul vv f (by omega), w_mul v v (by omega)]
  rfl
theorem q_Tp (h : mR C m R 167 np nr ng) {p : Nat} (hp : p < np) {l : Int32} (hl : bi 300 l) : cTp C l (m + 5 + p) = (rW R p).toInt64 * (rs R p 1).toInt64 * l.toInt64 / 1000 := by
  obtain ⟨a, -⟩ := r_p h hp
  have w := bW h hp
  have g : bi 99 (rs R p 1) := nr_bi (n := 99) (r_pB h hp).2.1 (by omega) (by omega)
  have wh : bi 29700 (rW R p * rs R p 1) := bi_mul w g (by omega)
  unfold cTp
  rw [q_W h hp, a 1 (by omega), Int32.toInt64_div_of_ne_right _ _ (by decide), w_mul wh hl (by omega), w_mul w g (by omega)]
  rfl
theorem q_P (h : mR C m R 167 np nr ng) {q : Nat} (hq : q < nr) {l : Int32} (hl : bi 300 l) : cP C (m + 15 + q) l = rP R q l := by
  obtain ⟨a, b⟩ := r_q h hq
  obtain ⟨-, b1, b2, b3, b4, b5⟩ := r_qB h hq
  have s : bi 1 (rr R q 1) := side_bi b1
  have t : bi 99 (rr R q 3) := nr_bi b3 (by omega) (by omega)
  have g : bi 999 (rr R q 4) := nr_bi b4 (by omega) (by omega)
  have A := bA h hq
  have st : bi 99 (rr R q 1 * rr R q 3) := bi_mul s t (by omega)
  have stl : bi 29700 (rr R q 1 * rr R q 3 * l) := bi_mul st hl (by omega)
  have stlA : bi 291089700 (rr R q 1 * rr R q 3 * l * rA R q (rH R q)) := bi_mul stl A (by omega)
  have d : bi 291089 (rr R q 1 * rr R q 3 * l * rA R q (rH R q) / 1000) := bi_div (c := 1000) stlA rfl
  have e : rPl R q l = (rr R q 4 - rr R q 1 * rr R q 3 * l * rA R q (rH R q) / 1000).toInt64 := by
    unfold rPl
    rw [w_sub g d (by omega), Int32.toInt64_div_of_ne_right _ _ (by decide), w_mul stl A (by omega), w_mul st hl (by omega), w_mul s t (by omega)]
    rfl
  unfold cP rP
  rw [a 5 (by omega), a 4 (by omega), a 1 (by omega), a 3 (by omega), b, e, Int32.toInt32_toInt64]
  have z : ((rr R q 4 - rr R q 1 * rr R q 3 * l * rA R q (rH R q) / 1000).toInt64 < 0) ↔ (rr R q 4 - rr R q 1 * rr R q 3 * l * rA R q (rH R q) / 1000 < 0) := by
    rw [Int64.lt_iff_toInt_lt, Int32.lt_iff_toInt_lt, Int32.toInt_toInt64, Int64.toInt_zero, Int32.toInt_zero]
  by_cases c1 : rr R q 5 = 0
  · have hh : ¬ ¬ rr R q 5 = 0 := fun n => n c1
    rw [if_neg hh, if_neg hh]
    by_cases c2 : rr R q 4 - rr R q 1 * rr R q 3 * l * rA R q (rH R q) / 1000 < 0
    · rw [if_pos c2, if_pos (z.mpr c2)]
    · rw [if_neg c2, if_neg (fun n => c2 (z.mp n))]
  · rw [if_pos c1, if_pos c1]
theorem q_Tr (h : mR C m R 167 np nr ng) {q : Nat} (hq : q < nr) {l : Int32} (hl : bi 300 l) : cTr C l (m + 15 + q) = rTr R l q := by
  obtain ⟨a, b⟩ := r_q h hq
  unfold cTr rTr
  rw [q_P h hq hl, b, a 1 (by omega)]
theorem q_All (h : mR C m R 167 np nr ng) (hj : gJ R 166 18 = 0) {l : Int32} (h1 : -300 ≤ l.toInt) (h2 : l.toInt ≤ 300) : cAll C m np nr l = rAll R np nr l := by
  have hl := l_bi h1 h2
  have hf : (gI C m 4 * l).toInt64 = (gI R 167 1650).toInt64 * l.toInt64 := by
    rw [h.2.2.2.2.1.1]
    exact w_mul (a := 999) (nr_bi h.2.2.2.2.1.2 (by omega) (by omega)) hl (by omega)
  unfold cAll rAll
  rw [lAcc_eq, lAcc_eq, hj, hf]
  have e1 : lSum (rTp R l) np = lSum (fun i => cPu C m (m + 5 + i) * (gI C (m + 5 + i) 2).toInt64) np + lSum (fun i => cTp C l (m + 5 + i)) np := by
    rw [lSum_add]
    refine lSum_cong (fun p hp => ?_)
    obtain ⟨a, -⟩ := r_p h hp
    unfold rTp
    rw [q_Pu h hp, q_Tp h hp hl, a 1 (by omega)]
  have e2 : lSum (rTr R l) nr = lSum (fun i => cTr C l (m + 15 + i)) nr := lSum_cong (fun q hq => (q_Tr h hq hl).symm)
  rw [e1, e2]
  simp only [Int64.sub_eq_add_neg, show -(0 : Int64) = 0 by decide, Int64.zero_add]
  ac_rfl
theorem q_St (h : mR C m R 167 np nr ng) (hj : gJ R 166 18 = 0) {mo : Nat} (hm : mo ≤ 300) : stN (cAll C m np nr) mo = stN (rAll R np nr) mo := stN_cong hm (fun _ h1 h2 => q_All h hj h1 h2)
end REL2
