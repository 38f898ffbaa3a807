/-! ===== the class looks around and asks rules ===== -/
section PP
variable {T : Nat → Int32} {n : Nat} {φ ψ : Nat → Int32}
theorem atX_p (h : ∀ i, i < 8 → φ i = ψ i) {p : Nat} : atX T n φ p = atX T n ψ p := by unfold atX; rw [h _ (fdX_lt _)]
theorem smL_p (h : ∀ i, i < 8 → φ i = ψ i) : ∀ (f : Nat) (a : Int32) (p : Nat), smL T n φ f a p = smL T n ψ f a p
  | 0, _, _ => rfl
  | f + 1, a, p => by rw [smL, smL, atX_p h, smL_p h f]
theorem suX_p (h : ∀ i, i < 8 → φ i = ψ i) {p : Nat} : suX T n φ p = suX T n ψ p := by unfold suX smX; rw [atX_p h, smL_p h]
theorem cpX_p (h : ∀ i, i < 8 → φ i = ψ i) {p : Nat} : cpX T n φ p = cpX T n ψ p := by unfold cpX; rw [suX_p h (p := p), suX_p h (p := (suX T n ψ p).2.1 + 1)]
theorem rX_p (h : ∀ i, i < 8 → φ i = ψ i) : ∀ (f m k p : Nat), rX T n φ f m k p = rX T n ψ f m k p
  | 0, _, _, _ => rfl
  | f + 1, 0, k, p => by rw [rX, rX, rX_p h f 0 k (p + 1), rX_p h f 2 (k + 1) (p + 1), cpX_p h]
  | f + 1, m + 1, k, p => by rw [rX, rX, rX_p h f m k p, rX_p h f (m + 1) k ((rX T n ψ f m k p).2.1 + 1)]
theorem RX_p (h : ∀ i, i < 8 → φ i = ψ i) {m k p : Nat} : RX T n φ m k p = RX T n ψ m k p := rX_p h _ m k p
end PP
def ruZ (R : xM) (i : Nat) : Nat := (gI R 167 (180 + 122 * i)).toNatClampNeg
def ruT (R : xM) (i : Nat) : Nat → Int32 := tx (fun k => gI R 167 (181 + 122 * i + k)) (ruZ R i)
def hlP (R : xM) (φ : Nat → Int32) (i : Nat) : Bool := decide (¬ gI R 167 (179 + 122 * i) = 0) && (RX (ruT R i) (ruZ R i) φ 2 0 0).2.2
def hlV (R : xM) (φ : Nat → Int32) (nu : Nat) : Int32 := if fF (hlP R φ) nu < nu then nI (fF (hlP R φ) nu) else -4
/-- rules of the class, and of the reference -/
def ruR (C : xM) (r : Nat) (R : xM) (sa nu : Nat) : Prop := nu ≤ 12 ∧ (gI C r 3 = nI nu ∧ gI R sa 1646 = nI nu) ∧ ∀ i, i < nu → ∃ z, z ≤ 120 ∧ (gI C (r + 14) i = nI z ∧ gI R sa (180 + 122 * i) = nI z) ∧ (gI C (r + 15) i = gI R sa (179 + 122 * i) ∧ (gI R sa (179 + 122 * i) = 0 ∨ gI R sa (179 + 122 * i) = 1)) ∧ (∀ k, k < z → gI C (r + 2 + i) k = gI R sa (181 + 122 * i + k)) ∧ okR (tx (fun k => gI R sa (181 + 122 * i + k)) z) z
def uK (M M' : xM) : Prop := (∀ x j, ¬ (x = 130 ∧ 1 ≤ j ∧ j ≤ 6) → ¬ (x = 133 ∨ x = 134 ∨ x = 135) → ¬ (x = 131 ∧ 6 ≤ j) → gI M' x j = gI M x j) ∧ (∀ x j, gJ M' x j = gJ M x j) ∧ ∀ x j, ¬ x = 130 → gP M' x j = gP M x j
theorem uK_r {M : xM} : uK M M := ⟨fun _ _ _ _ _ => rfl, fun _ _ => rfl, fun _ _ _ => rfl⟩
theorem uK_t {M M' M2 : xM} (h : uK M M') (h2 : uK M' M2) : uK M M2 := ⟨fun x j q r s => (h2.1 x j q r s).trans (h.1 x j q r s), fun x j => (h2.2.1 x j).trans (h.2.1 x j), fun x j q => (h2.2.2 x j q).trans (h.2.2 x j q)⟩
theorem uK_R {M M' : xM} (h : uR M M') : uK M M' := ⟨fun x j q r _ => h.1 x j q r, h.2.1, h.2.2⟩
theorem uK_i {M : xM} {k : Nat} {v : Int32} (h : 6 ≤ k) : uK M (sI M 131 k v) := ⟨fun x y _ _ s => gI_ne (by omega), fun _ _ => rfl, fun _ _ _ => rfl⟩
theorem kFr_K {M M' : xM} (h : uK M M') : kFr M M' := ⟨fun x k q => h.1 x k (by omega) (by omega) (by omega), fun x k _ => h.2.1 x k, fun x k q => h.2.2 x k (by omega)⟩
theorem ruR_k {M M' R : xM} {nu : Nat} (h : ruR M 55 R 167 nu) (f : kFr M M') : ruR M' 55 R 167 nu := ⟨h.1, ⟨(f.1 _ _ (by omega)).trans h.2.1.1, h.2.1.2⟩, fun i hi => by
  have hnu := h.1
  obtain ⟨z, h1, ⟨h2, h3⟩, ⟨h4, h5⟩, h6, h7⟩ := h.2.2 i hi
  exact ⟨z, h1, ⟨(f.1 _ _ (by omega)).trans h2, h3⟩, ⟨(f.1 _ _ (by omega)).trans h4, h5⟩, fun k hk => (f.1 _ _ (by omega)).trans (h6 k hk), h7⟩⟩
theorem mR_k {M M' R : xM} {np nr ng : Nat} (h : mR M 1 R 167 np nr ng) (f : kFr M M') : mR M' 1 R 167 np nr ng := mR_C h (fun k hk => f.1 _ _ (by omega)) (fun k => f.1 _ _ (by omega)) (fun k => f.1 _ _ (by omega)) (fun p k hp => f.1 _ _ (by have := h.1.1; omega)) (fun q k hq => f.1 _ _ (by have := h.1.2.1; omega))
/-- what the fields of a rule say -/
def fct (R : xM) (np nr p : Nat) (hour : Int32) (i : Nat) : Int32 := if i = 0 then gI R 167 1648 else if i = 1 then (if rSt R np nr = 1000 then 999 else rSt R np nr) else if i = 2 then iSum (fun j => rs R j 5) np else if i = 3 then iSum (fun r => if rr R r 5 = 0 then (0 : Int32) else 1) nr else if i = 4 then (if rSt R np nr = 1000 then 0 else bC (rLo R (rSt R np nr) nr)) else if i = 5 then hour else if i = 6 then nI p else rs R p 0
theorem sh_rt : ∀ j, j < 12 → shp[57 + j]? = some (.inr (0, 120)) := by decide +kernel
theorem hl_z {R C : xM} {nu i z : Nat} (h1 : z ≤ 120) (h3 : gI R 167 (180 + 122 * i) = nI z) : ruZ R i = z := by unfold ruZ; rw [h3]; exact nI_cl (by omega)
theorem i_sub11 (a b : Int32) : a + 1 - (b + 1) = a - b := by
  rw [Int32.sub_eq_add_neg, Int32.neg_add, Int32.sub_eq_add_neg (-b) 1, Int32.add_assoc, ← Int32.add_assoc 1, Int32.add_comm 1 (-b), Int32.add_assoc (-b), show (1 : Int32) + -1 = 0 by decide, Int32.add_zero, ← Int32.sub_eq_add_neg]
theorem iS_sub {f : Nat → Int32} : ∀ {n : Nat}, (∀ k, k < n → f k = 0 ∨ f k = 1) → n < 4096 → nI n - iSum f n = iSum (fun k => if f k = 1 then (0 : Int32) else 1) n
  | 0, _, _ => by show nI 0 - 0 = 0; decide
  | n + 1, h, hn => by
    have ih := iS_sub (f := f) (n := n) (fun k hk => h k (by omega)) (by omega)
    rw [iSum, iSum, ← ih, ← nI_1]
    rcases h n (by omega) with e | e
    · rw [e, if_neg (by decide), Int32.add_zero]
      rw [Int32.sub_eq_add_neg, Int32.sub_eq_add_neg, Int32.add_assoc, Int32.add_assoc, Int32.add_comm 1]
    · rw [e, if_pos rfl, Int32.add_zero]
      exact i_sub11 _ _
theorem cLo_q {C R : xM} {np nr ng : Nat} (h : mR C 1 R 167 np nr ng) {l : Int32} (hl : bi 300 l) : ∀ n, n ≤ nr → cLo C l n = rLo R l n
  | 0, _ => rfl
  | n + 1, hn => by
    have e1 : gI C (16 + n) 5 = rr R n 5 := (r_q h (show n < nr by omega)).1 5 (by omega)
    have e2 : cP C (16 + n) l = rP R n l := q_P h (show n < nr by omega) hl
    have ih := cLo_q h hl n (by omega)
    rw [cLo, rLo, e1, e2, ih]
