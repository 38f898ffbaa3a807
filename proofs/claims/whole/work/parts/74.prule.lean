/-! ===== rules: what a text says, as plain functions ===== -/
abbrev isFd (c : Int32) : Prop := c = 115 ∨ c = 108 ∨ c = 105 ∨ c = 99 ∨ c = 111 ∨ c = 104 ∨ c = 112 ∨ c = 107
def fdX (c : Int32) : Nat := if c = 115 then 0 else if c = 108 then 1 else if c = 105 then 2 else if c = 99 then 3 else if c = 111 then 4 else if c = 104 then 5 else if c = 112 then 6 else 7
section PR
variable (T : Nat → Int32) (n : Nat) (φ : Nat → Int32)
def n4 (p : Nat) : Nat := if ¬ dgP (chr T n p) then 0 else if chr T n p = 48 then 1 else if ¬ dgP (chr T n (p + 1)) then 1 else if ¬ dgP (chr T n (p + 2)) then 2 else if ¬ dgP (chr T n (p + 3)) then 3 else 4
def dV (p : Nat) : Nat → Int32
  | 0 => 0
  | j + 1 => 10 * dV p j + chr T n (p + j) - 48
def atX (p : Nat) : Bool × Nat × Int32 := if isFd (chr T n p) then (true, p + 1, φ (fdX (chr T n p))) else if n4 T n p = 0 then (false, p, 0) else (true, p + n4 T n p, dV T n p (n4 T n p))
def smL : Nat → Int32 → Nat → Bool × Nat × Int32
  | 0, a, p => (true, p, a)
  | f + 1, a, p => if chr T n p = 43 ∨ chr T n p = 45 then (if (atX T n φ (p + 1)).1 = true then smL f (a + if chr T n p = 43 then (atX T n φ (p + 1)).2.2 else -(atX T n φ (p + 1)).2.2) (atX T n φ (p + 1)).2.1 else (false, (atX T n φ (p + 1)).2.1, 0)) else (true, p, a)
def smX (a : Int32) (p : Nat) : Bool × Nat × Int32 := smL T n φ (n - p) a p
def suX (p : Nat) : Bool × Nat × Int32 := if (atX T n φ p).1 = true then smX T n φ (atX T n φ p).2.2 (atX T n φ p).2.1 else (false, (atX T n φ p).2.1, 0)
def cmX (c l r : Int32) : Bool := if c = 61 then decide (l = r) else if c = 60 then decide (l < r) else decide (r < l)
abbrev isCm (c : Int32) : Prop := c = 60 ∨ c = 62 ∨ c = 61
def cpX (p : Nat) : Bool × Nat × Bool :=
  if (suX T n φ p).1 = true ∧ isCm (chr T n (suX T n φ p).2.1) then
    (if (suX T n φ ((suX T n φ p).2.1 + 1)).1 = true then (true, (suX T n φ ((suX T n φ p).2.1 + 1)).2.1, cmX (chr T n (suX T n φ p).2.1) (suX T n φ p).2.2 (suX T n φ ((suX T n φ p).2.1 + 1)).2.2) else (false, (suX T n φ ((suX T n φ p).2.1 + 1)).2.1, false))
  else (false, (suX T n φ p).2.1, false)
def sgX (m : Nat) : Int32 := if m = 0 then 38 else 124
def opX (m : Nat) (a b : Bool) : Bool := if m = 0 then (a && b) else (a || b)
/-- test, and, or (m) at depth k from place p: well; the place; the value -/
def rX : Nat → Nat → Nat → Nat → Bool × Nat × Bool
  | 0, _, _, p => (false, p, false)
  | f + 1, 0, k, p => if chr T n p = 33 then ((rX f 0 k (p + 1)).1, (rX f 0 k (p + 1)).2.1, !(rX f 0 k (p + 1)).2.2)
    else if chr T n p = 40 then (if k = 8 then (false, p, false) else if (rX f 2 (k + 1) (p + 1)).1 = true then (if chr T n (rX f 2 (k + 1) (p + 1)).2.1 = 41 then (true, (rX f 2 (k + 1) (p + 1)).2.1 + 1, (rX f 2 (k + 1) (p + 1)).2.2) else (false, (rX f 2 (k + 1) (p + 1)).2.1, false)) else (false, (rX f 2 (k + 1) (p + 1)).2.1, false))
    else cpX T n φ p
  | f + 1, m + 1, k, p => if (rX f m k p).1 = true then (if chr T n (rX f m k p).2.1 = sgX m then ((rX f (m + 1) k ((rX f m k p).2.1 + 1)).1, (rX f (m + 1) k ((rX f m k p).2.1 + 1)).2.1, opX m (rX f m k p).2.2 (rX f (m + 1) k ((rX f m k p).2.1 + 1)).2.2) else rX f m k p) else (false, (rX f m k p).2.1, false)
def RX (m k p : Nat) : Bool × Nat × Bool := rX T n φ (3 * (n - p) + m + 1) m k p
end PR
def bdX {α : Type} (n p : Nat) (r : Bool × Nat × α) : Prop := p ≤ r.2.1 ∧ r.2.1 ≤ n ∧ (r.1 = true → p < r.2.1)
section PS
variable {T : Nat → Int32} {n : Nat} {φ : Nat → Int32}
theorem n4_n {p : Nat} (h : p ≤ n) : p + n4 T n p ≤ n := by
  unfold n4
  by_cases c : dgP (chr T n p)
  · have := dg_lt c
    rw [if_neg (fun q => q c)]
    by_cases c2 : chr T n p = 48
    · rw [if_pos c2]; omega
    · rw [if_neg c2]
      by_cases c3 : dgP (chr T n (p + 1))
      · have := dg_lt c3
        rw [if_neg (fun q => q c3)]
        by_cases c4 : dgP (chr T n (p + 2))
        · have := dg_lt c4
          rw [if_neg (fun q => q c4)]
          by_cases c5 : dgP (chr T n (p + 3))
          · have := dg_lt c5
            rw [if_neg (fun q => q c5)]; omega
          · rw [if_pos c5]; omega
        · rw [if_pos c4]; omega
      · rw [if_pos c3]; omega
  · rw [if_pos c]; omega
theorem n4_4 (p : Nat) : n4 T n p ≤ 4 := by
  unfold n4
  repeat' split
  all_goals omega
theorem fd_lt {p : Nat} (h : isFd (chr T n p)) : p < n := by
  by_cases q : p < n
  · exact q
  · rw [chr_ge q] at h
    exact absurd h (by decide)
theorem atX_b {p : Nat} (h : p ≤ n) : bdX n p (atX T n φ p) := by
  unfold atX
  by_cases c : isFd (chr T n p)
  · have := fd_lt c
    rw [if_pos c]
    exact ⟨Nat.le_succ p, this, fun _ => Nat.lt_succ_self p⟩
  · rw [if_neg c]
    by_cases c2 : n4 T n p = 0
    · rw [if_pos c2]; exact ⟨Nat.le_refl _, h, fun q => by cases q⟩
    · rw [if_neg c2]
      exact ⟨Nat.le_add_right _ _, n4_n h, fun _ => by show p < p + n4 T n p; omega⟩
theorem pm_lt {p : Nat} (h : chr T n p = 43 ∨ chr T n p = 45) : p < n := h.elim (fun e => chr_p e (by decide)) (fun e => chr_p e (by decide))
theorem smL_b : ∀ {f : Nat} {a : Int32} {p : Nat}, p ≤ n → p ≤ (smL T n φ f a p).2.1 ∧ (smL T n φ f a p).2.1 ≤ n
  | 0, _, _, h => ⟨Nat.le_refl _, h⟩
  | f + 1, a, p, h => by
    rw [smL]
    by_cases c : chr T n p = 43 ∨ chr T n p = 45
    · have h1 := pm_lt c
      rw [if_pos c]
      obtain ⟨b1, b2, b3⟩ := atX_b (T := T) (n := n) (φ := φ) (p := p + 1) h1
      by_cases c2 : (atX T n φ (p + 1)).1 = true
      · rw [if_pos c2]
        have := smL_b (f := f) (a := a + if chr T n p = 43 then (atX T n φ (p + 1)).2.2 else -(atX T n φ (p + 1)).2.2) b2
        exact ⟨by omega, this.2⟩
      · rw [if_neg c2]; exact ⟨by show p ≤ (atX T n φ (p + 1)).2.1; omega, b2⟩
    · rw [if_neg c]; exact ⟨Nat.le_refl _, h⟩
theorem smL_i : ∀ {f g : Nat} {a : Int32} {p : Nat}, p ≤ n → n - p ≤ f → n - p ≤ g → smL T n φ f a p = smL T n φ g a p
  | 0, 0, _, _, _, _, _ => rfl
  | 0, g + 1, a, p, h, h1, _ => by
    rw [smL, smL, if_neg (fun c => by have := pm_lt c; omega)]
  | f + 1, 0, a, p, h, _, h2 => by
    rw [smL, smL, if_neg (fun c => by have := pm_lt c; omega)]
  | f + 1, g + 1, a, p, h, h1, h2 => by
    rw [smL, smL]
    by_cases c : chr T n p = 43 ∨ chr T n p = 45
    · have h3 := pm_lt c
      rw [if_pos c, if_pos c]
      obtain ⟨b1, b2, b3⟩ := atX_b (T := T) (n := n) (φ := φ) (p := p + 1) h3
      by_cases c2 : (atX T n φ (p + 1)).1 = true
      · rw [if_pos c2, if_pos c2]
        exact smL_i b2 (by omega) (by omega)
      · rw [if_neg c2, if_neg c2]
    · rw [if_neg c, if_neg c]
theorem smX_eq {a : Int32} {p : Nat} (h : p ≤ n) : smX T n φ a p = if chr T n p = 43 ∨ chr T n p = 45 then (if (atX T n φ (p + 1)).1 = true then smX T n φ (a + if chr T n p = 43 then (atX T n φ (p + 1)).2.2 else -(atX T n φ (p + 1)).2.2) (atX T n φ (p + 1)).2.1 else (false, (atX T n φ (p + 1)).2.1, 0)) else (true, p, a) := by
  show smL T n φ (n - p) a p = _
  rw [smL_i (g := n - p + 1) h (Nat.le_refl _) (by omega), smL]
  by_cases c : chr T n p = 43 ∨ chr T n p = 45
  · have h3 := pm_lt c
    rw [if_pos c, if_pos c]
    obtain ⟨b1, b2, b3⟩ := atX_b (T := T) (n := n) (φ := φ) (p := p + 1) h3
    by_cases c2 : (atX T n φ (p + 1)).1 = true
    · rw [if_pos c2, if_pos c2]
      exact smL_i b2 (by omega) (by omega)
    · rw [if_neg c2, if_neg c2]
  · rw [if_neg c, if_neg c]
theorem suX_b {p : Nat} (h : p ≤ n) : bdX n p (suX T n φ p) := by
  obtain ⟨b1, b2, b3⟩ := atX_b (T := T) (n := n) (φ := φ) h
  unfold suX
  by_cases c2 : (atX T n φ p).1 = true
  · rw [if_pos c2]
    have h1 := smL_b (T := T) (φ := φ) (f := n - (atX T n φ p).2.1) (a := (atX T n φ p).2.2) b2
    exact ⟨by unfold smX; omega, h1.2, fun _ => by unfold smX; have := b3 c2; omega⟩
  · rw [if_neg c2]; exact ⟨b1, b2, fun q => by cases q⟩
theorem cm_lt {p : Nat} (h : isCm (chr T n p)) : p < n := by
  by_cases q : p < n
  · exact q
  · rw [chr_ge q] at h
    exact absurd h (by decide)
theorem cpX_b {p : Nat} (h : p ≤ n) : bdX n p (cpX T n φ p) := by
  obtain ⟨b1, b2, b3⟩ := suX_b (T := T) (n := n) (φ := φ) h
  unfold cpX
  by_cases c2 : (suX T n φ p).1 = true ∧ isCm (chr T n (suX T n φ p).2.1)
  · rw [if_pos c2]
    have h1 := cm_lt c2.2
    obtain ⟨d1, d2, d3⟩ := suX_b (T := T) (n := n) (φ := φ) (p := (suX T n φ p).2.1 + 1) h1
    by_cases c3 : (suX T n φ ((suX T n φ p).2.1 + 1)).1 = true
    · rw [if_pos c3]; exact ⟨by show p ≤ (suX T n φ ((suX T n φ p).2.1 + 1)).2.1; omega, d2, fun _ => by show p < (suX T n φ ((suX T n φ p).2.1 + 1)).2.1; omega⟩
    · rw [if_neg c3]; exact ⟨by show p ≤ (suX T n φ ((suX T n φ p).2.1 + 1)).2.1; omega, d2, fun q => by cases q⟩
  · rw [if_neg c2]; exact ⟨b1, b2, fun q => by cases q⟩
theorem sg_lt {m p : Nat} (h : chr T n p = sgX m) : p < n := chr_p h (by unfold sgX; split <;> decide)
theorem rX_b : ∀ {f m k p : Nat}, p ≤ n → bdX n p (rX T n φ f m k p)
  | 0, _, _, _, h => ⟨Nat.le_refl _, h, fun q => by cases q⟩
  | f + 1, 0, k, p, h => by
    rw [rX]
    by_cases c : chr T n p = 33
    · obtain ⟨b1, b2, b3⟩ := rX_b (f := f) (m := 0) (k := k) (p := p + 1) (chr_p c (by decide))
      rw [if_pos c]
      exact ⟨by show p ≤ (rX T n φ f 0 k (p + 1)).2.1; omega, b2, fun _ => by show p < (rX T n φ f 0 k (p + 1)).2.1; omega⟩
    · rw [if_neg c]
      by_cases c2 : chr T n p = 40
      · obtain ⟨b1, b2, b3⟩ := rX_b (f := f) (m := 2) (k := k + 1) (p := p + 1) (chr_p c2 (by decide))
        rw [if_pos c2]
        by_cases c3 : k = 8
        · rw [if_pos c3]; exact ⟨Nat.le_refl _, h, fun q => by cases q⟩
        · rw [if_neg c3]
          by_cases c4 : (rX T n φ f 2 (k + 1) (p + 1)).1 = true
          · rw [if_pos c4]
            by_cases c5 : chr T n (rX T n φ f 2 (k + 1) (p + 1)).2.1 = 41
            · have := chr_p c5 (by decide)
              rw [if_pos c5]; exact ⟨by show p ≤ (rX T n φ f 2 (k + 1) (p + 1)).2.1 + 1; omega, this, fun _ => by show p < (rX T n φ f 2 (k + 1) (p + 1)).2.1 + 1; omega⟩
            · rw [if_neg c5]; exact ⟨by show p ≤ (rX T n φ f 2 (k + 1) (p + 1)).2.1; omega, b2, fun q => by cases q⟩
          · rw [if_neg c4]; exact ⟨by show p ≤ (rX T n φ f 2 (k + 1) (p + 1)).2.1; omega, b2, fun q => by cases q⟩
      · rw [if_neg c2]; exact cpX_b h
  | f + 1, m + 1, k, p, h => by
    obtain ⟨b1, b2, b3⟩ := rX_b (f := f) (m := m) (k := k) (p := p) h
    rw [rX]
    by_cases c : (rX T n φ f m k p).1 = true
    · rw [if_pos c]
      by_cases c2 : chr T n (rX T n φ f m k p).2.1 = sgX m
      · rw [if_pos c2]
        obtain ⟨d1, d2, d3⟩ := rX_b (f := f) (m := m + 1) (k := k) (p := (rX T n φ f m k p).2.1 + 1) (sg_lt c2)
        exact ⟨by show p ≤ (rX T n φ f (m + 1) k ((rX T n φ f m k p).2.1 + 1)).2.1; omega, d2, fun _ => by show p < (rX T n φ f (m + 1) k ((rX T n φ f m k p).2.1 + 1)).2.1; omega⟩
      · rw [if_neg c2]; exact ⟨b1, b2, b3⟩
    · rw [if_neg c]; exact ⟨b1, b2, fun q => by cases q⟩
theorem rX_i : ∀ {f g m k p : Nat}, p ≤ n → 3 * (n - p) + m < f → 3 * (n - p) + m < g → rX T n φ f m k p = rX T n φ g m k p
  | 0, _, _, _, _, _, h, _ => absurd h (Nat.not_lt_zero _)
  | _ + 1, 0, _, _, _, _, _, h => absurd h (Nat.not_lt_zero _)
  | f + 1, g + 1, 0, k, p, h, h1, h2 => by
    rw [rX, rX]
    by_cases c : chr T n p = 33
    · have := chr_p c (by decide)
      rw [if_pos c, if_pos c, rX_i (f := f) (g := g) (m := 0) (k := k) (p := p + 1) this (by omega) (by omega)]
    · rw [if_neg c, if_neg c]
      by_cases c2 : chr T n p = 40
      · have := chr_p c2 (by decide)
        rw [if_pos c2, if_pos c2, rX_i (f := f) (g := g) (m := 2) (k := k + 1) (p := p + 1) this (by omega) (by omega)]
      · rw [if_neg c2, if_neg c2]
  | f + 1, g + 1, m + 1, k, p, h, h1, h2 => by
    rw [rX, rX, rX_i (f := f) (g := g) (m := m) (k := k) (p := p) h (by omega) (by omega)]
    by_cases c : (rX T n φ g m k p).1 = true
    · obtain ⟨b1, b2, b3⟩ := rX_b (T := T) (n := n) (φ := φ) (f := g) (m := m) (k := k) (p := p) h
      have b4 := b3 c
      rw [if_pos c, if_pos c]
      by_cases c2 : chr T n (rX T n φ g m k p).2.1 = sgX m
      · rw [if_pos c2, if_pos c2, rX_i (f := f) (g := g) (m := m + 1) (k := k) (p := (rX T n φ g m k p).2.1 + 1) (sg_lt c2) (by omega) (by omega)]
      · rw [if_neg c2, if_neg c2]
    · rw [if_neg c, if_neg c]
theorem RX_b {m k p : Nat} (h : p ≤ n) : bdX n p (RX T n φ m k p) := rX_b h
theorem RX_t {k p : Nat} (h : p ≤ n) : RX T n φ 0 k p = if chr T n p = 33 then ((RX T n φ 0 k (p + 1)).1, (RX T n φ 0 k (p + 1)).2.1, !(RX T n φ 0 k (p + 1)).2.2)
    else if chr T n p = 40 then (if k = 8 then (false, p, false) else if (RX T n φ 2 (k + 1) (p + 1)).1 = true then (if chr T n (RX T n φ 2 (k + 1) (p + 1)).2.1 = 41 then (true, (RX T n φ 2 (k + 1) (p + 1)).2.1 + 1, (RX T n φ 2 (k + 1) (p + 1)).2.2) else (false, (RX T n φ 2 (k + 1) (p + 1)).2.1, false)) else (false, (RX T n φ 2 (k + 1) (p + 1)).2.1, false))
    else cpX T n φ p := by
  show rX T n φ (3 * (n - p) + 1) 0 k p = _
  rw [rX]
  unfold RX
  by_cases c : chr T n p = 33
  · have := chr_p c (by decide)
    rw [if_pos c, if_pos c, rX_i (f := 3 * (n - p)) (g := 3 * (n - (p + 1)) + 0 + 1) (m := 0) (k := k) (p := p + 1) this (by omega) (by omega)]
  · rw [if_neg c, if_neg c]
    by_cases c2 : chr T n p = 40
    · have := chr_p c2 (by decide)
      rw [if_pos c2, if_pos c2, rX_i (f := 3 * (n - p)) (g := 3 * (n - (p + 1)) + 2 + 1) (m := 2) (k := k + 1) (p := p + 1) this (by omega) (by omega)]
    · rw [if_neg c2, if_neg c2]
theorem RX_s {m k p : Nat} (h : p ≤ n) : RX T n φ (m + 1) k p = if (RX T n φ m k p).1 = true then (if chr T n (RX T n φ m k p).2.1 = sgX m then ((RX T n φ (m + 1) k ((RX T n φ m k p).2.1 + 1)).1, (RX T n φ (m + 1) k ((RX T n φ m k p).2.1 + 1)).2.1, opX m (RX T n φ m k p).2.2 (RX T n φ (m + 1) k ((RX T n φ m k p).2.1 + 1)).2.2) else RX T n φ m k p) else (false, (RX T n φ m k p).2.1, false) := by
  show rX T n φ (3 * (n - p) + m + 1 + 1) (m + 1) k p = _
  rw [rX]
  unfold RX
  by_cases c : (rX T n φ (3 * (n - p) + m + 1) m k p).1 = true
  · obtain ⟨b1, b2, b3⟩ := rX_b (T := T) (n := n) (φ := φ) (f := 3 * (n - p) + m + 1) (m := m) (k := k) (p := p) h
    have b4 := b3 c
    rw [if_pos c, if_pos c]
    by_cases c2 : chr T n (rX T n φ (3 * (n - p) + m + 1) m k p).2.1 = sgX m
    · rw [if_pos c2, if_pos c2, rX_i (f := 3 * (n - p) + m + 1) (g := 3 * (n - ((rX T n φ (3 * (n - p) + m + 1) m k p).2.1 + 1)) + (m + 1) + 1) (m := m + 1) (k := k) (p := (rX T n φ (3 * (n - p) + m + 1) m k p).2.1 + 1) (sg_lt c2) (by omega) (by omega)]
    · rw [if_neg c2, if_neg c2]
  · rw [if_neg c, if_neg c]
/-! whether a text is well does not depend on the facts -/
variable {ψ : Nat → Int32}
abbrev eqX {α : Type} (a b : Bool × Nat × α) : Prop := a.1 = b.1 ∧ a.2.1 = b.2.1
theorem atX_f {p : Nat} : eqX (atX T n φ p) (atX T n ψ p) := by
  unfold atX
  by_cases c : isFd (chr T n p)
  · rw [if_pos c, if_pos c]; exact ⟨rfl, rfl⟩
  · rw [if_neg c, if_neg c]; exact ⟨rfl, rfl⟩
theorem smL_f : ∀ {f : Nat} {a b : Int32} {p : Nat}, eqX (smL T n φ f a p) (smL T n ψ f b p)
  | 0, _, _, _ => ⟨rfl, rfl⟩
  | f + 1, a, b, p => by
    obtain ⟨e1, e2⟩ := atX_f (T := T) (n := n) (φ := φ) (ψ := ψ) (p := p + 1)
    rw [smL, smL]
    by_cases c : chr T n p = 43 ∨ chr T n p = 45
    · rw [if_pos c, if_pos c]
      by_cases c2 : (atX T n φ (p + 1)).1 = true
      · rw [if_pos c2, if_pos (e1.symm.trans c2), e2]
        exact smL_f
      · rw [if_neg c2, if_neg (fun q => c2 (e1.trans q))]
        exact ⟨rfl, e2⟩
    · rw [if_neg c, if_neg c]; exact ⟨rfl, rfl⟩
theorem suX_f {p : Nat} : eqX (suX T n φ p) (suX T n ψ p) := by
  obtain ⟨e1, e2⟩ := atX_f (T := T) (n := n) (φ := φ) (ψ := ψ) (p := p)
  unfold suX
  by_cases c2 : (atX T n φ p).1 = true
  · rw [if_pos c2, if_pos (e1.symm.trans c2)]
    unfold smX
    rw [e2]
    exact smL_f
  · rw [if_neg c2, if_neg (fun q => c2 (e1.trans q))]
    exact ⟨rfl, e2⟩
theorem cpX_f {p : Nat} : eqX (cpX T n φ p) (cpX T n ψ p) := by
  obtain ⟨e1, e2⟩ := suX_f (T := T) (n := n) (φ := φ) (ψ := ψ) (p := p)
  unfold cpX
  rw [e2]
  obtain ⟨e3, e4⟩ := suX_f (T := T) (n := n) (φ := φ) (ψ := ψ) (p := (suX T n ψ p).2.1 + 1)
  by_cases c2 : (suX T n φ p).1 = true ∧ isCm (chr T n (suX T n ψ p).2.1)
  · have c9 : (suX T n ψ p).1 = true ∧ isCm (chr T n (suX T n ψ p).2.1) := And.intro (e1.symm.trans c2.1) c2.2
    rw [if_pos c2, if_pos c9]
    by_cases c3 : (suX T n φ ((suX T n ψ p).2.1 + 1)).1 = true
    · rw [if_pos c3, if_pos (e3.symm.trans c3)]; exact ⟨rfl, e4⟩
    · rw [if_neg c3, if_neg (fun q => c3 (e3.trans q))]; exact ⟨rfl, e4⟩
  · rw [if_neg c2, if_neg (fun q => c2 ⟨e1.trans q.1, q.2⟩)]; exact ⟨rfl, rfl⟩
theorem rX_f : ∀ {f m k p : Nat}, eqX (rX T n φ f m k p) (rX T n ψ f m k p)
  | 0, _, _, _ => ⟨rfl, rfl⟩
  | f + 1, 0, k, p => by
    obtain ⟨e1, e2⟩ := rX_f (f := f) (m := 0) (k := k) (p := p + 1)
    obtain ⟨e3, e4⟩ := rX_f (f := f) (m := 2) (k := k + 1) (p := p + 1)
    rw [rX, rX]
    by_cases c : chr T n p = 33
    · rw [if_pos c, if_pos c]; exact ⟨e1, e2⟩
    · rw [if_neg c, if_neg c]
      by_cases c2 : chr T n p = 40
      · rw [if_pos c2, if_pos c2]
        by_cases c3 : k = 8
        · rw [if_pos c3, if_pos c3]; exact ⟨rfl, rfl⟩
        · rw [if_neg c3, if_neg c3, e4]
          by_cases c4 : (rX T n φ f 2 (k + 1) (p + 1)).1 = true
          · rw [if_pos c4, if_pos (e3.symm.trans c4)]
            by_cases c5 : chr T n (rX T n ψ f 2 (k + 1) (p + 1)).2.1 = 41
            · rw [if_pos c5, if_pos c5]; exact ⟨rfl, rfl⟩
            · rw [if_neg c5, if_neg c5]; exact ⟨rfl, rfl⟩
          · rw [if_neg c4, if_neg (fun q => c4 (e3.trans q))]; exact ⟨rfl, rfl⟩
      · rw [if_neg c2, if_neg c2]; exact cpX_f
  | f + 1, m + 1, k, p => by
    obtain ⟨e1, e2⟩ := rX_f (f := f) (m := m) (k := k) (p := p)
    rw [rX, rX, e2]
    obtain ⟨e3, e4⟩ := rX_f (f := f) (m := m + 1) (k := k) (p := (rX T n ψ f m k p).2.1 + 1)
    by_cases c : (rX T n φ f m k p).1 = true
    · rw [if_pos c, if_pos (e1.symm.trans c)]
      by_cases c2 : chr T n (rX T n ψ f m k p).2.1 = sgX m
      · rw [if_pos c2, if_pos c2]; exact ⟨e3, e4⟩
      · rw [if_neg c2, if_neg c2]; exact ⟨e1, e2⟩
    · rw [if_neg c, if_neg (fun q => c (e1.trans q))]; exact ⟨rfl, rfl⟩
theorem RX_f {m k p : Nat} : eqX (RX T n φ m k p) (RX T n ψ m k p) := rX_f
end PS
