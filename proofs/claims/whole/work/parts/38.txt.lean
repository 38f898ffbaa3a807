/-! ===== what a text says: characters, numbers, statements ===== -/
def chr (T : Nat → Int32) (n p : Nat) : Int32 := if p < n then T p else -1000
abbrev dgP (c : Int32) : Prop := 48 ≤ c ∧ c ≤ 57
def nL (T : Nat → Int32) (n p : Nat) : Nat := if ¬ dgP (chr T n p) then 0 else if chr T n p - 48 = 0 then 1 else if ¬ dgP (chr T n (p + 1)) then 1 else if ¬ dgP (chr T n (p + 2)) then 2 else 3
def nV (T : Nat → Int32) (n p : Nat) : Int32 := if nL T n p = 1 then chr T n p - 48 else if nL T n p = 2 then 10 * (chr T n p - 48) + chr T n (p + 1) - 48 else 10 * (10 * (chr T n p - 48) + chr T n (p + 1) - 48) + chr T n (p + 2) - 48
/-- all well; the place; the numbers; the side -/
abbrev tsT : Type := Bool × Nat × List Int32 × Int32
def rd1 (T : Nat → Int32) (n : Nat) (it : Nat) (s : tsT) : tsT :=
  if s.1 = false then s
  else if it = 0 then (if nL T n s.2.1 = 0 then (false, s.2.1, s.2.2.1, s.2.2.2) else (true, s.2.1 + nL T n s.2.1, s.2.2.1 ++ [nV T n s.2.1], s.2.2.2))
  else if it = 1 then (if chr T n s.2.1 = 101 then (true, s.2.1 + 1, s.2.2.1, 1) else if chr T n s.2.1 = 119 then (true, s.2.1 + 1, s.2.2.1, -1) else (false, s.2.1, s.2.2.1, s.2.2.2))
  else if chr T n s.2.1 = nI it then (true, s.2.1 + 1, s.2.2.1, s.2.2.2) else (false, s.2.1, s.2.2.1, s.2.2.2)
def rdS (T : Nat → Int32) (n : Nat) : List Nat → tsT → tsT
  | [], s => s
  | it :: l, s => rdS T n l (rd1 T n it s)
section TX
variable {T : Nat → Int32} {n : Nat}
theorem rdS_app : ∀ (a b : List Nat) (s : tsT), rdS T n (a ++ b) s = rdS T n b (rdS T n a s)
  | [], _, _ => rfl
  | _ :: a, b, s => rdS_app a b (rd1 T n _ s)
theorem chr_lt {p : Nat} (h : p < n) : chr T n p = T p := if_pos h
theorem chr_ge {p : Nat} (h : ¬ p < n) : chr T n p = -1000 := if_neg h
theorem dg_lt {p : Nat} (h : dgP (chr T n p)) : p < n := by
  by_cases c : p < n
  · exact c
  · rw [chr_ge c] at h
    exact absurd h.1 (by decide)
theorem chr_p {p : Nat} {c : Int32} (h : chr T n p = c) (hc : ¬ (-1000 : Int32) = c) : p < n := by
  by_cases q : p < n
  · exact q
  · rw [chr_ge q] at h
    exact absurd h hc
theorem nL_0 {p : Nat} (h : ¬ dgP (chr T n p)) : nL T n p = 0 := if_pos h
theorem nL_1 {p : Nat} (h : dgP (chr T n p)) (h2 : chr T n p - 48 = 0 ∨ ¬ dgP (chr T n (p + 1))) : nL T n p = 1 ∧ nV T n p = chr T n p - 48 := by
  have e : nL T n p = 1 := by
    unfold nL
    rw [if_neg (fun q => q h)]
    by_cases c : chr T n p - 48 = 0
    · rw [if_pos c]
    · rw [if_neg c, if_pos (h2.resolve_left c)]
  exact ⟨e, by unfold nV; rw [if_pos e]⟩
theorem nL_2 {p : Nat} (h : dgP (chr T n p)) (h2 : ¬ chr T n p - 48 = 0) (h3 : dgP (chr T n (p + 1))) (h4 : ¬ dgP (chr T n (p + 2))) : nL T n p = 2 ∧ nV T n p = 10 * (chr T n p - 48) + chr T n (p + 1) - 48 := by
  have e : nL T n p = 2 := by unfold nL; rw [if_neg (fun q => q h), if_neg h2, if_neg (fun q => q h3), if_pos h4]
  exact ⟨e, by unfold nV; rw [e]; rfl⟩
theorem nL_3 {p : Nat} (h : dgP (chr T n p)) (h2 : ¬ chr T n p - 48 = 0) (h3 : dgP (chr T n (p + 1))) (h4 : dgP (chr T n (p + 2))) : nL T n p = 3 ∧ nV T n p = 10 * (10 * (chr T n p - 48) + chr T n (p + 1) - 48) + chr T n (p + 2) - 48 := by
  have e : nL T n p = 3 := by unfold nL; rw [if_neg (fun q => q h), if_neg h2, if_neg (fun q => q h3), if_neg (fun q => q h4)]
  exact ⟨e, by unfold nV; rw [e]; rfl⟩
theorem dg_ti {c : Int32} (h : dgP c) : 48 ≤ c.toInt ∧ c.toInt ≤ 57 ∧ (c - 48).toInt = c.toInt - 48 := by
  have e1 : (48 : Int32).toInt = 48 := by decide
  have e2 : (57 : Int32).toInt = 57 := by decide
  have h1 := h.1
  have h2 := h.2
  rw [Int32.le_iff_toInt_le] at h1 h2
  refine ⟨by omega, by omega, ?_⟩
  rw [fb_subI (by omega) (by omega), e1]
theorem ad_ti {x c : Int32} (hx : 0 ≤ x.toInt ∧ x.toInt ≤ 99) (h : dgP c) : (10 * x + c - 48).toInt = 10 * x.toInt + c.toInt - 48 := by
  have e1 : (48 : Int32).toInt = 48 := by decide
  have e2 : (10 : Int32).toInt = 10 := by decide
  obtain ⟨h1, h2, -⟩ := dg_ti h
  have a : (10 * x).toInt = 10 * x.toInt := by rw [fb_mulI (by rw [e2]; omega) (by rw [e2]; omega), e2]
  have b : (10 * x + c).toInt = 10 * x.toInt + c.toInt := by rw [fb_addI (by omega) (by omega), a]
  rw [fb_subI (by omega) (by omega), b, e1]
theorem nL_le (p : Nat) : nL T n p ≤ 3 := by
  unfold nL
  split
  · omega
  · split
    · omega
    · split
      · omega
      · split <;> omega
theorem nL_n {p : Nat} (h : p ≤ n) : p + nL T n p ≤ n := by
  unfold nL
  by_cases c : dgP (chr T n p)
  · have := dg_lt c
    rw [if_neg (fun q => q c)]
    by_cases c2 : chr T n p - 48 = 0
    · rw [if_pos c2]; omega
    · rw [if_neg c2]
      by_cases c3 : dgP (chr T n (p + 1))
      · have := dg_lt c3
        rw [if_neg (fun q => q c3)]
        by_cases c4 : dgP (chr T n (p + 2))
        · have := dg_lt c4
          rw [if_neg (fun q => q c4)]; omega
        · rw [if_pos c4]; omega
      · rw [if_pos c3]; omega
  · rw [if_pos c]; omega
theorem nV_b {p : Nat} (h : ¬ nL T n p = 0) : 0 ≤ (nV T n p).toInt ∧ (nV T n p).toInt ≤ 999 := by
  by_cases c : dgP (chr T n p)
  · obtain ⟨a1, a2, a3⟩ := dg_ti c
    by_cases c2 : chr T n p - 48 = 0 ∨ ¬ dgP (chr T n (p + 1))
    · rw [(nL_1 c c2).2, a3]; omega
    · have c3 : dgP (chr T n (p + 1)) := Decidable.not_not.mp (fun q => c2 (Or.inr q))
      have c2 : ¬ chr T n p - 48 = 0 := fun q => c2 (Or.inl q)
      obtain ⟨b1, b2, b3⟩ := dg_ti c3
      have e := ad_ti (x := chr T n p - 48) (by omega) c3
      by_cases c4 : dgP (chr T n (p + 2))
      · obtain ⟨d1, d2, d3⟩ := dg_ti c4
        rw [(nL_3 c c2 c3 c4).2, ad_ti (by omega) c4, e]; omega
      · rw [(nL_2 c c2 c3 c4).2, e]; omega
  · exact absurd (nL_0 c) h
theorem rd1_le {it : Nat} {s : tsT} (h : s.2.1 ≤ n) (hit : it < 128) : (rd1 T n it s).2.1 ≤ n := by
  unfold rd1
  by_cases c0 : s.1 = false
  · rw [if_pos c0]; exact h
  · rw [if_neg c0]
    by_cases c1 : it = 0
    · rw [if_pos c1]
      by_cases c2 : nL T n s.2.1 = 0
      · rw [if_pos c2]; exact h
      · rw [if_neg c2]; exact nL_n h
    · rw [if_neg c1]
      by_cases c2 : it = 1
      · rw [if_pos c2]
        by_cases c3 : chr T n s.2.1 = 101
        · rw [if_pos c3]; exact chr_p c3 (by decide)
        · rw [if_neg c3]
          by_cases c4 : chr T n s.2.1 = 119
          · rw [if_pos c4]; exact chr_p c4 (by decide)
          · rw [if_neg c4]; exact h
      · rw [if_neg c2]
        by_cases c3 : chr T n s.2.1 = nI it
        · rw [if_pos c3]
          refine chr_p c3 (fun q => ?_)
          have := congrArg Int32.toInt q
          rw [nI_ti (by omega), show (-1000 : Int32).toInt = -1000 by decide] at this
          omega
        · rw [if_neg c3]; exact h
theorem rd1_f {it : Nat} {s : tsT} (h : s.1 = false) : rd1 T n it s = s := if_pos h
theorem rdS_f : ∀ {l : List Nat} {s : tsT}, s.1 = false → rdS T n l s = s
  | [], _, _ => rfl
  | _ :: l, s, h => by rw [rdS, rd1_f h]; exact rdS_f h
theorem rd1_ge {it : Nat} {s : tsT} : s.2.1 ≤ (rd1 T n it s).2.1 := by
  unfold rd1
  repeat' split
  all_goals first | exact Nat.le_refl _ | (dsimp only; omega)
theorem rdS_ge : ∀ {l : List Nat} {s : tsT}, s.2.1 ≤ (rdS T n l s).2.1
  | [], _ => Nat.le_refl _
  | _ :: _, _ => Nat.le_trans rd1_ge rdS_ge
theorem rdS_le : ∀ {l : List Nat} {s : tsT}, s.2.1 ≤ n → (∀ i ∈ l, i < 128) → (rdS T n l s).2.1 ≤ n
  | [], _, h, _ => h
  | it :: l, s, h, hl => by
    rw [rdS]
    exact rdS_le (l := l) (rd1_le h (hl _ List.mem_cons_self)) (fun i hi => hl i (List.mem_cons_of_mem _ hi))
/-- a number's steps, and what stands between them -/
def nIt : Nat → List Nat
  | 0 => []
  | 1 => [0]
  | k + 2 => nIt (k + 1) ++ [32, 0]
def stS (T : Nat → Int32) (n p : Nat) (sd : Int32) : tsT :=
  if chr T n p = 112 then rdS T n ([0, 32, 0, 32, 0, 32, 0, 32, 0] ++ [59]) (true, p + 1, [], sd)
  else if chr T n p = 114 then rdS T n ([0, 32, 1, 32] ++ [0, 32, 0, 32, 0] ++ [59]) (true, p + 1, [], sd)
  else if chr T n p = 102 then rdS T n ([0] ++ [59]) (true, p + 1, [], sd)
  else (false, p, [], sd)
theorem rd1_num {s : tsT} {p : Nat} {l : List Int32} {sd : Int32} (e : rd1 T n 0 s = (true, p, l, sd)) : s.1 = true ∧ p = s.2.1 + nL T n s.2.1 ∧ ¬ nL T n s.2.1 = 0 ∧ l = s.2.2.1 ++ [nV T n s.2.1] ∧ sd = s.2.2.2 := by
  unfold rd1 at e
  by_cases c0 : s.1 = false
  · rw [if_pos c0] at e
    rw [e] at c0
    cases c0
  · rw [if_neg c0, if_pos rfl] at e
    by_cases c1 : nL T n s.2.1 = 0
    · rw [if_pos c1] at e; cases e
    · rw [if_neg c1] at e; cases e; exact ⟨by cases hh : s.1 with | true => rfl | false => exact absurd hh c0, rfl, c1, rfl, rfl⟩
theorem rd1_chr {it : Nat} {s : tsT} {p : Nat} {l : List Int32} {sd : Int32} (h0 : it ≠ 0) (h1 : it ≠ 1) (e : rd1 T n it s = (true, p, l, sd)) : s.1 = true ∧ p = s.2.1 + 1 ∧ chr T n s.2.1 = nI it ∧ l = s.2.2.1 ∧ sd = s.2.2.2 := by
  unfold rd1 at e
  by_cases c0 : s.1 = false
  · rw [if_pos c0] at e
    rw [e] at c0
    cases c0
  · rw [if_neg c0, if_neg h0, if_neg h1] at e
    by_cases c1 : chr T n s.2.1 = nI it
    · rw [if_pos c1] at e; cases e; exact ⟨by cases hh : s.1 with | true => rfl | false => exact absurd hh c0, rfl, c1, rfl, rfl⟩
    · rw [if_neg c1] at e; cases e
theorem rd1_side {s : tsT} {p : Nat} {l : List Int32} {sd : Int32} (e : rd1 T n 1 s = (true, p, l, sd)) : s.1 = true ∧ p = s.2.1 + 1 ∧ l = s.2.2.1 ∧ (sd = 1 ∨ sd = -1) := by
  unfold rd1 at e
  by_cases c0 : s.1 = false
  · rw [if_pos c0] at e
    rw [e] at c0
    cases c0
  · rw [if_neg c0, if_neg (by decide), if_pos rfl] at e
    by_cases c1 : chr T n s.2.1 = 101
    · rw [if_pos c1] at e; cases e; exact ⟨by cases hh : s.1 with | true => rfl | false => exact absurd hh c0, rfl, rfl, Or.inl rfl⟩
    · rw [if_neg c1] at e
      by_cases c2 : chr T n s.2.1 = 119
      · rw [if_pos c2] at e; cases e; exact ⟨by cases hh : s.1 with | true => rfl | false => exact absurd hh c0, rfl, rfl, Or.inr rfl⟩
      · rw [if_neg c2] at e; cases e
end TX
