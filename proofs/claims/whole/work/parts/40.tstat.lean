/-! ===== the class reads statements ===== -/
section TS2
variable {T : Nat → Int32} {n : Nat}
theorem rd1_len {it : Nat} {s : tsT} : (rd1 T n it s).2.2.1.length ≤ s.2.2.1.length + (if it = 0 then 1 else 0) := by
  unfold rd1
  by_cases c0 : s.1 = false
  · rw [if_pos c0]; omega
  · rw [if_neg c0]
    by_cases c1 : it = 0
    · rw [if_pos c1, if_pos c1]
      by_cases c2 : nL T n s.2.1 = 0
      · rw [if_pos c2]; exact Nat.le_succ _
      · rw [if_neg c2]
        show (s.2.2.1 ++ [_]).length ≤ _
        rw [List.length_append]
        exact Nat.le_refl _
    · rw [if_neg c1, if_neg c1]
      repeat' split
      all_goals exact Nat.le_refl _
theorem nIt_s {k : Nat} (hk : 1 ≤ k) : nIt (k + 1) = nIt k ++ [32, 0] := by
  obtain ⟨m, rfl⟩ : ∃ m, k = m + 1 := ⟨k - 1, by omega⟩
  rfl
theorem nIt_le : ∀ k, ∀ i ∈ nIt k, i < 128
  | 0 => fun _ h => absurd h List.not_mem_nil
  | 1 => fun i h => by
    have e : i = 0 := by simpa [nIt] using h
    omega
  | k + 2 => fun i h => by
    rw [nIt] at h
    rcases List.mem_append.mp h with h | h
    · exact nIt_le (k + 1) i h
    · have e : i = 32 ∨ i = 0 := by simpa using h
      omega
theorem nIt_len {s : tsT} : ∀ k, (rdS T n (nIt k) s).2.2.1.length ≤ s.2.2.1.length + k
  | 0 => Nat.le_refl _
  | 1 => rd1_len
  | k + 2 => by
    rw [nIt, rdS_app]
    have a := nIt_len (s := s) (k + 1)
    have b := rd1_len (T := T) (n := n) (it := 32) (s := rdS T n (nIt (k + 1)) s)
    have c := rd1_len (T := T) (n := n) (it := 0) (s := rd1 T n 32 (rdS T n (nIt (k + 1)) s))
    show (rd1 T n 0 (rd1 T n 32 (rdS T n (nIt (k + 1)) s))).2.2.1.length ≤ _
    have d : (if (32 : Nat) = 0 then 1 else 0) = 0 := rfl
    have e : (if (0 : Nat) = 0 then 1 else 0) = 1 := rfl
    omega
/-- the same but for the side -/
def tsQ (s s' : tsT) : Prop := s.1 = s'.1 ∧ s.2.1 = s'.2.1 ∧ s.2.2.1 = s'.2.2.1
theorem rd1_q {it : Nat} {s s' : tsT} (h : tsQ s s') : tsQ (rd1 T n it s) (rd1 T n it s') := by
  obtain ⟨ok, p, l, sd⟩ := s
  obtain ⟨ok', p', l', sd'⟩ := s'
  obtain ⟨h1, h2, h3⟩ := h
  dsimp only at h1 h2 h3
  subst h1 h2 h3
  unfold rd1
  dsimp only
  repeat' split
  all_goals exact ⟨rfl, rfl, rfl⟩
theorem rdS_q : ∀ {l : List Nat} {s s' : tsT}, tsQ s s' → tsQ (rdS T n l s) (rdS T n l s')
  | [], _, _, h => h
  | it :: l, s, s', h => by
    rw [rdS, rdS]
    exact rdS_q (rd1_q h)
theorem stS_q {p : Nat} {sd sd' : Int32} : tsQ (stS T n p sd) (stS T n p sd') := by
  unfold stS
  repeat' split
  all_goals first | exact rdS_q ⟨rfl, rfl, rfl⟩ | exact ⟨rfl, rfl, rfl⟩
theorem stS_le {p : Nat} {sd : Int32} (h : p ≤ n) : (stS T n p sd).2.1 ≤ n := by
  unfold stS
  by_cases c : chr T n p = 112
  · rw [if_pos c]
    have := chr_p c (by decide)
    exact rdS_le (by show p + 1 ≤ n; omega) (by decide)
  · rw [if_neg c]
    by_cases c : chr T n p = 114
    · rw [if_pos c]
      have := chr_p c (by decide)
      exact rdS_le (by show p + 1 ≤ n; omega) (by decide)
    · rw [if_neg c]
      by_cases c : chr T n p = 102
      · rw [if_pos c]
        have := chr_p c (by decide)
        exact rdS_le (by show p + 1 ≤ n; omega) (by decide)
      · rw [if_neg c]; exact h
theorem stS_gt {p : Nat} {sd : Int32} (h : (stS T n p sd).1 = true) : p < (stS T n p sd).2.1 := by
  unfold stS at h ⊢
  by_cases c : chr T n p = 112
  · rw [if_pos c]
    exact Nat.lt_of_lt_of_le (Nat.lt_succ_self p) (rdS_ge (s := ((true, p + 1, [], sd) : tsT)))
  · rw [if_neg c] at h ⊢
    by_cases c : chr T n p = 114
    · rw [if_pos c]
      exact Nat.lt_of_lt_of_le (Nat.lt_succ_self p) (rdS_ge (s := ((true, p + 1, [], sd) : tsT)))
    · rw [if_neg c] at h ⊢
      by_cases c : chr T n p = 102
      · rw [if_pos c]
        exact Nat.lt_of_lt_of_le (Nat.lt_succ_self p) (rdS_ge (s := ((true, p + 1, [], sd) : tsT)))
      · rw [if_neg c] at h; cases h
/-- the first pass: all well, or the place of the fault -/
def fpR (T : Nat → Int32) (n : Nat) : Nat → Nat → Bool × Nat
  | 0, p => (false, p)
  | f + 1, p => if (stS T n p 0).1 = false then (false, (stS T n p 0).2.1) else if (stS T n p 0).2.1 < n then fpR T n f (stS T n p 0).2.1 else (true, n)
end TS2
set_option maxRecDepth 4000 in
theorem e_readNumbers {κ : xKK} {d : Nat} {M : xM} {t n m : Nat} {T : Nat → Int32} {s : tsT} (hC : tC M t n T) (hR : tR M s) (hs : s.2.1 ≤ n) (hm : 1 ≤ m) (hl : s.2.2.1.length + m ≤ 5) (hd : 2 ≤ d) : xE2 κ mX10_readNumbers d [.ref 127, .int (nI m)] M (fun v M' => v = none ∧ tR M' (rdS T n (nIt m) s) ∧ tF M M') := by
  refine xE2_of ci_X10_readNumbers cl_X10_readNumbers cw_X10_readNumbers rfl (L := [some (.ref 127), some (.int (nI m)), none]) rfl ?_
  refine xG_run 1 rfl (by repeat' (first | exact trivial | assumption | exact xob_b rfl | exact xal_b rfl | (apply And.intro) | decide)) ?_
  try dsimp only [xsto1, xsto2, xkill, xget, xset, gd_0, gd_s]
  refine xG_c2 0 rfl (by repeat' (first | exact trivial | assumption | exact xob_b rfl | exact xal_b rfl | (apply And.intro) | decide)) rfl rfl (by decide) cw_X10_readNumber (d' := d - 1) (e_readNumber hC hR hs (by omega) (by omega)) (by omega) ?_
  rintro v M1 ⟨rfl, hR1, hF1⟩
  dsimp only [Option.toList, List.cons_append, List.nil_append]
  refine xG_run 2 rfl (by repeat' (first | exact trivial | assumption | exact xob_b rfl | exact xal_b rfl | (apply And.intro) | decide)) ?_
  try dsimp only [xsto1, xsto2, xkill, xget, xset, gd_0, gd_s]
  have lp := xG_upP (κ := κ) (m := mX10_readNumbers) (r := (d, 0, 0)) (YS := xRet mX10_readNumbers false (fun v M' n' => n' = 182 ∧ (v = none ∧ tR M' (rdS T n (nIt m) s) ∧ tF M M'))) (fun i X => ∃ M2 : xM, 1 ≤ i ∧ X = (6, [some (.ref 127), some (.int (nI m)), some (.int (nI i))], [], M2, z2) ∧ tR M2 (rdS T n (nIt i) s) ∧ tF M M2) m ?_ ?_ 1 hm
  · exact lp _ ⟨_, by omega, rfl, hR1, hF1⟩
  · rintro i X hi ⟨M2, hi1, rfl, hR2, hF2⟩ ih
    have hC2 := tC_F hC hF2
    have hs2 := rdS_le (T := T) (n := n) (l := nIt i) hs (nIt_le i)
    have hl2 := nIt_len (T := T) (n := n) (s := s) i
    refine xG_run 2 rfl (by repeat' (first | exact trivial | assumption | exact xob_b rfl | exact xal_b rfl | (apply And.intro) | decide)) ?_
    try dsimp only [xsto1, xsto2, xkill, xget, xset, gd_0, gd_s]
    refine xG_brF rfl (nI_ge hi (by omega)) ?_
    refine xG_run 2 rfl (by repeat' (first | exact trivial | assumption | exact xob_b rfl | exact xal_b rfl | (apply And.intro) | decide)) ?_
    try dsimp only [xsto1, xsto2, xkill, xget, xset, gd_0, gd_s]
    refine xG_c2 1 rfl (by repeat' (first | exact trivial | assumption | exact xob_b rfl | exact xal_b rfl | (apply And.intro) | decide)) rfl rfl (by decide) cw_X10_expect (d' := d - 1) (e_expect (c := 32) hC2 hR2 hs2 (by omega)) (by omega) ?_
    rintro v M3 ⟨rfl, hR3, hF3⟩
    dsimp only [Option.toList, List.cons_append, List.nil_append]
    have hC3 := tC_F hC2 hF3
    have hs3 := rd1_le (T := T) (it := 32) hs2 (by omega)
    have hl3 := rd1_len (T := T) (n := n) (it := 32) (s := rdS T n (nIt i) s)
    have hl4 : (if (32 : Nat) = 0 then 1 else 0) = 0 := rfl
    refine xG_run 1 rfl (by repeat' (first | exact trivial | assumption | exact xob_b rfl | exact xal_b rfl | (apply And.intro) | decide)) ?_
    try dsimp only [xsto1, xsto2, xkill, xget, xset, gd_0, gd_s]
    refine xG_c2 0 rfl (by repeat' (first | exact trivial | assumption | exact xob_b rfl | exact xal_b rfl | (apply And.intro) | decide)) rfl rfl (by decide) cw_X10_readNumber (d' := d - 1) (e_readNumber hC3 hR3 hs3 (by omega) (by omega)) (by omega) ?_
    rintro v M4 ⟨rfl, hR4, hF4⟩
    dsimp only [Option.toList, List.cons_append, List.nil_append]
    refine xG_run 2 rfl (by repeat' (first | exact trivial | assumption | exact xob_b rfl | exact xal_b rfl | (apply And.intro) | decide)) ?_
    try dsimp only [xsto1, xsto2, xkill, xget, xset, gd_0, gd_s]
    rw [nI_1]
    exact ih _ ⟨_, by omega, rfl, by rw [nIt_s hi1, rdS_app]; exact hR4, tF_t hF2 (tF_t hF3 hF4)⟩
  · rintro X ⟨M2, hi1, rfl, hR2, hF2⟩
    refine xG_run 2 rfl (by repeat' (first | exact trivial | assumption | exact xob_b rfl | exact xal_b rfl | (apply And.intro) | decide)) ?_
    try dsimp only [xsto1, xsto2, xkill, xget, xset, gd_0, gd_s]
    refine xG_brT rfl (Int32.le_refl _) ?_
    refine r2_v rfl rfl ?_
    exact ⟨rfl, hR2, hF2⟩
set_option maxRecDepth 4000 in
theorem e_readStatement {κ : xKK} {d : Nat} {M : xM} {t n p : Nat} {T : Nat → Int32} {sd : Int32} (hC : tC M t n T) (r1 : gI M 127 2 = nI p) (r2 : gI M 127 3 = 0) (r5 : gI M 127 8 = sd) (hs : p ≤ n) (hd : 3 ≤ d) : xE2 κ mX10_readStatement d [.ref 127] M (fun v M' => v = none ∧ tR M' (stS T n p sd) ∧ gI M' 127 5 = nI p ∧ gI M' 127 6 = (if p < n then T p else 0) ∧ tG M M') := by
  refine xE2_of ci_X10_readStatement cl_X10_readStatement cw_X10_readStatement rfl (L := [some (.ref 127)]) rfl ?_
  have hC := hC
  obtain ⟨c1, hn1, hn2, hT, hsh, ht1, ht2⟩ := hC
  have hC : tC M t n T := ⟨c1, hn1, hn2, hT, hsh, ht1, ht2⟩
  have hb5 : ∀ v, xrf (xpr z2.2.1 (sI M 127 5 v) 127 0) = .ref t := fun _ => by show xrf (gP M 127 0) = _; rw [c1]; rfl
  have har : ∀ k, k < n → xar t 0 182 (nI k) := fun k hk => ⟨120, hsh, ht2, by rw [nI_ti (by omega)]; omega, by rw [nI_ti (by omega)]; omega⟩
  have hch : ∀ k, k < n → gI M t (nI k).toNatClampNeg = chr T n k := fun k hk => by rw [nI_cl (by omega), chr_lt hk]; exact hT k hk
  refine xG_run 8 rfl (by repeat' (first | exact trivial | assumption | exact xob_b rfl | exact xal_b rfl | (apply And.intro) | decide)) ?_
  try dsimp only [xsto1, xsto2, xkill, xget, xset, gd_0, gd_s]
  try simp (disch := omega) only [gI_self, g_ne, r1, r2, hn1, nI_1]
  try rw [hc0]
  refine xG_run 1 rfl (by repeat' (first | exact trivial | assumption | exact xob_b rfl | exact xal_b rfl | (apply And.intro) | decide)) ?_
  try dsimp only [xsto1, xsto2, xkill, xget, xset, gd_0, gd_s]
  try simp (disch := omega) only [gI_self, g_ne, r1, r2, hn1, nI_1]
  try rw [hc0]
  refine xG_br rfl (fun h17 => ?_) (fun h17 => ?_)
  · have hge0 : ¬ p < n := fun z => nI_nlt9 z (by omega) h17
    refine xG_run 7 rfl (by repeat' (first | exact trivial | assumption | exact xob_b rfl | exact xal_b rfl | (apply And.intro) | decide)) ?_
    try dsimp only [xsto1, xsto2, xkill, xget, xset, gd_0, gd_s]
    try simp (disch := omega) only [gI_self, g_ne, r1, r2, hn1, nI_1]
    try rw [hc0]
    refine xG_lsw 153 108 rfl (by decide) (by decide) (by decide) ?_
    refine xG_run 3 rfl (by repeat' (first | exact trivial | assumption | exact xob_b rfl | exact xal_b rfl | (apply And.intro) | decide)) ?_
    try dsimp only [xsto1, xsto2, xkill, xget, xset, gd_0, gd_s]
    try simp (disch := omega) only [gI_self, g_ne, r1, r2, hn1, nI_1]
    try rw [hc0]
    generalize hMz : (sI (sI (sI (sI M 127 5 (nI p)) 127 6 0) 127 4 0) 127 3 1 : xM) = Mz
    have hGz : tG M Mz := by rw [← hMz]; exact tG_t (tG_i (by omega)) (tG_t (tG_i (by omega)) (tG_t (tG_i (by omega)) (tG_i (by omega))))
    have hRz : tR Mz (false, p, [], sd) := by rw [← hMz]; exact ⟨by simp (disch := omega) only [g_ne]; exact r1, gI_self _ _ _ _, by simp (disch := omega) only [gI_self, g_ne]; rfl, fun i hi => absurd hi (Nat.not_lt_zero _), by simp (disch := omega) only [g_ne]; exact r5⟩
    have h5z : gI Mz 127 5 = nI p := by rw [← hMz]; simp (disch := omega) only [gI_self, g_ne]
    have h6z : gI Mz 127 6 = 0 := by rw [← hMz]; simp (disch := omega) only [gI_self, g_ne]
    have hCz := tC_G hC hGz
    have hsz : ((false, p, [], sd) : tsT).2.1 ≤ n := hs
    refine xG_run 2 rfl (by repeat' (first | exact trivial | assumption | exact xob_b rfl | exact xal_b rfl | (apply And.intro) | decide)) ?_
    try dsimp only [xsto1, xsto2, xkill, xget, xset, gd_0, gd_s]
    try simp (disch := omega) only [gI_self, g_ne, r1, r2, hn1, nI_1]
    try rw [hc0]
    refine xG_c2 1 rfl (by repeat' (first | exact trivial | assumption | exact xob_b rfl | exact xal_b rfl | (apply And.intro) | decide)) rfl rfl (by decide) cw_X10_expect (d' := d - 1) (e_expect (c := 59) (hC := hCz) (hR := hRz) (by first | exact hsz | omega) (by omega)) (by omega) ?_
    rintro v My ⟨rfl, hRy, hFy⟩
    dsimp only [Option.toList, List.cons_append, List.nil_append]
    have hCy := tC_F hCz hFy
    have hGy := tG_t hGz (tF_G hFy)
    have h5y := (hFy.1 127 5 (Or.inr ⟨rfl, Or.inr (Or.inl rfl)⟩)).trans h5z
    have h6y := (hFy.1 127 6 (Or.inr ⟨rfl, Or.inr (Or.inr rfl)⟩)).trans h6z
    refine r2_v rfl rfl ?_
    refine ⟨rfl, ?_, h5y, ?_, hGy⟩
    · unfold stS
      first
        | (rw [if_pos q112, rdS_app]; exact hRy)
        | (rw [if_neg q112, if_pos q114, rdS_app, rdS_app]; exact hRy)
        | (rw [q102, if_neg (by decide), if_neg (by decide), if_pos rfl, rdS_app]; exact hRy)
        | (rw [if_neg q112, if_neg q114, if_neg q102]; exact hRy)
        | (rw [chr_ge hge0, if_neg (by decide), if_neg (by decide), if_neg (by decide)]; exact hRy)
    · first
        | (rw [if_pos hlt0, ← chr_lt (T := T) hlt0]; exact h6y)
        | (rw [if_neg hge0]; exact h6y)
  · have hlt0 : p < n := nI_lt9 (by omega) (by omega) h17
    have ha0 := har p hlt0
    have hc0 := hch p hlt0
    refine xG_run 2 rfl (by repeat' (first | exact trivial | assumption | exact xob_b rfl | exact xal_b rfl | (apply And.intro) | decide)) ?_
    try dsimp only [xsto1, xsto2, xkill, xget, xset, gd_0, gd_s]
    try simp (disch := omega) only [gI_self, g_ne, r1, r2, hn1, nI_1]
    try rw [hc0]
    rw [hb5]
    refine xG_run 2 rfl (by repeat' (first | exact trivial | assumption | exact xob_b rfl | exact xal_b rfl | (apply And.intro) | decide)) ?_
    try dsimp only [xsto1, xsto2, xkill, xget, xset, gd_0, gd_s]
    try simp (disch := omega) only [gI_self, g_ne, r1, r2, hn1, nI_1]
    try rw [hc0]
    try simp (disch := omega) only [gI_self, g_ne, r1, r2, hn1, nI_1]
    refine xG_run 8 rfl (by repeat' (first | exact trivial | assumption | exact xob_b rfl | exact xal_b rfl | (apply And.intro) | decide)) ?_
    try dsimp only [xsto1, xsto2, xkill, xget, xset, gd_0, gd_s]
    try simp (disch := omega) only [gI_self, g_ne, r1, r2, hn1, nI_1]
    try rw [hc0]
    by_cases q102 : chr T n p = 102
    · refine xG_lsw 136 91 rfl (by decide) (by rw [q102]; decide) (by decide) ?_
      refine xG_run 6 rfl (by repeat' (first | exact trivial | assumption | exact xob_b rfl | exact xal_b rfl | (apply And.intro) | decide)) ?_
      try dsimp only [xsto1, xsto2, xkill, xget, xset, gd_0, gd_s]
      try simp (disch := omega) only [gI_self, g_ne, r1, r2, hn1, nI_1]
      try rw [hc0]
      generalize hMa : (sI (sI (sI (sI M 127 5 (nI p)) 127 6 (chr T n p)) 127 4 0) 127 2 (nI (p + 1)) : xM) = Ma
      have hGa : tG M Ma := by rw [← hMa]; exact tG_t (tG_i (by omega)) (tG_t (tG_i (by omega)) (tG_t (tG_i (by omega)) (tG_i (by omega))))
      have hRa : tR Ma (true, p + 1, [], sd) := by rw [← hMa]; exact ⟨by simp (disch := omega) only [gI_self, g_ne], by simp (disch := omega) only [g_ne]; exact r2, by simp (disch := omega) only [gI_self, g_ne]; rfl, fun i hi => absurd hi (Nat.not_lt_zero _), by simp (disch := omega) only [g_ne]; exact r5⟩
      have h5a : gI Ma 127 5 = nI p := by rw [← hMa]; simp (disch := omega) only [gI_self, g_ne]
      have h6a : gI Ma 127 6 = chr T n p := by rw [← hMa]; simp (disch := omega) only [gI_self, g_ne]
      have hCa := tC_G hC hGa
      refine xG_run 1 rfl (by repeat' (first | exact trivial | assumption | exact xob_b rfl | exact xal_b rfl | (apply And.intro) | decide)) ?_
      try dsimp only [xsto1, xsto2, xkill, xget, xset, gd_0, gd_s]
      try simp (disch := omega) only [gI_self, g_ne, r1, r2, hn1, nI_1]
      try rw [hc0]
      refine xG_c2 0 rfl (by repeat' (first | exact trivial | assumption | exact xob_b rfl | exact xal_b rfl | (apply And.intro) | decide)) rfl rfl (by decide) cw_X10_readNumber (d' := d - 1) (e_readNumber (s := (true, p + 1, [], sd)) (hC := hCa) (hR := hRa) (by show p + 1 ≤ n; omega) (by show 0 < 5; omega) (by omega)) (by omega) ?_
      rintro v Mz ⟨rfl, hRz, hFz⟩
      dsimp only [Option.toList, List.cons_append, List.nil_append]
      have hCz := tC_F hCa hFz
      have hGz := tG_t hGa (tF_G hFz)
      have h5z := (hFz.1 127 5 (Or.inr ⟨rfl, Or.inr (Or.inl rfl)⟩)).trans h5a
      have h6z := (hFz.1 127 6 (Or.inr ⟨rfl, Or.inr (Or.inr rfl)⟩)).trans h6a
      have hsz := rd1_le (T := T) (n := n) (it := 0) (s := (true, p + 1, [], sd)) (by show p + 1 ≤ n; omega) (by omega)
      refine xG_run 1 rfl (by repeat' (first | exact trivial | assumption | exact xob_b rfl | exact xal_b rfl | (apply And.intro) | decide)) ?_
      try dsimp only [xsto1, xsto2, xkill, xget, xset, gd_0, gd_s]
      try simp (disch := omega) only [gI_self, g_ne, r1, r2, hn1, nI_1]
      try rw [hc0]
      skip
      refine xG_run 2 rfl (by repeat' (first | exact trivial | assumption | exact xob_b rfl | exact xal_b rfl | (apply And.intro) | decide)) ?_
      try dsimp only [xsto1, xsto2, xkill, xget, xset, gd_0, gd_s]
      try simp (disch := omega) only [gI_self, g_ne, r1, r2, hn1, nI_1]
      try rw [hc0]
      refine xG_c2 1 rfl (by repeat' (first | exact trivial | assumption | exact xob_b rfl | exact xal_b rfl | (apply And.intro) | decide)) rfl rfl (by decide) cw_X10_expect (d' := d - 1) (e_expect (c := 59) (hC := hCz) (hR := hRz) (by first | exact hsz | omega) (by omega)) (by omega) ?_
      rintro v My ⟨rfl, hRy, hFy⟩
      dsimp only [Option.toList, List.cons_append, List.nil_append]
      have hCy := tC_F hCz hFy
      have hGy := tG_t hGz (tF_G hFy)
      have h5y := (hFy.1 127 5 (Or.inr ⟨rfl, Or.inr (Or.inl rfl)⟩)).trans h5z
      have h6y := (hFy.1 127 6 (Or.inr ⟨rfl, Or.inr (Or.inr rfl)⟩)).trans h6z
      refine r2_v rfl rfl ?_
      refine ⟨rfl, ?_, h5y, ?_, hGy⟩
      · unfold stS
        first
          | (rw [if_pos q112, rdS_app]; exact hRy)
          | (rw [if_neg q112, if_pos q114, rdS_app, rdS_app]; exact hRy)
          | (rw [q102, if_neg (by decide), if_neg (by decide), if_pos rfl, rdS_app]; exact hRy)
          | (rw [if_neg q112, if_neg q114, if_neg q102]; exact hRy)
          | (rw [chr_ge hge0, if_neg (by decide), if_neg (by decide), if_neg (by decide)]; exact hRy)
      · first
          | (rw [if_pos hlt0, ← chr_lt (T := T) hlt0]; exact h6y)
          | (rw [if_neg hge0]; exact h6y)
    by_cases q112 : chr T n p = 112
    · refine xG_lsw 80 35 rfl (by decide) (by rw [q112]; decide) (by decide) ?_
      refine xG_run 6 rfl (by repeat' (first | exact trivial | assumption | exact xob_b rfl | exact xal_b rfl | (apply And.intro) | decide)) ?_
      try dsimp only [xsto1, xsto2, xkill, xget, xset, gd_0, gd_s]
      try simp (disch := omega) only [gI_self, g_ne, r1, r2, hn1, nI_1]
      try rw [hc0]
      generalize hMa : (sI (sI (sI (sI M 127 5 (nI p)) 127 6 (chr T n p)) 127 4 0) 127 2 (nI (p + 1)) : xM) = Ma
      have hGa : tG M Ma := by rw [← hMa]; exact tG_t (tG_i (by omega)) (tG_t (tG_i (by omega)) (tG_t (tG_i (by omega)) (tG_i (by omega))))
      have hRa : tR Ma (true, p + 1, [], sd) := by rw [← hMa]; exact ⟨by simp (disch := omega) only [gI_self, g_ne], by simp (disch := omega) only [g_ne]; exact r2, by simp (disch := omega) only [gI_self, g_ne]; rfl, fun i hi => absurd hi (Nat.not_lt_zero _), by simp (disch := omega) only [g_ne]; exact r5⟩
      have h5a : gI Ma 127 5 = nI p := by rw [← hMa]; simp (disch := omega) only [gI_self, g_ne]
      have h6a : gI Ma 127 6 = chr T n p := by rw [← hMa]; simp (disch := omega) only [gI_self, g_ne]
      have hCa := tC_G hC hGa
      refine xG_run 2 rfl (by repeat' (first | exact trivial | assumption | exact xob_b rfl | exact xal_b rfl | (apply And.intro) | decide)) ?_
      try dsimp only [xsto1, xsto2, xkill, xget, xset, gd_0, gd_s]
      try simp (disch := omega) only [gI_self, g_ne, r1, r2, hn1, nI_1]
      try rw [hc0]
      refine xG_c2 1 rfl (by repeat' (first | exact trivial | assumption | exact xob_b rfl | exact xal_b rfl | (apply And.intro) | decide)) rfl rfl (by decide) cw_X10_readNumbers (d' := d - 1) (e_readNumbers (m := 5) (s := (true, p + 1, [], sd)) (hC := hCa) (hR := hRa) (by show p + 1 ≤ n; omega) (by omega) (by show 0 + 5 ≤ 5; omega) (by omega)) (by omega) ?_
      rintro v Mz ⟨rfl, hRz, hFz⟩
      dsimp only [Option.toList, List.cons_append, List.nil_append]
      have hCz := tC_F hCa hFz
      have hGz := tG_t hGa (tF_G hFz)
      have h5z := (hFz.1 127 5 (Or.inr ⟨rfl, Or.inr (Or.inl rfl)⟩)).trans h5a
      have h6z := (hFz.1 127 6 (Or.inr ⟨rfl, Or.inr (Or.inr rfl)⟩)).trans h6a
      have hsz := rdS_le (T := T) (n := n) (l := nIt 5) (s := (true, p + 1, [], sd)) (by show p + 1 ≤ n; omega) (nIt_le 5)
      refine xG_run 1 rfl (by repeat' (first | exact trivial | assumption | exact xob_b rfl | exact xal_b rfl | (apply And.intro) | decide)) ?_
      try dsimp only [xsto1, xsto2, xkill, xget, xset, gd_0, gd_s]
      try simp (disch := omega) only [gI_self, g_ne, r1, r2, hn1, nI_1]
      try rw [hc0]
      skip
      refine xG_run 2 rfl (by repeat' (first | exact trivial | assumption | exact xob_b rfl | exact xal_b rfl | (apply And.intro) | decide)) ?_
      try dsimp only [xsto1, xsto2, xkill, xget, xset, gd_0, gd_s]
      try simp (disch := omega) only [gI_self, g_ne, r1, r2, hn1, nI_1]
      try rw [hc0]
      refine xG_c2 1 rfl (by repeat' (first | exact trivial | assumption | exact xob_b rfl | exact xal_b rfl | (apply And.intro) | decide)) rfl rfl (by decide) cw_X10_expect (d' := d - 1) (e_expect (c := 59) (hC := hCz) (hR := hRz) (by first | exact hsz | omega) (by omega)) (by omega) ?_
      rintro v My ⟨rfl, hRy, hFy⟩
      dsimp only [Option.toList, List.cons_append, List.nil_append]
      have hCy := tC_F hCz hFy
      have hGy := tG_t hGz (tF_G hFy)
      have h5y := (hFy.1 127 5 (Or.inr ⟨rfl, Or.inr (Or.inl rfl)⟩)).trans h5z
      have h6y := (hFy.1 127 6 (Or.inr ⟨rfl, Or.inr (Or.inr rfl)⟩)).trans h6z
      refine r2_v rfl rfl ?_
      refine ⟨rfl, ?_, h5y, ?_, hGy⟩
      · unfold stS
        first
          | (rw [if_pos q112, rdS_app]; exact hRy)
          | (rw [if_neg q112, if_pos q114, rdS_app, rdS_app]; exact hRy)
          | (rw [q102, if_neg (by decide), if_neg (by decide), if_pos rfl, rdS_app]; exact hRy)
          | (rw [if_neg q112, if_neg q114, if_neg q102]; exact hRy)
          | (rw [chr_ge hge0, if_neg (by decide), if_neg (by decide), if_neg (by decide)]; exact hRy)
      · first
          | (rw [if_pos hlt0, ← chr_lt (T := T) hlt0]; exact h6y)
          | (rw [if_neg hge0]; exact h6y)
    by_cases q114 : chr T n p = 114
    · refine xG_lsw 98 53 rfl (by decide) (by rw [q114]; decide) (by decide) ?_
      refine xG_run 6 rfl (by repeat' (first | exact trivial | assumption | exact xob_b rfl | exact xal_b rfl | (apply And.intro) | decide)) ?_
      try dsimp only [xsto1, xsto2, xkill, xget, xset, gd_0, gd_s]
      try simp (disch := omega) only [gI_self, g_ne, r1, r2, hn1, nI_1]
      try rw [hc0]
      generalize hMa : (sI (sI (sI (sI M 127 5 (nI p)) 127 6 (chr T n p)) 127 4 0) 127 2 (nI (p + 1)) : xM) = Ma
      have hGa : tG M Ma := by rw [← hMa]; exact tG_t (tG_i (by omega)) (tG_t (tG_i (by omega)) (tG_t (tG_i (by omega)) (tG_i (by omega))))
      have hRa : tR Ma (true, p + 1, [], sd) := by rw [← hMa]; exact ⟨by simp (disch := omega) only [gI_self, g_ne], by simp (disch := omega) only [g_ne]; exact r2, by simp (disch := omega) only [gI_self, g_ne]; rfl, fun i hi => absurd hi (Nat.not_lt_zero _), by simp (disch := omega) only [g_ne]; exact r5⟩
      have h5a : gI Ma 127 5 = nI p := by rw [← hMa]; simp (disch := omega) only [gI_self, g_ne]
      have h6a : gI Ma 127 6 = chr T n p := by rw [← hMa]; simp (disch := omega) only [gI_self, g_ne]
      have hCa := tC_G hC hGa
      refine xG_run 1 rfl (by repeat' (first | exact trivial | assumption | exact xob_b rfl | exact xal_b rfl | (apply And.intro) | decide)) ?_
      try dsimp only [xsto1, xsto2, xkill, xget, xset, gd_0, gd_s]
      try simp (disch := omega) only [gI_self, g_ne, r1, r2, hn1, nI_1]
      try rw [hc0]
      refine xG_c2 0 rfl (by repeat' (first | exact trivial | assumption | exact xob_b rfl | exact xal_b rfl | (apply And.intro) | decide)) rfl rfl (by decide) cw_X10_readNumber (d' := d - 1) (e_readNumber (s := (true, p + 1, [], sd)) (hC := hCa) (hR := hRa) (by show p + 1 ≤ n; omega) (by show 0 < 5; omega) (by omega)) (by omega) ?_
      rintro v Mb ⟨rfl, hRb, hFb⟩
      dsimp only [Option.toList, List.cons_append, List.nil_append]
      have hCb := tC_F hCa hFb
      have hGb := tG_t hGa (tF_G hFb)
      have h5b := (hFb.1 127 5 (Or.inr ⟨rfl, Or.inr (Or.inl rfl)⟩)).trans h5a
      have h6b := (hFb.1 127 6 (Or.inr ⟨rfl, Or.inr (Or.inr rfl)⟩)).trans h6a
      have hsb := rd1_le (T := T) (n := n) (it := 0) (s := (true, p + 1, [], sd)) (by show p + 1 ≤ n; omega) (by omega)
      have hlb := rd1_len (T := T) (n := n) (it := 0) (s := (true, p + 1, [], sd))
      refine xG_run 2 rfl (by repeat' (first | exact trivial | assumption | exact xob_b rfl | exact xal_b rfl | (apply And.intro) | decide)) ?_
      try dsimp only [xsto1, xsto2, xkill, xget, xset, gd_0, gd_s]
      try simp (disch := omega) only [gI_self, g_ne, r1, r2, hn1, nI_1]
      try rw [hc0]
      refine xG_c2 1 rfl (by repeat' (first | exact trivial | assumption | exact xob_b rfl | exact xal_b rfl | (apply And.intro) | decide)) rfl rfl (by decide) cw_X10_expect (d' := d - 1) (e_expect (c := 32) (hC := hCb) (hR := hRb) hsb (by omega)) (by omega) ?_
      rintro v Mc ⟨rfl, hRc, hFc⟩
      dsimp only [Option.toList, List.cons_append, List.nil_append]
      have hCc := tC_F hCb hFc
      have hGc := tG_t hGb (tF_G hFc)
      have h5c := (hFc.1 127 5 (Or.inr ⟨rfl, Or.inr (Or.inl rfl)⟩)).trans h5b
      have h6c := (hFc.1 127 6 (Or.inr ⟨rfl, Or.inr (Or.inr rfl)⟩)).trans h6b
      have hsc := rd1_le (T := T) (it := 32) hsb (by omega)
      have hlc := rd1_len (T := T) (n := n) (it := 32) (s := (rd1 T n 0 (true, p + 1, [], sd)))
      refine xG_run 1 rfl (by repeat' (first | exact trivial | assumption | exact xob_b rfl | exact xal_b rfl | (apply And.intro) | decide)) ?_
      try dsimp only [xsto1, xsto2, xkill, xget, xset, gd_0, gd_s]
      try simp (disch := omega) only [gI_self, g_ne, r1, r2, hn1, nI_1]
      try rw [hc0]
      refine xG_c2 0 rfl (by repeat' (first | exact trivial | assumption | exact xob_b rfl | exact xal_b rfl | (apply And.intro) | decide)) rfl rfl (by decide) cw_X10_readSide (d' := d - 1) (e_readSide (hC := hCc) (hR := hRc) hsc) (by omega) ?_
      rintro v Me ⟨rfl, hRe, hFe⟩
      dsimp only [Option.toList, List.cons_append, List.nil_append]
      have hCe := tC_F hCc hFe
      have hGe := tG_t hGc (tF_G hFe)
      have h5e := (hFe.1 127 5 (Or.inr ⟨rfl, Or.inr (Or.inl rfl)⟩)).trans h5c
      have h6e := (hFe.1 127 6 (Or.inr ⟨rfl, Or.inr (Or.inr rfl)⟩)).trans h6c
      have hse := rd1_le (T := T) (it := 1) hsc (by omega)
      have hle := rd1_len (T := T) (n := n) (it := 1) (s := (rd1 T n 32 (rd1 T n 0 (true, p + 1, [], sd))))
      refine xG_run 2 rfl (by repeat' (first | exact trivial | assumption | exact xob_b rfl | exact xal_b rfl | (apply And.intro) | decide)) ?_
      try dsimp only [xsto1, xsto2, xkill, xget, xset, gd_0, gd_s]
      try simp (disch := omega) only [gI_self, g_ne, r1, r2, hn1, nI_1]
      try rw [hc0]
      refine xG_c2 1 rfl (by repeat' (first | exact trivial | assumption | exact xob_b rfl | exact xal_b rfl | (apply And.intro) | decide)) rfl rfl (by decide) cw_X10_expect (d' := d - 1) (e_expect (c := 32) (hC := hCe) (hR := hRe) hse (by omega)) (by omega) ?_
      rintro v Mf ⟨rfl, hRf, hFf⟩
      dsimp only [Option.toList, List.cons_append, List.nil_append]
      have hCf := tC_F hCe hFf
      have hGf := tG_t hGe (tF_G hFf)
      have h5f := (hFf.1 127 5 (Or.inr ⟨rfl, Or.inr (Or.inl rfl)⟩)).trans h5e
      have h6f := (hFf.1 127 6 (Or.inr ⟨rfl, Or.inr (Or.inr rfl)⟩)).trans h6e
      have hsf := rd1_le (T := T) (it := 32) hse (by omega)
      have hlf := rd1_len (T := T) (n := n) (it := 32) (s := (rd1 T n 1 (rd1 T n 32 (rd1 T n 0 (true, p + 1, [], sd)))))
      refine xG_run 2 rfl (by repeat' (first | exact trivial | assumption | exact xob_b rfl | exact xal_b rfl | (apply And.intro) | decide)) ?_
      try dsimp only [xsto1, xsto2, xkill, xget, xset, gd_0, gd_s]
      try simp (disch := omega) only [gI_self, g_ne, r1, r2, hn1, nI_1]
      try rw [hc0]
      refine xG_c2 1 rfl (by repeat' (first | exact trivial | assumption | exact xob_b rfl | exact xal_b rfl | (apply And.intro) | decide)) rfl rfl (by decide) cw_X10_readNumbers (d' := d - 1) (e_readNumbers (m := 3) (hC := hCf) (hR := hRf) hsf (by omega) (by have q0 : (if (0 : Nat) = 0 then 1 else 0) = 1 := rfl; have q1 : (if (32 : Nat) = 0 then 1 else 0) = 0 := rfl; have q2 : (if (1 : Nat) = 0 then 1 else 0) = 0 := rfl; have q3 : ((true, p + 1, [], sd) : tsT).2.2.1.length = 0 := rfl; omega) (by omega)) (by omega) ?_
      rintro v Mz ⟨rfl, hRz, hFz⟩
      dsimp only [Option.toList, List.cons_append, List.nil_append]
      have hCz := tC_F hCf hFz
      have hGz := tG_t hGf (tF_G hFz)
      have h5z := (hFz.1 127 5 (Or.inr ⟨rfl, Or.inr (Or.inl rfl)⟩)).trans h5f
      have h6z := (hFz.1 127 6 (Or.inr ⟨rfl, Or.inr (Or.inr rfl)⟩)).trans h6f
      have hsz := rdS_le (T := T) (n := n) (l := nIt 3) hsf (nIt_le 3)
      refine xG_run 1 rfl (by repeat' (first | exact trivial | assumption | exact xob_b rfl | exact xal_b rfl | (apply And.intro) | decide)) ?_
      try dsimp only [xsto1, xsto2, xkill, xget, xset, gd_0, gd_s]
      try simp (disch := omega) only [gI_self, g_ne, r1, r2, hn1, nI_1]
      try rw [hc0]
      skip
      refine xG_run 2 rfl (by repeat' (first | exact trivial | assumption | exact xob_b rfl | exact xal_b rfl | (apply And.intro) | decide)) ?_
      try dsimp only [xsto1, xsto2, xkill, xget, xset, gd_0, gd_s]
      try simp (disch := omega) only [gI_self, g_ne, r1, r2, hn1, nI_1]
      try rw [hc0]
      refine xG_c2 1 rfl (by repeat' (first | exact trivial | assumption | exact xob_b rfl | exact xal_b rfl | (apply And.intro) | decide)) rfl rfl (by decide) cw_X10_expect (d' := d - 1) (e_expect (c := 59) (hC := hCz) (hR := hRz) (by first | exact hsz | omega) (by omega)) (by omega) ?_
      rintro v My ⟨rfl, hRy, hFy⟩
      dsimp only [Option.toList, List.cons_append, List.nil_append]
      have hCy := tC_F hCz hFy
      have hGy := tG_t hGz (tF_G hFy)
      have h5y := (hFy.1 127 5 (Or.inr ⟨rfl, Or.inr (Or.inl rfl)⟩)).trans h5z
      have h6y := (hFy.1 127 6 (Or.inr ⟨rfl, Or.inr (Or.inr rfl)⟩)).trans h6z
      refine r2_v rfl rfl ?_
      refine ⟨rfl, ?_, h5y, ?_, hGy⟩
      · unfold stS
        first
          | (rw [if_pos q112, rdS_app]; exact hRy)
          | (rw [if_neg q112, if_pos q114, rdS_app, rdS_app]; exact hRy)
          | (rw [q102, if_neg (by decide), if_neg (by decide), if_pos rfl, rdS_app]; exact hRy)
          | (rw [if_neg q112, if_neg q114, if_neg q102]; exact hRy)
          | (rw [chr_ge hge0, if_neg (by decide), if_neg (by decide), if_neg (by decide)]; exact hRy)
      · first
          | (rw [if_pos hlt0, ← chr_lt (T := T) hlt0]; exact h6y)
          | (rw [if_neg hge0]; exact h6y)
    refine xG_lsw 153 108 rfl (by decide) (by have := lv_neT q102 (a := 102) (by decide); have := lv_neT q112 (a := 112) (by decide); have := lv_neT q114 (a := 114) (by decide); rw [Op.lookupswitch.offset_cons, if_neg (by omega), Op.lookupswitch.offset_cons, if_neg (by omega), Op.lookupswitch.offset_cons, if_neg (by omega), Op.lookupswitch.offset_nil]) (by decide) ?_
    refine xG_run 3 rfl (by repeat' (first | exact trivial | assumption | exact xob_b rfl | exact xal_b rfl | (apply And.intro) | decide)) ?_
    try dsimp only [xsto1, xsto2, xkill, xget, xset, gd_0, gd_s]
    try simp (disch := omega) only [gI_self, g_ne, r1, r2, hn1, nI_1]
    try rw [hc0]
    generalize hMz : (sI (sI (sI (sI M 127 5 (nI p)) 127 6 (chr T n p)) 127 4 0) 127 3 1 : xM) = Mz
    have hGz : tG M Mz := by rw [← hMz]; exact tG_t (tG_i (by omega)) (tG_t (tG_i (by omega)) (tG_t (tG_i (by omega)) (tG_i (by omega))))
    have hRz : tR Mz (false, p, [], sd) := by rw [← hMz]; exact ⟨by simp (disch := omega) only [g_ne]; exact r1, gI_self _ _ _ _, by simp (disch := omega) only [gI_self, g_ne]; rfl, fun i hi => absurd hi (Nat.not_lt_zero _), by simp (disch := omega) only [g_ne]; exact r5⟩
    have h5z : gI Mz 127 5 = nI p := by rw [← hMz]; simp (disch := omega) only [gI_self, g_ne]
    have h6z : gI Mz 127 6 = (chr T n p) := by rw [← hMz]; simp (disch := omega) only [gI_self, g_ne]
    have hCz := tC_G hC hGz
    have hsz : ((false, p, [], sd) : tsT).2.1 ≤ n := hs
    refine xG_run 2 rfl (by repeat' (first | exact trivial | assumption | exact xob_b rfl | exact xal_b rfl | (apply And.intro) | decide)) ?_
    try dsimp only [xsto1, xsto2, xkill, xget, xset, gd_0, gd_s]
    try simp (disch := omega) only [gI_self, g_ne, r1, r2, hn1, nI_1]
    try rw [hc0]
    refine xG_c2 1 rfl (by repeat' (first | exact trivial | assumption | exact xob_b rfl | exact xal_b rfl | (apply And.intro) | decide)) rfl rfl (by decide) cw_X10_expect (d' := d - 1) (e_expect (c := 59) (hC := hCz) (hR := hRz) (by first | exact hsz | omega) (by omega)) (by omega) ?_
    rintro v My ⟨rfl, hRy, hFy⟩
    dsimp only [Option.toList, List.cons_append, List.nil_append]
    have hCy := tC_F hCz hFy
    have hGy := tG_t hGz (tF_G hFy)
    have h5y := (hFy.1 127 5 (Or.inr ⟨rfl, Or.inr (Or.inl rfl)⟩)).trans h5z
    have h6y := (hFy.1 127 6 (Or.inr ⟨rfl, Or.inr (Or.inr rfl)⟩)).trans h6z
    refine r2_v rfl rfl ?_
    refine ⟨rfl, ?_, h5y, ?_, hGy⟩
    · unfold stS
      first
        | (rw [if_pos q112, rdS_app]; exact hRy)
        | (rw [if_neg q112, if_pos q114, rdS_app, rdS_app]; exact hRy)
        | (rw [q102, if_neg (by decide), if_neg (by decide), if_pos rfl, rdS_app]; exact hRy)
        | (rw [if_neg q112, if_neg q114, if_neg q102]; exact hRy)
        | (rw [chr_ge hge0, if_neg (by decide), if_neg (by decide), if_neg (by decide)]; exact hRy)
    · first
        | (rw [if_pos hlt0, ← chr_lt (T := T) hlt0]; exact h6y)
        | (rw [if_neg hge0]; exact h6y)
