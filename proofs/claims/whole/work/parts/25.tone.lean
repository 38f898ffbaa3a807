/-! ===== tone, shedding ===== -/
def tnA (C : Int32 → Int32) (n : Int32) : Int32 := if fF (fun t => decide (n < C (nI t))) 10000 < 10000 then nI (fF (fun t => decide (n < C (nI t))) 10000) else -4
theorem tn_no {C : Int32 → Int32} {n : Int32} {j : Nat} (h : ∀ k, k < j → ¬ n < C (nI k)) (h2 : ¬ n < C (nI j)) : ∀ k, k < j + 1 → ¬ n < C (nI k) := fun k hk => by
  by_cases e : k = j
  · subst e; exact h2
  · exact h k (by omega)
theorem tn_at {C : Int32 → Int32} {n : Int32} {j : Nat} (h : ∀ k, k < j → ¬ n < C (nI k)) (h2 : n < C (nI j)) (hj : j < 10000) : tnA C n = nI j := by
  have e : fF (fun t => decide (n < C (nI t))) 10000 = j := fF_at (fun k hk => decide_eq_false (h k hk)) (decide_eq_true h2) hj
  unfold tnA
  rw [e, if_pos hj]
theorem tn_end {C : Int32 → Int32} {n : Int32} (h : ∀ k, k < 10000 → ¬ n < C (nI k)) : tnA C n = -4 := by
  have e : fF (fun t => decide (n < C (nI t))) 10000 = 10000 := fF_no (fun k hk => decide_eq_false (h k hk))
  unfold tnA
  rw [e, if_neg (by omega)]
theorem tnA_cong {C C' : Int32 → Int32} {n : Int32} (h : ∀ t : Nat, t < 10000 → C (nI t) = C' (nI t)) : tnA C n = tnA C' n := by
  have e : fF (fun t => decide (n < C (nI t))) 10000 = fF (fun t => decide (n < C' (nI t))) 10000 := fF_cong (fun k hk => by rw [h k hk])
  unfold tnA
  rw [e]
set_option maxRecDepth 4000 in
theorem e_leastAbove {κ : xKK} {d : Nat} {M : xM} {np : Nat} (hn : gI M 1 1 = nI np) (hn2 : np ≤ 10) {n : Int32} (hd : 2 ≤ d) : xE2 κ mX1_leastAbove d [.ref 1, .int n] M (fun v M' => v = some (.int (tnA (fun x => cCn M np x np) n)) ∧ M' = M) := by
  refine xE2_of ci_X1_leastAbove cl_X1_leastAbove cw_X1_leastAbove rfl (L := [some (.ref 1), some (.int n), none]) rfl ?_
  refine xG_run 2 rfl (by repeat' (first | exact trivial | assumption | exact xob_b rfl | exact xal_b rfl | (apply And.intro) | decide)) ?_
  try dsimp only [xsto1, xsto2, xkill, xget, xset, gd_0, gd_s]
  have lp := xG_upP (κ := κ) (m := mX1_leastAbove) (r := (d, 0, 0)) (YS := xRet mX1_leastAbove false (fun v M' n' => n' = 182 ∧ (v = some (.int (tnA (fun x => cCn M np x np) n)) ∧ M' = M))) (fun j X => X = (2, [some (.ref 1), some (.int n), some (.int (nI j))], [], M, z2) ∧ ∀ k, k < j → ¬ n < (fun x => cCn M np x np) (nI k)) 10000 ?_ ?_ 0 (by omega)
  · exact lp _ ⟨rfl, fun k hk => absurd hk (by omega)⟩
  · rintro j X hj ⟨rfl, hno⟩ ih
    refine xG_run 2 rfl (by repeat' (first | exact trivial | assumption | exact xob_b rfl | exact xal_b rfl | (apply And.intro) | decide)) ?_
    try dsimp only [xsto1, xsto2, xkill, xget, xset, gd_0, gd_s]
    refine xG_brF rfl (show ¬ nI 9999 < nI j from nI_nlt (by omega) (by omega)) ?_
    refine xG_run 2 rfl (by repeat' (first | exact trivial | assumption | exact xob_b rfl | exact xal_b rfl | (apply And.intro) | decide)) ?_
    try dsimp only [xsto1, xsto2, xkill, xget, xset, gd_0, gd_s]
    refine xG_c2 1 rfl (by repeat' (first | exact trivial | assumption | exact xob_b rfl | exact xal_b rfl | (apply And.intro) | decide)) rfl rfl (by decide) cw_X1_signsBelow (d' := d - 1) (e_signsBelow hn hn2 (x := nI j) (by omega)) (by omega) ?_
    rintro v M' ⟨rfl, hM⟩
    subst M'
    dsimp only [Option.toList, List.cons_append, List.nil_append]
    refine xG_run 1 rfl (by repeat' (first | exact trivial | assumption | exact xob_b rfl | exact xal_b rfl | (apply And.intro) | decide)) ?_
    try dsimp only [xsto1, xsto2, xkill, xget, xset, gd_0, gd_s]
    refine xG_br rfl (fun h15 => ?_) (fun h15 => ?_)
    · refine xG_run 2 rfl (by repeat' (first | exact trivial | assumption | exact xob_b rfl | exact xal_b rfl | (apply And.intro) | decide)) ?_
      try dsimp only [xsto1, xsto2, xkill, xget, xset, gd_0, gd_s]
      exact ih _ ⟨by rw [nI_1], tn_no (C := (fun x => cCn M np x np)) (n := n) (j := j) hno (i_nlt h15)⟩
    · refine xG_run 1 rfl (by repeat' (first | exact trivial | assumption | exact xob_b rfl | exact xal_b rfl | (apply And.intro) | decide)) ?_
      try dsimp only [xsto1, xsto2, xkill, xget, xset, gd_0, gd_s]
      refine r2_i rfl rfl ?_
      exact ⟨by rw [tn_at (C := (fun x => cCn M np x np)) (n := n) (j := j) hno (i_nle h15) hj], rfl⟩
  · rintro X ⟨rfl, hno⟩
    refine xG_run 2 rfl (by repeat' (first | exact trivial | assumption | exact xob_b rfl | exact xal_b rfl | (apply And.intro) | decide)) ?_
    try dsimp only [xsto1, xsto2, xkill, xget, xset, gd_0, gd_s]
    refine xG_brT rfl (show nI 9999 < nI 10000 from nI_lt (by omega) (by omega)) ?_
    refine xG_run 1 rfl (by repeat' (first | exact trivial | assumption | exact xob_b rfl | exact xal_b rfl | (apply And.intro) | decide)) ?_
    try dsimp only [xsto1, xsto2, xkill, xget, xset, gd_0, gd_s]
    refine r2_i rfl rfl ?_
    exact ⟨by rw [tn_end (C := (fun x => cCn M np x np)) (n := n) hno], rfl⟩
set_option maxRecDepth 4000 in
theorem e_toneOf {κ : xKK} {d : Nat} {M : xM} {np : Nat} (hn : gI M 167 1643 = nI np) (hn2 : np ≤ 10) {n : Int32} (hd : 3 ≤ d) : xE2 κ mX12_toneOf d [.ref 166, .int n] M (fun v M' => v = some (.int (tnA (fun x => rCn M np x np) n)) ∧ M' = M) := by
  refine xE2_of ci_X12_toneOf cl_X12_toneOf cw_X12_toneOf rfl (L := [some (.ref 166), some (.int n), none]) rfl ?_
  refine xG_run 2 rfl (by repeat' (first | exact trivial | assumption | exact xob_b rfl | exact xal_b rfl | (apply And.intro) | decide)) ?_
  try dsimp only [xsto1, xsto2, xkill, xget, xset, gd_0, gd_s]
  have lp := xG_upP (κ := κ) (m := mX12_toneOf) (r := (d, 0, 0)) (YS := xRet mX12_toneOf false (fun v M' n' => n' = 182 ∧ (v = some (.int (tnA (fun x => rCn M np x np) n)) ∧ M' = M))) (fun j X => X = (2, [some (.ref 166), some (.int n), some (.int (nI j))], [], M, z2) ∧ ∀ k, k < j → ¬ n < (fun x => rCn M np x np) (nI k)) 10000 ?_ ?_ 0 (by omega)
  · exact lp _ ⟨rfl, fun k hk => absurd hk (by omega)⟩
  · rintro j X hj ⟨rfl, hno⟩ ih
    refine xG_run 2 rfl (by repeat' (first | exact trivial | assumption | exact xob_b rfl | exact xal_b rfl | (apply And.intro) | decide)) ?_
    try dsimp only [xsto1, xsto2, xkill, xget, xset, gd_0, gd_s]
    refine xG_brF rfl (show ¬ nI 10000 ≤ nI j from nI_ge hj (by omega)) ?_
    refine xG_run 2 rfl (by repeat' (first | exact trivial | assumption | exact xob_b rfl | exact xal_b rfl | (apply And.intro) | decide)) ?_
    try dsimp only [xsto1, xsto2, xkill, xget, xset, gd_0, gd_s]
    refine xG_c2 1 rfl (by repeat' (first | exact trivial | assumption | exact xob_b rfl | exact xal_b rfl | (apply And.intro) | decide)) rfl rfl (by decide) cw_X12_countOf (d' := d - 1) (e_rcountOf hn hn2 (x := nI j) (by omega)) (by omega) ?_
    rintro v M' ⟨rfl, hM⟩
    subst M'
    dsimp only [Option.toList, List.cons_append, List.nil_append]
    refine xG_run 1 rfl (by repeat' (first | exact trivial | assumption | exact xob_b rfl | exact xal_b rfl | (apply And.intro) | decide)) ?_
    try dsimp only [xsto1, xsto2, xkill, xget, xset, gd_0, gd_s]
    refine xG_br rfl (fun h15 => ?_) (fun h15 => ?_)
    · refine xG_run 2 rfl (by repeat' (first | exact trivial | assumption | exact xob_b rfl | exact xal_b rfl | (apply And.intro) | decide)) ?_
      try dsimp only [xsto1, xsto2, xkill, xget, xset, gd_0, gd_s]
      exact ih _ ⟨by rw [nI_1], tn_no (C := (fun x => rCn M np x np)) (n := n) (j := j) hno (i_nlt h15)⟩
    · refine xG_run 1 rfl (by repeat' (first | exact trivial | assumption | exact xob_b rfl | exact xal_b rfl | (apply And.intro) | decide)) ?_
      try dsimp only [xsto1, xsto2, xkill, xget, xset, gd_0, gd_s]
      refine r2_i rfl rfl ?_
      exact ⟨by rw [tn_at (C := (fun x => rCn M np x np)) (n := n) (j := j) hno (i_nle h15) hj], rfl⟩
  · rintro X ⟨rfl, hno⟩
    refine xG_run 2 rfl (by repeat' (first | exact trivial | assumption | exact xob_b rfl | exact xal_b rfl | (apply And.intro) | decide)) ?_
    try dsimp only [xsto1, xsto2, xkill, xget, xset, gd_0, gd_s]
    refine xG_brT rfl (show nI 10000 ≤ nI 10000 from Int32.le_refl _) ?_
    refine xG_run 1 rfl (by repeat' (first | exact trivial | assumption | exact xob_b rfl | exact xal_b rfl | (apply And.intro) | decide)) ?_
    try dsimp only [xsto1, xsto2, xkill, xget, xset, gd_0, gd_s]
    refine r2_i rfl rfl ?_
    exact ⟨by rw [tn_end (C := (fun x => rCn M np x np)) (n := n) hno], rfl⟩
set_option maxRecDepth 4000 in
theorem e_x_tone {κ : xKK} {d : Nat} {M : xM} {np : Nat} (hn : gI M 1 1 = nI np) (hn2 : np ≤ 10) {n : Int32} (hd : 3 ≤ d) : xE2 κ mX11_tone d [.ref 0, .int n] M (fun v M' => v = some (.int (if 0 ≤ n ∧ n ≤ 9 then tnA (fun x => cCn M np x np) n else -1)) ∧ M' = M) := by
  refine xE2_of ci_X11_tone cl_X11_tone cw_X11_tone rfl (L := [some (.ref 0), some (.int n)]) rfl ?_
  refine xG_run 1 rfl (by repeat' (first | exact trivial | assumption | exact xob_b rfl | exact xal_b rfl | (apply And.intro) | decide)) ?_
  try dsimp only [xsto1, xsto2, xkill, xget, xset, gd_0, gd_s]
  refine xG_br rfl (fun h1 => ?_) (fun h1 => ?_)
  · refine xG_run 2 rfl (by repeat' (first | exact trivial | assumption | exact xob_b rfl | exact xal_b rfl | (apply And.intro) | decide)) ?_
    try dsimp only [xsto1, xsto2, xkill, xget, xset, gd_0, gd_s]
    refine r2_i rfl rfl ?_
    refine ⟨?_, rfl⟩
    first
      | rw [if_pos (show 0 ≤ n ∧ n ≤ 9 from ⟨Int32.not_lt.mp h1, h7⟩)]
      | rw [if_neg (show ¬ (0 ≤ n ∧ n ≤ 9) from fun q => i_nlt q.1 h1)]
      | rw [if_neg (show ¬ (0 ≤ n ∧ n ≤ 9) from fun q => h7 q.2)]
  · refine xG_run 2 rfl (by repeat' (first | exact trivial | assumption | exact xob_b rfl | exact xal_b rfl | (apply And.intro) | decide)) ?_
    try dsimp only [xsto1, xsto2, xkill, xget, xset, gd_0, gd_s]
    refine xG_br rfl (fun h7 => ?_) (fun h7 => ?_)
    · refine xG_run 3 rfl (by repeat' (first | exact trivial | assumption | exact xob_b rfl | exact xal_b rfl | (apply And.intro) | decide)) ?_
      try dsimp only [xsto1, xsto2, xkill, xget, xset, gd_0, gd_s]
      refine xG_c2 1 rfl (by repeat' (first | exact trivial | assumption | exact xob_b rfl | exact xal_b rfl | (apply And.intro) | decide)) rfl rfl (by decide) cw_X1_leastAbove (d' := d - 1) (e_leastAbove hn hn2 (by omega)) (by omega) ?_
      rintro v M' ⟨rfl, hM⟩
      subst M'
      dsimp only [Option.toList, List.cons_append, List.nil_append]
      refine r2_i rfl rfl ?_
      refine ⟨?_, rfl⟩
      first
        | rw [if_pos (show 0 ≤ n ∧ n ≤ 9 from ⟨Int32.not_lt.mp h1, h7⟩)]
        | rw [if_neg (show ¬ (0 ≤ n ∧ n ≤ 9) from fun q => i_nlt q.1 h1)]
        | rw [if_neg (show ¬ (0 ≤ n ∧ n ≤ 9) from fun q => h7 q.2)]
    · refine xG_run 2 rfl (by repeat' (first | exact trivial | assumption | exact xob_b rfl | exact xal_b rfl | (apply And.intro) | decide)) ?_
      try dsimp only [xsto1, xsto2, xkill, xget, xset, gd_0, gd_s]
      refine r2_i rfl rfl ?_
      refine ⟨?_, rfl⟩
      first
        | rw [if_pos (show 0 ≤ n ∧ n ≤ 9 from ⟨Int32.not_lt.mp h1, h7⟩)]
        | rw [if_neg (show ¬ (0 ≤ n ∧ n ≤ 9) from fun q => i_nlt q.1 h1)]
        | rw [if_neg (show ¬ (0 ≤ n ∧ n ≤ 9) from fun q => h7 q.2)]
set_option maxRecDepth 4000 in
theorem e_x_count {κ : xKK} {d : Nat} {M : xM} {np : Nat} (hn : gI M 1 1 = nI np) (hn2 : np ≤ 10) {x : Int32} (hd : 2 ≤ d) : xE2 κ mX11_count d [.ref 0, .int x] M (fun v M' => v = some (.int (if 0 ≤ x ∧ x ≤ 9999 then cCn M np x np else -1)) ∧ M' = M) := by
  refine xE2_of ci_X11_count cl_X11_count cw_X11_count rfl (L := [some (.ref 0), some (.int x)]) rfl ?_
  refine xG_run 1 rfl (by repeat' (first | exact trivial | assumption | exact xob_b rfl | exact xal_b rfl | (apply And.intro) | decide)) ?_
  try dsimp only [xsto1, xsto2, xkill, xget, xset, gd_0, gd_s]
  refine xG_br rfl (fun h1 => ?_) (fun h1 => ?_)
  · refine xG_run 2 rfl (by repeat' (first | exact trivial | assumption | exact xob_b rfl | exact xal_b rfl | (apply And.intro) | decide)) ?_
    try dsimp only [xsto1, xsto2, xkill, xget, xset, gd_0, gd_s]
    refine r2_i rfl rfl ?_
    refine ⟨?_, rfl⟩
    first
      | rw [if_pos (show 0 ≤ x ∧ x ≤ 9999 from ⟨Int32.not_lt.mp h1, h8⟩)]
      | rw [if_neg (show ¬ (0 ≤ x ∧ x ≤ 9999) from fun q => i_nlt q.1 h1)]
      | rw [if_neg (show ¬ (0 ≤ x ∧ x ≤ 9999) from fun q => h8 q.2)]
  · refine xG_run 2 rfl (by repeat' (first | exact trivial | assumption | exact xob_b rfl | exact xal_b rfl | (apply And.intro) | decide)) ?_
    try dsimp only [xsto1, xsto2, xkill, xget, xset, gd_0, gd_s]
    refine xG_br rfl (fun h8 => ?_) (fun h8 => ?_)
    · refine xG_run 3 rfl (by repeat' (first | exact trivial | assumption | exact xob_b rfl | exact xal_b rfl | (apply And.intro) | decide)) ?_
      try dsimp only [xsto1, xsto2, xkill, xget, xset, gd_0, gd_s]
      refine xG_c2 1 rfl (by repeat' (first | exact trivial | assumption | exact xob_b rfl | exact xal_b rfl | (apply And.intro) | decide)) rfl rfl (by decide) cw_X1_signsBelow (d' := d - 1) (e_signsBelow hn hn2 (by omega)) (by omega) ?_
      rintro v M' ⟨rfl, hM⟩
      subst M'
      dsimp only [Option.toList, List.cons_append, List.nil_append]
      refine r2_i rfl rfl ?_
      refine ⟨?_, rfl⟩
      first
        | rw [if_pos (show 0 ≤ x ∧ x ≤ 9999 from ⟨Int32.not_lt.mp h1, h8⟩)]
        | rw [if_neg (show ¬ (0 ≤ x ∧ x ≤ 9999) from fun q => i_nlt q.1 h1)]
        | rw [if_neg (show ¬ (0 ≤ x ∧ x ≤ 9999) from fun q => h8 q.2)]
    · refine xG_run 2 rfl (by repeat' (first | exact trivial | assumption | exact xob_b rfl | exact xal_b rfl | (apply And.intro) | decide)) ?_
      try dsimp only [xsto1, xsto2, xkill, xget, xset, gd_0, gd_s]
      refine r2_i rfl rfl ?_
      refine ⟨?_, rfl⟩
      first
        | rw [if_pos (show 0 ≤ x ∧ x ≤ 9999 from ⟨Int32.not_lt.mp h1, h8⟩)]
        | rw [if_neg (show ¬ (0 ≤ x ∧ x ≤ 9999) from fun q => i_nlt q.1 h1)]
        | rw [if_neg (show ¬ (0 ≤ x ∧ x ≤ 9999) from fun q => h8 q.2)]
set_option maxRecDepth 4000 in
theorem e_m_tone {κ : xKK} {d : Nat} {M : xM} {np : Nat} (hn : gI M 167 1643 = nI np) (hn2 : np ≤ 10) {n : Int32} (hd : 4 ≤ d) : xE2 κ mX12_tone d [.ref 166, .int n] M (fun v M' => v = some (.int (if 0 ≤ n ∧ n ≤ 9 then tnA (fun x => rCn M np x np) n else -1)) ∧ M' = M) := by
  refine xE2_of ci_X12_tone cl_X12_tone cw_X12_tone rfl (L := [some (.ref 166), some (.int n)]) rfl ?_
  refine xG_run 4 rfl (by repeat' (first | exact trivial | assumption | exact xob_b rfl | exact xal_b rfl | (apply And.intro) | decide)) ?_
  try dsimp only [xsto1, xsto2, xkill, xget, xset, gd_0, gd_s]
  refine xG_c2 3 rfl (by repeat' (first | exact trivial | assumption | exact xob_b rfl | exact xal_b rfl | (apply And.intro) | decide)) rfl rfl (by decide) cw_X12_isIn (d' := d - 1) (e_isIn (c := 0 ≤ n ∧ n ≤ 9) (in32 rfl rfl)) (by omega) ?_
  rintro v M' ⟨rfl, hM⟩
  subst M'
  dsimp only [Option.toList, List.cons_append, List.nil_append]
  refine xG_br rfl (fun h9 => ?_) (fun h9 => ?_)
  · have b9 := z0.mp h9
    refine xG_run 1 rfl (by repeat' (first | exact trivial | assumption | exact xob_b rfl | exact xal_b rfl | (apply And.intro) | decide)) ?_
    try dsimp only [xsto1, xsto2, xkill, xget, xset, gd_0, gd_s]
    refine r2_i rfl rfl ?_
    refine ⟨?_, rfl⟩
    first
      | rw [if_pos b9]
      | rw [if_neg b9]
  · have b9 := z1.mp h9
    refine xG_run 2 rfl (by repeat' (first | exact trivial | assumption | exact xob_b rfl | exact xal_b rfl | (apply And.intro) | decide)) ?_
    try dsimp only [xsto1, xsto2, xkill, xget, xset, gd_0, gd_s]
    refine xG_c2 1 rfl (by repeat' (first | exact trivial | assumption | exact xob_b rfl | exact xal_b rfl | (apply And.intro) | decide)) rfl rfl (by decide) cw_X12_toneOf (d' := d - 1) (e_toneOf hn hn2 (by omega)) (by omega) ?_
    rintro v M' ⟨rfl, hM⟩
    subst M'
    dsimp only [Option.toList, List.cons_append, List.nil_append]
    refine xG_run 1 rfl (by repeat' (first | exact trivial | assumption | exact xob_b rfl | exact xal_b rfl | (apply And.intro) | decide)) ?_
    try dsimp only [xsto1, xsto2, xkill, xget, xset, gd_0, gd_s]
    refine r2_i rfl rfl ?_
    refine ⟨?_, rfl⟩
    first
      | rw [if_pos b9]
      | rw [if_neg b9]
set_option maxRecDepth 4000 in
theorem e_m_count {κ : xKK} {d : Nat} {M : xM} {np : Nat} (hn : gI M 167 1643 = nI np) (hn2 : np ≤ 10) {x : Int32} (hd : 3 ≤ d) : xE2 κ mX12_count d [.ref 166, .int x] M (fun v M' => v = some (.int (if 0 ≤ x ∧ x ≤ 9999 then rCn M np x np else -1)) ∧ M' = M) := by
  refine xE2_of ci_X12_count cl_X12_count cw_X12_count rfl (L := [some (.ref 166), some (.int x)]) rfl ?_
  refine xG_run 4 rfl (by repeat' (first | exact trivial | assumption | exact xob_b rfl | exact xal_b rfl | (apply And.intro) | decide)) ?_
  try dsimp only [xsto1, xsto2, xkill, xget, xset, gd_0, gd_s]
  refine xG_c2 3 rfl (by repeat' (first | exact trivial | assumption | exact xob_b rfl | exact xal_b rfl | (apply And.intro) | decide)) rfl rfl (by decide) cw_X12_isIn (d' := d - 1) (e_isIn (c := 0 ≤ x ∧ x ≤ 9999) (in32 rfl rfl)) (by omega) ?_
  rintro v M' ⟨rfl, hM⟩
  subst M'
  dsimp only [Option.toList, List.cons_append, List.nil_append]
  refine xG_br rfl (fun h9 => ?_) (fun h9 => ?_)
  · have b9 := z0.mp h9
    refine xG_run 1 rfl (by repeat' (first | exact trivial | assumption | exact xob_b rfl | exact xal_b rfl | (apply And.intro) | decide)) ?_
    try dsimp only [xsto1, xsto2, xkill, xget, xset, gd_0, gd_s]
    refine r2_i rfl rfl ?_
    refine ⟨?_, rfl⟩
    first
      | rw [if_pos b9]
      | rw [if_neg b9]
  · have b9 := z1.mp h9
    refine xG_run 2 rfl (by repeat' (first | exact trivial | assumption | exact xob_b rfl | exact xal_b rfl | (apply And.intro) | decide)) ?_
    try dsimp only [xsto1, xsto2, xkill, xget, xset, gd_0, gd_s]
    refine xG_c2 1 rfl (by repeat' (first | exact trivial | assumption | exact xob_b rfl | exact xal_b rfl | (apply And.intro) | decide)) rfl rfl (by decide) cw_X12_countOf (d' := d - 1) (e_rcountOf hn hn2 (by omega)) (by omega) ?_
    rintro v M' ⟨rfl, hM⟩
    subst M'
    dsimp only [Option.toList, List.cons_append, List.nil_append]
    refine xG_run 1 rfl (by repeat' (first | exact trivial | assumption | exact xob_b rfl | exact xal_b rfl | (apply And.intro) | decide)) ?_
    try dsimp only [xsto1, xsto2, xkill, xget, xset, gd_0, gd_s]
    refine r2_i rfl rfl ?_
    refine ⟨?_, rfl⟩
    first
      | rw [if_pos b9]
      | rw [if_neg b9]
