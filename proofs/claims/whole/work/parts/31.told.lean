/-! ===== told ===== -/
set_option maxRecDepth 4000 in
theorem e_toldOnes {κ : xKK} {d : Nat} {M : xM} {nu : Nat} (hu : gI M 55 3 = nI nu) (hu2 : nu ≤ 12) : xE2 κ mX7_toldOnes d [.ref 55] M (fun v M' => v = some (.int (iSum (fun k => if gI M 70 k = 0 then (0 : Int32) else 1) nu)) ∧ M' = M) := by
  refine xE2_of ci_X7_toldOnes cl_X7_toldOnes cw_X7_toldOnes rfl (L := [some (.ref 55), none, none]) rfl ?_
  refine xG_run 4 rfl (by repeat' (first | exact trivial | assumption | exact xob_b rfl | exact xal_b rfl | (apply And.intro) | decide)) ?_
  try dsimp only [xsto1, xsto2, xkill, xget, xset, gd_0, gd_s]
  refine xG_up (fun j => (4, [some (.ref 55), some (.int (iSum (fun k => if gI M 70 k = 0 then (0 : Int32) else 1) j)), some (.int (nI j))], [], M, z2)) nu ?_ ?_ 0 (Nat.zero_le _)
  · intro j hj ih
    have hj1 : (nI j).toNatClampNeg = j := nI_cl (by omega)
    have hx : xar 70 2 182 (nI j) := xar_n rfl 12 rfl (by omega) (by omega)
    refine xG_run 3 rfl (by repeat' (first | exact trivial | assumption | exact xob_b rfl | exact xal_b rfl | (apply And.intro) | decide)) ?_
    try dsimp only [xsto1, xsto2, xkill, xget, xset, gd_0, gd_s]
    refine xG_brF rfl (by rw [hu]; exact nI_ge hj (by omega)) ?_
    refine xG_run 5 rfl (by repeat' (first | exact trivial | assumption | exact xob_b rfl | exact xal_b rfl | (apply And.intro) | decide)) ?_
    try dsimp only [xsto1, xsto2, xkill, xget, xset, gd_0, gd_s]
    refine xG_br rfl (fun h19 => ?_) (fun h19 => ?_)
    · refine xG_run 5 rfl (by repeat' (first | exact trivial | assumption | exact xob_b rfl | exact xal_b rfl | (apply And.intro) | decide)) ?_
      try dsimp only [xsto1, xsto2, xkill, xget, xset, gd_0, gd_s]
      rw [hj1] at h19
      rw [nI_1, iSum_s (f := (fun k => if gI M 70 k = 0 then (0 : Int32) else 1)) (n := j) (by first | exact if_neg h19 | exact if_pos h19 | exact if_pos (Decidable.not_not.mp h19))]; exact ih
    · refine xG_run 6 rfl (by repeat' (first | exact trivial | assumption | exact xob_b rfl | exact xal_b rfl | (apply And.intro) | decide)) ?_
      try dsimp only [xsto1, xsto2, xkill, xget, xset, gd_0, gd_s]
      rw [hj1] at h19
      rw [nI_1, iSum_s (f := (fun k => if gI M 70 k = 0 then (0 : Int32) else 1)) (n := j) (by first | exact if_neg h19 | exact if_pos h19 | exact if_pos (Decidable.not_not.mp h19))]; exact ih
  · refine xG_run 3 rfl (by repeat' (first | exact trivial | assumption | exact xob_b rfl | exact xal_b rfl | (apply And.intro) | decide)) ?_
    try dsimp only [xsto1, xsto2, xkill, xget, xset, gd_0, gd_s]
    refine xG_brT rfl (by rw [hu]; exact Int32.le_refl _) ?_
    refine xG_run 1 rfl (by repeat' (first | exact trivial | assumption | exact xob_b rfl | exact xal_b rfl | (apply And.intro) | decide)) ?_
    try dsimp only [xsto1, xsto2, xkill, xget, xset, gd_0, gd_s]
    refine r2_i rfl rfl ?_
    exact ⟨rfl, rfl⟩
def cTl (M : xM) (np nr nu : Nat) (w : Int32) : Int32 :=
  if w = 0 then gI M 1 1 else if w = 1 then gI M 1 3 else if w = 2 then iSum (fun j => if gI M (16 + j) 5 = 0 then (1 : Int32) else 0) nr else if w = 3 then iSum (fun j => cW M (6 + j)) np else if w = 4 then iSum (fun j => gI M (6 + j) 6) np else if w = 5 then gI M 1 4 else if w = 6 then gI M 55 3 else if w = 7 then iSum (fun k => if gI M 70 k = 0 then (0 : Int32) else 1) nu else if w = 8 then gI M 1 9 else if w = 9 then gI M 71 3 else -1
set_option maxRecDepth 4000 in
theorem e_x_told {κ : xKK} {d : Nat} {M : xM} {np nr nu : Nat} (hn : gI M 1 1 = nI np) (hn2 : np ≤ 10) (hr : gI M 1 3 = nI nr) (hr2 : nr ≤ 12) (hu : gI M 55 3 = nI nu) (hu2 : nu ≤ 12) {w : Int32} (hd : 2 ≤ d) : xE2 κ mX11_told d [.ref 0, .int w] M (fun v M' => v = some (.int (cTl M np nr nu w)) ∧ M' = M) := by
  refine xE2_of ci_X11_told cl_X11_told cw_X11_told rfl (L := [some (.ref 0), some (.int w)]) rfl ?_
  refine xG_run 1 rfl (by repeat' (first | exact trivial | assumption | exact xob_b rfl | exact xal_b rfl | (apply And.intro) | decide)) ?_
  try dsimp only [xsto1, xsto2, xkill, xget, xset, gd_0, gd_s]
  by_cases q0 : w = 0
  · refine xG_swI 56 0 rfl (by rw [q0]; decide) (by decide) rfl (by decide) ?_
    refine xG_run 3 rfl (by repeat' (first | exact trivial | assumption | exact xob_b rfl | exact xal_b rfl | (apply And.intro) | decide)) ?_
    try dsimp only [xsto1, xsto2, xkill, xget, xset, gd_0, gd_s]
    refine r2_i rfl rfl ?_
    refine ⟨?_, rfl⟩
    simp [cTl, *]
  by_cases q1 : w = 1
  · refine xG_swI 64 1 rfl (by rw [q1]; decide) (by decide) rfl (by decide) ?_
    refine xG_run 3 rfl (by repeat' (first | exact trivial | assumption | exact xob_b rfl | exact xal_b rfl | (apply And.intro) | decide)) ?_
    try dsimp only [xsto1, xsto2, xkill, xget, xset, gd_0, gd_s]
    refine r2_i rfl rfl ?_
    refine ⟨?_, rfl⟩
    simp [cTl, *]
  by_cases q2 : w = 2
  · refine xG_swI 72 2 rfl (by rw [q2]; decide) (by decide) rfl (by decide) ?_
    refine xG_run 2 rfl (by repeat' (first | exact trivial | assumption | exact xob_b rfl | exact xal_b rfl | (apply And.intro) | decide)) ?_
    try dsimp only [xsto1, xsto2, xkill, xget, xset, gd_0, gd_s]
    refine xG_c2 0 rfl (by repeat' (first | exact trivial | assumption | exact xob_b rfl | exact xal_b rfl | (apply And.intro) | decide)) rfl rfl (by decide) cw_X1_wholeRopes (d' := d - 1) (e_wholeRopes hr hr2) (by omega) ?_
    rintro v M' ⟨rfl, hM⟩
    subst M'
    dsimp only [Option.toList, List.cons_append, List.nil_append]
    refine r2_i rfl rfl ?_
    refine ⟨?_, rfl⟩
    simp [cTl, *]
  by_cases q3 : w = 3
  · refine xG_swI 80 3 rfl (by rw [q3]; decide) (by decide) rfl (by decide) ?_
    refine xG_run 2 rfl (by repeat' (first | exact trivial | assumption | exact xob_b rfl | exact xal_b rfl | (apply And.intro) | decide)) ?_
    try dsimp only [xsto1, xsto2, xkill, xget, xset, gd_0, gd_s]
    refine xG_c2 0 rfl (by repeat' (first | exact trivial | assumption | exact xob_b rfl | exact xal_b rfl | (apply And.intro) | decide)) rfl rfl (by decide) cw_X1_allWeight (d' := d - 1) (e_allWeight hn hn2 (by omega)) (by omega) ?_
    rintro v M' ⟨rfl, hM⟩
    subst M'
    dsimp only [Option.toList, List.cons_append, List.nil_append]
    refine r2_i rfl rfl ?_
    refine ⟨?_, rfl⟩
    simp [cTl, *]
  by_cases q4 : w = 4
  · refine xG_swI 88 4 rfl (by rw [q4]; decide) (by decide) rfl (by decide) ?_
    refine xG_run 2 rfl (by repeat' (first | exact trivial | assumption | exact xob_b rfl | exact xal_b rfl | (apply And.intro) | decide)) ?_
    try dsimp only [xsto1, xsto2, xkill, xget, xset, gd_0, gd_s]
    refine xG_c2 0 rfl (by repeat' (first | exact trivial | assumption | exact xob_b rfl | exact xal_b rfl | (apply And.intro) | decide)) rfl rfl (by decide) cw_X1_allIce (d' := d - 1) (e_allIce hn hn2) (by omega) ?_
    rintro v M' ⟨rfl, hM⟩
    subst M'
    dsimp only [Option.toList, List.cons_append, List.nil_append]
    refine r2_i rfl rfl ?_
    refine ⟨?_, rfl⟩
    simp [cTl, *]
  by_cases q5 : w = 5
  · refine xG_swI 96 5 rfl (by rw [q5]; decide) (by decide) rfl (by decide) ?_
    refine xG_run 3 rfl (by repeat' (first | exact trivial | assumption | exact xob_b rfl | exact xal_b rfl | (apply And.intro) | decide)) ?_
    try dsimp only [xsto1, xsto2, xkill, xget, xset, gd_0, gd_s]
    refine r2_i rfl rfl ?_
    refine ⟨?_, rfl⟩
    simp [cTl, *]
  by_cases q6 : w = 6
  · refine xG_swI 104 6 rfl (by rw [q6]; decide) (by decide) rfl (by decide) ?_
    refine xG_run 3 rfl (by repeat' (first | exact trivial | assumption | exact xob_b rfl | exact xal_b rfl | (apply And.intro) | decide)) ?_
    try dsimp only [xsto1, xsto2, xkill, xget, xset, gd_0, gd_s]
    refine r2_i rfl rfl ?_
    refine ⟨?_, rfl⟩
    simp [cTl, *]
  by_cases q7 : w = 7
  · refine xG_swI 112 7 rfl (by rw [q7]; decide) (by decide) rfl (by decide) ?_
    refine xG_run 2 rfl (by repeat' (first | exact trivial | assumption | exact xob_b rfl | exact xal_b rfl | (apply And.intro) | decide)) ?_
    try dsimp only [xsto1, xsto2, xkill, xget, xset, gd_0, gd_s]
    refine xG_c2 0 rfl (by repeat' (first | exact trivial | assumption | exact xob_b rfl | exact xal_b rfl | (apply And.intro) | decide)) rfl rfl (by decide) cw_X7_toldOnes (d' := d - 1) (e_toldOnes hu hu2) (by omega) ?_
    rintro v M' ⟨rfl, hM⟩
    subst M'
    dsimp only [Option.toList, List.cons_append, List.nil_append]
    refine r2_i rfl rfl ?_
    refine ⟨?_, rfl⟩
    simp [cTl, *]
  by_cases q8 : w = 8
  · refine xG_swI 120 8 rfl (by rw [q8]; decide) (by decide) rfl (by decide) ?_
    refine xG_run 3 rfl (by repeat' (first | exact trivial | assumption | exact xob_b rfl | exact xal_b rfl | (apply And.intro) | decide)) ?_
    try dsimp only [xsto1, xsto2, xkill, xget, xset, gd_0, gd_s]
    refine r2_i rfl rfl ?_
    refine ⟨?_, rfl⟩
    simp [cTl, *]
  by_cases q9 : w = 9
  · refine xG_swI 128 9 rfl (by rw [q9]; decide) (by decide) rfl (by decide) ?_
    refine xG_run 3 rfl (by repeat' (first | exact trivial | assumption | exact xob_b rfl | exact xal_b rfl | (apply And.intro) | decide)) ?_
    try dsimp only [xsto1, xsto2, xkill, xget, xset, gd_0, gd_s]
    refine r2_i rfl rfl ?_
    refine ⟨?_, rfl⟩
    simp [cTl, *]
  refine xG_swO 136 rfl (by have := lv_neT q0 (a := 0) (by decide); have := lv_neT q1 (a := 1) (by decide); have := lv_neT q2 (a := 2) (by decide); have := lv_neT q3 (a := 3) (by decide); have := lv_neT q4 (a := 4) (by decide); have := lv_neT q5 (a := 5) (by decide); have := lv_neT q6 (a := 6) (by decide); have := lv_neT q7 (a := 7) (by decide); have := lv_neT q8 (a := 8) (by decide); have := lv_neT q9 (a := 9) (by decide); omega) (by decide) ?_
  refine xG_run 1 rfl (by repeat' (first | exact trivial | assumption | exact xob_b rfl | exact xal_b rfl | (apply And.intro) | decide)) ?_
  try dsimp only [xsto1, xsto2, xkill, xget, xset, gd_0, gd_s]
  refine r2_i rfl rfl ?_
  refine ⟨?_, rfl⟩
  simp [cTl, *]
