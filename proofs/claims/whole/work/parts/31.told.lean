/-! ===== told ===== -/
set_option maxRecDepth 4000 in
theorem e_toldOnes {κ : xKK} {d : Nat} {M : xM} {nu : Nat} (hu : gI M 55 3 = nI nu) (hu2 : nu ≤ 12) : xE2 κ mX7_toldOnes d [.ref 55] M (fun v M' => v = some (.int (iSum (fun k => if gI M 70 k = 0 then (0 : Int32) else 1) nu)) ∧ M' = M) := by
  refine xE2_of ci_X7_toldOnes cl_X7_toldOnes cw_X7_toldOnes rfl (L := [some (.ref 55), none, none]) rfl ?_
  refine xG_run 4 rfl (by repeat' (first | exact trivial | assumption | exact xob_b rfl | exact xal_b rfl | (apply And.intro) | decide)) ?_
  try dsimp only [xsto1, xsto2, xkill, xget, xset, gd_0, gd_s]
  refine xG_up (fun j => (4, [some (.ref 55), some (.int (iSum (fun k => if gI M 70 k = 0 then (0 : Int32) else 1) j)), some (.int (nI j))], [], M, z2)) nu ?_ ?_ 0 (Nat.zero_le _)
  · intro j hj ih
    have hj1 : (nI j).toNatClampNeg = j := nI_cl (by omega)
    have hx : xar 70 2 182 (nI j) := xar_n rfl 12 rfl (by omega) (by omega)
    refine xG_run 3 rfl (by repeat' (first | exact trivial | assumption | exact xob_b rfl | exact xal_b rfl | (apply And.intro) | decide)) ?_
    try dsimp only [xsto1, xsto2, xkill, xget, xset, gd_0, gd_s]
    refine xG_brF rfl (by rw [hu]; exact nI_ge hj (by omega)) ?_
    refine xG_run 5 rfl (by repeat' (first | exact trivial | assumption | exact xob_b rfl | exact xal_b rfl | (apply And.intro) | decide)) ?_
    try dsimp only [xsto1, xsto2, xkill, xget, xset, gd_0, gd_s]
    refine xG_br rfl (fun h19 => ?_) (fun h19 => ?_)
    · refine xG_run 5 rfl (by repeat' (first | exact trivial | assumption | exact xob_b rfl | exact xal_b rfl | (apply And.intro) | decide)) ?_
      try dsimp only [xsto1, xsto2, xkill, xget, xset, gd_0, gd_s]
      rw [hj1] at h19
      rw [nI_1, iSum_s (f := (fun k => if gI M 70 k = 0 then (0 : Int32) else 1)) (n := j) (by first | exact if_neg h19 | exact if_pos h19 | exact if_pos (Decidable.not_not.mp h19))]; exact ih
    · refine xG_run 6 rfl (by repeat' (first | exact trivial | assumption | exact xob_b rfl | exact xal_b rfl | (apply And.intro) | decide)) ?_
      try dsimp only [xsto1, xsto2, xkill, xget, xset, gd_0, gd_s]
      rw [hj1] at h19
      rw [nI_1, iSum_s (f := (fun k => if gI M 70 k = 0 then (0 : Int32) else 1)) (n := j) (by first | exact if_neg h19 | exact if_pos h19 | exact if_pos (Decidable.not_not.mp h19))]; exact ih
  · refine xG_run 3 rfl (by repeat' (first | exact trivial | assumption | exact xob_b rfl | exact xal_b rfl | (apply And.intro) | decide)) ?_
    try dsimp only [xsto1, xsto2, xkill, xget, xset, gd_0, gd_s]
    refine xG_brT rfl (by rw [hu]; exact Int32.le_refl _) ?_
    refine xG_run 1 rfl (by repeat' (first | exact trivial | assumption | exact xob_b rfl | exact xal_b rfl | (apply And.intro) | decide)) ?_
    try dsimp only [xsto1, xsto2, xkill, xget, xset, gd_0, gd_s]
    refine r2_i rfl rfl ?_
    exact ⟨rfl, rfl⟩
