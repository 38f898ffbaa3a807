/-! ===== image and restore of the reference ===== -/
theorem cpM_0 {M : xM} {a b : Nat} : M = cpM M a b 0 := xM_ext (fun x k => by rw [cpM_g, if_neg (fun q => absurd q.2 (by omega))]) (fun _ _ => rfl) (fun _ _ => rfl)
set_option maxRecDepth 4000 in
theorem e_m_image {κ : xKK} {d : Nat} {M : xM}  : xE2 κ mX12_image d [.ref 166] M (fun v M' => v = some (.int (gI M' 167 1643)) ∧ M' = sI (cpM M 168 167 1651) 166 10 1) := by
  refine xE2_of ci_X12_image cl_X12_image cw_X12_image rfl (L := [some (.ref 166), none]) rfl ?_
  have hs1 : xar 167 0 182 1643 := xar_n (j := 1643) rfl 1651 rfl (by omega) (by omega)
  refine xG_run 2 rfl (by repeat' (first | exact trivial | assumption | exact xob_b rfl | exact xal_b rfl | (apply And.intro) | decide)) ?_
  try dsimp only [xsto1, xsto2, xkill, xget, xset, gd_0, gd_s]
  have e0 : M = cpM M 168 167 0 := cpM_0
  show xG κ mX12_image _ (2, [some (.ref 166), some (.int (nI 0))], [], M, z2) _
  conv => arg 4; rw [e0]
  refine xG_up (fun j => (2, [some (.ref 166), some (.int (nI j))], [], cpM M 168 167 j, z2)) 1651 ?_ ?_ 0 (Nat.zero_le _)
  · intro j hj ih
    have hj1 : (nI j).toNatClampNeg = j := nI_cl (by omega)
    have hsa : xar 168 0 182 (nI j) := xar_n rfl 1651 rfl (by omega) (by omega)
    have hsb : xar 167 0 182 (nI j) := xar_n rfl 1651 rfl (by omega) (by omega)
    refine xG_run 2 rfl (by repeat' (first | exact trivial | assumption | exact xob_b rfl | exact xal_b rfl | (apply And.intro) | decide)) ?_
    try dsimp only [xsto1, xsto2, xkill, xget, xset, gd_0, gd_s]
    refine xG_brF rfl (show ¬ nI 1651 ≤ nI j from nI_ge hj (by omega)) ?_
    refine xG_run 8 rfl (by repeat' (first | exact trivial | assumption | exact xob_b rfl | exact xal_b rfl | (apply And.intro) | decide)) ?_
    try dsimp only [xsto1, xsto2, xkill, xget, xset, gd_0, gd_s]
    refine xG_run 2 rfl (by repeat' (first | exact trivial | assumption | exact xob_b rfl | exact xal_b rfl | (apply And.intro) | decide)) ?_
    try dsimp only [xsto1, xsto2, xkill, xget, xset, gd_0, gd_s]
    simp only [hj1]
    rw [cpM_s (n := j) (n' := j + 1) (by decide) rfl, nI_1]
    exact ih
  · refine xG_run 2 rfl (by repeat' (first | exact trivial | assumption | exact xob_b rfl | exact xal_b rfl | (apply And.intro) | decide)) ?_
    try dsimp only [xsto1, xsto2, xkill, xget, xset, gd_0, gd_s]
    refine xG_brT rfl (show nI 1651 ≤ nI 1651 from Int32.le_refl _) ?_
    refine xG_run 7 rfl (by repeat' (first | exact trivial | assumption | exact xob_b rfl | exact xal_b rfl | (apply And.intro) | decide)) ?_
    try dsimp only [xsto1, xsto2, xkill, xget, xset, gd_0, gd_s]
    refine r2_i rfl rfl ?_
    exact ⟨rfl, rfl⟩
set_option maxRecDepth 4000 in
theorem e_m_restore {κ : xKK} {d : Nat} {M : xM}  : xE2 κ mX12_restore d [.ref 166] M (fun v M' => (¬ gI M 166 10 = 0 ∧ v = some (.int (gI M' 167 1643)) ∧ M' = cpM M 167 168 1651) ∨ (gI M 166 10 = 0 ∧ v = some (.int (-3)) ∧ M' = M)) := by
  refine xE2_of ci_X12_restore cl_X12_restore cw_X12_restore rfl (L := [some (.ref 166), none]) rfl ?_
  have hs1 : xar 167 0 182 1643 := xar_n (j := 1643) rfl 1651 rfl (by omega) (by omega)
  refine xG_run 2 rfl (by repeat' (first | exact trivial | assumption | exact xob_b rfl | exact xal_b rfl | (apply And.intro) | decide)) ?_
  try dsimp only [xsto1, xsto2, xkill, xget, xset, gd_0, gd_s]
  refine xG_br rfl (fun h4 => ?_) (fun h4 => ?_)
  · refine xG_run 2 rfl (by repeat' (first | exact trivial | assumption | exact xob_b rfl | exact xal_b rfl | (apply And.intro) | decide)) ?_
    try dsimp only [xsto1, xsto2, xkill, xget, xset, gd_0, gd_s]
    have e0 : M = cpM M 167 168 0 := cpM_0
    show xG κ mX12_restore _ (12, [some (.ref 166), some (.int (nI 0))], [], M, z2) _
    conv => arg 4; rw [e0]
    refine xG_up (fun j => (12, [some (.ref 166), some (.int (nI j))], [], cpM M 167 168 j, z2)) 1651 ?_ ?_ 0 (Nat.zero_le _)
    · intro j hj ih
      have hj1 : (nI j).toNatClampNeg = j := nI_cl (by omega)
      have hsa : xar 167 0 182 (nI j) := xar_n rfl 1651 rfl (by omega) (by omega)
      have hsb : xar 168 0 182 (nI j) := xar_n rfl 1651 rfl (by omega) (by omega)
      refine xG_run 2 rfl (by repeat' (first | exact trivial | assumption | exact xob_b rfl | exact xal_b rfl | (apply And.intro) | decide)) ?_
      try dsimp only [xsto1, xsto2, xkill, xget, xset, gd_0, gd_s]
      refine xG_brF rfl (show ¬ nI 1651 ≤ nI j from nI_ge hj (by omega)) ?_
      refine xG_run 8 rfl (by repeat' (first | exact trivial | assumption | exact xob_b rfl | exact xal_b rfl | (apply And.intro) | decide)) ?_
      try dsimp only [xsto1, xsto2, xkill, xget, xset, gd_0, gd_s]
      refine xG_run 2 rfl (by repeat' (first | exact trivial | assumption | exact xob_b rfl | exact xal_b rfl | (apply And.intro) | decide)) ?_
      try dsimp only [xsto1, xsto2, xkill, xget, xset, gd_0, gd_s]
      simp only [hj1]
      rw [cpM_s (n := j) (n' := j + 1) (by decide) rfl, nI_1]
      exact ih
    · refine xG_run 2 rfl (by repeat' (first | exact trivial | assumption | exact xob_b rfl | exact xal_b rfl | (apply And.intro) | decide)) ?_
      try dsimp only [xsto1, xsto2, xkill, xget, xset, gd_0, gd_s]
      refine xG_brT rfl (show nI 1651 ≤ nI 1651 from Int32.le_refl _) ?_
      refine xG_run 4 rfl (by repeat' (first | exact trivial | assumption | exact xob_b rfl | exact xal_b rfl | (apply And.intro) | decide)) ?_
      try dsimp only [xsto1, xsto2, xkill, xget, xset, gd_0, gd_s]
      refine r2_i rfl rfl ?_
      exact Or.inl ⟨h4, rfl, rfl⟩
  · refine xG_run 1 rfl (by repeat' (first | exact trivial | assumption | exact xob_b rfl | exact xal_b rfl | (apply And.intro) | decide)) ?_
    try dsimp only [xsto1, xsto2, xkill, xget, xset, gd_0, gd_s]
    refine r2_i rfl rfl ?_
    exact Or.inr ⟨Decidable.not_not.mp h4, rfl, rfl⟩
