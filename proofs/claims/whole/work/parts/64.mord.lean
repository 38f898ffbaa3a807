set_option maxRecDepth 4000 in
theorem e_misSafe {κ : xKK} {d : Nat} {M : xM} {np nr ng : Nat} {C : xM} (hm : mR C 1 M 167 np nr ng) {ml mp : Int32} (hp28 : gI M 166 28 = ml) (hp29 : gI M 166 29 = mp) (hml : ml ≤ 300) (hd : 6 ≤ d) : xE2 κ mX12_isSafe d [.ref 166] M (fun v M' => v = some (.int (if isF M np nr ml mp then 1 else 0)) ∧ M' = M) := by
  refine xE2_of ci_X12_isSafe cl_X12_isSafe cw_X12_isSafe rfl (L := [some (.ref 166), none, none]) rfl ?_
  have hn := hm.2.1.2
  have hn2 := hm.1.1
  have hr := hm.2.2.1.2
  have hr2 := hm.1.2.1
  have hw := rPw hm
  have hh := rQh hm
  have hc44 : (1644 : Int32).toNatClampNeg = 1644 := rfl
  have hs44 : xar 167 0 182 1644 := xar_n (j := 1644) rfl 1651 rfl (by omega) (by omega)
  refine xG_run 1 rfl (by repeat' (first | exact trivial | assumption | exact xob_b rfl | exact xal_b rfl | (apply And.intro) | decide)) ?_
  try dsimp only [xsto1, xsto2, xkill, xget, xset, gd_0, gd_s]
  refine xG_c2 0 rfl (by repeat' (first | exact trivial | assumption | exact xob_b rfl | exact xal_b rfl | (apply And.intro) | decide)) rfl rfl (by decide) cw_X12_standing (d' := d - 1) (e_rstanding hm.2.1.2 hm.1.1 hm.2.2.1.2 hm.1.2.1 (rPw hm) (rQh hm) (by omega)) (by omega) ?_
  rintro v M' ⟨rfl, hM⟩
  subst M'
  dsimp only [Option.toList, List.cons_append, List.nil_append]
  rw [show stN (rAll M np nr) 300 = rSt M np nr from rfl]
  refine xG_run 3 rfl (by repeat' (first | exact trivial | assumption | exact xob_b rfl | exact xal_b rfl | (apply And.intro) | decide)) ?_
  try dsimp only [xsto1, xsto2, xkill, xget, xset, gd_0, gd_s]
  refine xG_br rfl (fun h9 => ?_) (fun h9 => ?_)
  · refine xG_run 1 rfl (by repeat' (first | exact trivial | assumption | exact xob_b rfl | exact xal_b rfl | (apply And.intro) | decide)) ?_
    try dsimp only [xsto1, xsto2, xkill, xget, xset, gd_0, gd_s]
    refine r2_z rfl rfl (by first | decide | assumption) ?_
    refine ⟨?_, rfl⟩
    have hnn : ¬ isF M np nr ml mp := fun q => by
      have h1 := q.1
      rw [show rSt M np nr = 1000 from h9] at h1
      exact absurd (Int32.le_trans h1 hml) (by decide)
    rw [if_neg hnn]
  · refine xG_run 1 rfl (by repeat' (first | exact trivial | assumption | exact xob_b rfl | exact xal_b rfl | (apply And.intro) | decide)) ?_
    try dsimp only [xsto1, xsto2, xkill, xget, xset, gd_0, gd_s]
    refine xG_c2 1 rfl (by repeat' (first | exact trivial | assumption | exact xob_b rfl | exact xal_b rfl | (apply And.intro) | decide)) rfl rfl (by decide) cw_X12_amount (d' := d - 1) e_amount (by omega) ?_
    rintro v M' ⟨rfl, hM⟩
    subst M'
    dsimp only [Option.toList, List.cons_append, List.nil_append]
    refine xG_run 2 rfl (by repeat' (first | exact trivial | assumption | exact xob_b rfl | exact xal_b rfl | (apply And.intro) | decide)) ?_
    try dsimp only [xsto1, xsto2, xkill, xget, xset, gd_0, gd_s]
    refine xG_br rfl (fun h20 => ?_) (fun h20 => ?_)
    · refine xG_run 2 rfl (by repeat' (first | exact trivial | assumption | exact xob_b rfl | exact xal_b rfl | (apply And.intro) | decide)) ?_
      try dsimp only [xsto1, xsto2, xkill, xget, xset, gd_0, gd_s]
      have lp := xG_upP (κ := κ) (m := mX12_isSafe) (r := (d, 0, 0)) (YS := xRet mX12_isSafe false (fun v M' n' => n' = 182 ∧ (v = some (.int (if isF M np nr ml mp then 1 else 0)) ∧ M' = M))) (fun k X => X = (27, [some (.ref 166), some (.int (rSt M np nr)), some (.int (nI k))], [], M, z2) ∧ ∀ i, i < k → rP M i (rSt M np nr) ≤ mp) nr ?_ ?_ 0 (Nat.zero_le _)
      · exact lp _ ⟨rfl, fun i hi => absurd hi (Nat.not_lt_zero _)⟩
      · rintro k X hk ⟨rfl, hok⟩ ih
        refine xG_run 5 rfl (by repeat' (first | exact trivial | assumption | exact xob_b rfl | exact xal_b rfl | (apply And.intro) | decide)) ?_
        try dsimp only [xsto1, xsto2, xkill, xget, xset, gd_0, gd_s]
        try rw [hc44]
        refine xG_brF rfl (by rw [hr]; exact nI_ge hk (by omega)) ?_
        refine xG_run 3 rfl (by repeat' (first | exact trivial | assumption | exact xob_b rfl | exact xal_b rfl | (apply And.intro) | decide)) ?_
        try dsimp only [xsto1, xsto2, xkill, xget, xset, gd_0, gd_s]
        try rw [hc44]
        refine xG_c2 2 rfl (by repeat' (first | exact trivial | assumption | exact xob_b rfl | exact xal_b rfl | (apply And.intro) | decide)) rfl rfl (by decide) cw_X12_pullAt (d' := d - 1) (e_rpull (q := k) (by omega) (hh k hk).1.1 (hh k hk).1.2 (hh k hk).2 (by omega)) (by omega) ?_
        rintro v M' ⟨rfl, hM⟩
        subst M'
        dsimp only [Option.toList, List.cons_append, List.nil_append]
        refine xG_run 2 rfl (by repeat' (first | exact trivial | assumption | exact xob_b rfl | exact xal_b rfl | (apply And.intro) | decide)) ?_
        try dsimp only [xsto1, xsto2, xkill, xget, xset, gd_0, gd_s]
        try rw [hc44]
        refine xG_br rfl (fun h49 => ?_) (fun h49 => ?_)
        · refine xG_run 2 rfl (by repeat' (first | exact trivial | assumption | exact xob_b rfl | exact xal_b rfl | (apply And.intro) | decide)) ?_
          try dsimp only [xsto1, xsto2, xkill, xget, xset, gd_0, gd_s]
          try rw [hc44]
          rw [nI_1]
          refine ih _ ⟨rfl, fun i hi => ?_⟩
          by_cases e : i = k
          · subst e; rw [← hp29]; exact h49
          · exact hok i (by omega)
        · refine xG_run 1 rfl (by repeat' (first | exact trivial | assumption | exact xob_b rfl | exact xal_b rfl | (apply And.intro) | decide)) ?_
          try dsimp only [xsto1, xsto2, xkill, xget, xset, gd_0, gd_s]
          try rw [hc44]
          refine r2_z rfl rfl (by first | decide | assumption) ?_
          refine ⟨?_, rfl⟩
          have hnn : ¬ isF M np nr ml mp := fun q => h49 (by rw [hp29]; exact q.2 k hk)
          rw [if_neg hnn]
      · rintro X ⟨rfl, hok⟩
        refine xG_run 5 rfl (by repeat' (first | exact trivial | assumption | exact xob_b rfl | exact xal_b rfl | (apply And.intro) | decide)) ?_
        try dsimp only [xsto1, xsto2, xkill, xget, xset, gd_0, gd_s]
        try rw [hc44]
        refine xG_brT rfl (by rw [hr]; exact Int32.le_refl _) ?_
        refine xG_run 1 rfl (by repeat' (first | exact trivial | assumption | exact xob_b rfl | exact xal_b rfl | (apply And.intro) | decide)) ?_
        try dsimp only [xsto1, xsto2, xkill, xget, xset, gd_0, gd_s]
        try rw [hc44]
        refine r2_z rfl rfl (by first | decide | assumption) ?_
        refine ⟨?_, rfl⟩
        have hnn : isF M np nr ml mp := ⟨by rw [← hp28]; exact h20, hok⟩
        rw [if_pos hnn]
    · refine xG_run 1 rfl (by repeat' (first | exact trivial | assumption | exact xob_b rfl | exact xal_b rfl | (apply And.intro) | decide)) ?_
      try dsimp only [xsto1, xsto2, xkill, xget, xset, gd_0, gd_s]
      refine r2_z rfl rfl (by first | decide | assumption) ?_
      refine ⟨?_, rfl⟩
      have hnn : ¬ isF M np nr ml mp := fun q => h20 (by rw [hp28]; exact q.1)
      rw [if_neg hnn]
