/-! ===== told of the reference ===== -/
def rTl (M : xM) (np nr nu : Nat) (w : Int32) : Int32 :=
  if w = 0 then gI M 167 1643 else if w = 1 then gI M 167 1644 else if w = 2 then iSum (fun j => if rr M j 5 = 0 then (1 : Int32) else 0) nr else if w = 3 ∨ w = 4 then iSum (fun p => if w = 3 then rW M p else rs M p 5) np else if w = 5 then gI M 167 1650 else if w = 6 then gI M 167 1646 else if w = 7 then iSum (fun k => gI M 167 (179 + 122 * k)) nu else if w = 8 then gI M 167 1645 else if w = 9 then gI M 167 1647 else -1
set_option maxRecDepth 4000 in
theorem e_m_told {κ : xKK} {d : Nat} {M : xM} {np nr nu : Nat} (hn : gI M 167 1643 = nI np) (hn2 : np ≤ 10) (hr : gI M 167 1644 = nI nr) (hr2 : nr ≤ 12) (hu : gI M 167 1646 = nI nu) (hu2 : nu ≤ 12) {w : Int32} (hd : 2 ≤ d) : xE2 κ mX12_told d [.ref 166, .int w] M (fun v M' => v = some (.int (rTl M np nr nu w)) ∧ M' = M) := by
  refine xE2_of ci_X12_told cl_X12_told cw_X12_told rfl (L := [some (.ref 166), some (.int w), none, none]) rfl ?_
  have hs1643 : xar 167 0 182 1643 := xar_n (j := 1643) rfl 1651 rfl (by omega) (by omega)
  have hs1644 : xar 167 0 182 1644 := xar_n (j := 1644) rfl 1651 rfl (by omega) (by omega)
  have hs1645 : xar 167 0 182 1645 := xar_n (j := 1645) rfl 1651 rfl (by omega) (by omega)
  have hs1646 : xar 167 0 182 1646 := xar_n (j := 1646) rfl 1651 rfl (by omega) (by omega)
  have hs1647 : xar 167 0 182 1647 := xar_n (j := 1647) rfl 1651 rfl (by omega) (by omega)
  have hs1650 : xar 167 0 182 1650 := xar_n (j := 1650) rfl 1651 rfl (by omega) (by omega)
  have hnr : gI M 167 (1644 : Int32).toNatClampNeg = nI nr := hr
  have hnp : gI M 167 (1643 : Int32).toNatClampNeg = nI np := hn
  have hnu : gI M 167 (1646 : Int32).toNatClampNeg = nI nu := hu
  refine xG_run 3 rfl (by repeat' (first | exact trivial | assumption | exact xob_b rfl | exact xal_b rfl | (apply And.intro) | decide)) ?_
  try dsimp only [xsto1, xsto2, xkill, xget, xset, gd_0, gd_s]
  by_cases q0 : w = 0
  · refine xG_swI 56 0 rfl (by rw [q0]; decide) (by decide) rfl (by decide) ?_
    refine xG_run 4 rfl (by repeat' (first | exact trivial | assumption | exact xob_b rfl | exact xal_b rfl | (apply And.intro) | decide)) ?_
    try dsimp only [xsto1, xsto2, xkill, xget, xset, gd_0, gd_s]
    refine r2_i rfl rfl ?_
    refine ⟨?_, rfl⟩
    simp [rTl, *]
    try rfl
  by_cases q1 : w = 1
  · refine xG_swI 65 1 rfl (by rw [q1]; decide) (by decide) rfl (by decide) ?_
    refine xG_run 4 rfl (by repeat' (first | exact trivial | assumption | exact xob_b rfl | exact xal_b rfl | (apply And.intro) | decide)) ?_
    try dsimp only [xsto1, xsto2, xkill, xget, xset, gd_0, gd_s]
    refine r2_i rfl rfl ?_
    refine ⟨?_, rfl⟩
    simp [rTl, *]
    try rfl
  by_cases q2 : w = 2
  · refine xG_swI 74 2 rfl (by rw [q2]; decide) (by decide) rfl (by decide) ?_
    refine xG_run 2 rfl (by repeat' (first | exact trivial | assumption | exact xob_b rfl | exact xal_b rfl | (apply And.intro) | decide)) ?_
    try dsimp only [xsto1, xsto2, xkill, xget, xset, gd_0, gd_s]
    refine xG_up (fun j => (76, [some (.ref 166), some (.int w), some (.int (iSum (fun j => if rr M j 5 = 0 then (1 : Int32) else 0) j)), some (.int (nI j))], [], M, z2)) nr ?_ ?_ 0 (Nat.zero_le _)
    · intro j hj ih
      refine xG_run 5 rfl (by repeat' (first | exact trivial | assumption | exact xob_b rfl | exact xal_b rfl | (apply And.intro) | decide)) ?_
      try dsimp only [xsto1, xsto2, xkill, xget, xset, gd_0, gd_s]
      refine xG_brF rfl (by rw [hnr]; exact nI_ge hj (by omega)) ?_
      refine xG_run 4 rfl (by repeat' (first | exact trivial | assumption | exact xob_b rfl | exact xal_b rfl | (apply And.intro) | decide)) ?_
      try dsimp only [xsto1, xsto2, xkill, xget, xset, gd_0, gd_s]
      refine xG_c2 2 rfl (by repeat' (first | exact trivial | assumption | exact xob_b rfl | exact xal_b rfl | (apply And.intro) | decide)) rfl rfl (by decide) cw_X12_rope0 (d' := d - 1) (e_rope0 (p := j) (k := 5) rfl rfl (by omega)) (by omega) ?_
      rintro v M' ⟨rfl, hM⟩
      subst M'
      dsimp only [Option.toList, List.cons_append, List.nil_append]
      refine xG_br rfl (fun h95 => ?_) (fun h95 => ?_)
      · refine xG_run 5 rfl (by repeat' (first | exact trivial | assumption | exact xob_b rfl | exact xal_b rfl | (apply And.intro) | decide)) ?_
        try dsimp only [xsto1, xsto2, xkill, xget, xset, gd_0, gd_s]
        rw [nI_1, iSum_s (f := (fun j => if rr M j 5 = 0 then (1 : Int32) else 0)) (n := j) (by first | exact if_neg h95 | exact if_pos (Decidable.not_not.mp h95))]; exact ih
      · refine xG_run 6 rfl (by repeat' (first | exact trivial | assumption | exact xob_b rfl | exact xal_b rfl | (apply And.intro) | decide)) ?_
        try dsimp only [xsto1, xsto2, xkill, xget, xset, gd_0, gd_s]
        rw [nI_1, iSum_s (f := (fun j => if rr M j 5 = 0 then (1 : Int32) else 0)) (n := j) (by first | exact if_neg h95 | exact if_pos (Decidable.not_not.mp h95))]; exact ih
    · refine xG_run 5 rfl (by repeat' (first | exact trivial | assumption | exact xob_b rfl | exact xal_b rfl | (apply And.intro) | decide)) ?_
      try dsimp only [xsto1, xsto2, xkill, xget, xset, gd_0, gd_s]
      refine xG_brT rfl (by rw [hnr]; exact Int32.le_refl _) ?_
      refine xG_run 1 rfl (by repeat' (first | exact trivial | assumption | exact xob_b rfl | exact xal_b rfl | (apply And.intro) | decide)) ?_
      try dsimp only [xsto1, xsto2, xkill, xget, xset, gd_0, gd_s]
      refine r2_i rfl rfl ?_
      refine ⟨?_, rfl⟩
      simp [rTl, *]
  by_cases q3 : w = 3
  · refine xG_swI 113 3 rfl (by rw [q3]; decide) (by decide) rfl (by decide) ?_
    refine xG_run 2 rfl (by repeat' (first | exact trivial | assumption | exact xob_b rfl | exact xal_b rfl | (apply And.intro) | decide)) ?_
    try dsimp only [xsto1, xsto2, xkill, xget, xset, gd_0, gd_s]
    refine xG_up (fun j => (115, [some (.ref 166), some (.int w), some (.int (iSum (fun p => if w = 3 then rW M p else rs M p 5) j)), some (.int (nI j))], [], M, z2)) np ?_ ?_ 0 (Nat.zero_le _)
    · intro j hj ih
      refine xG_run 5 rfl (by repeat' (first | exact trivial | assumption | exact xob_b rfl | exact xal_b rfl | (apply And.intro) | decide)) ?_
      try dsimp only [xsto1, xsto2, xkill, xget, xset, gd_0, gd_s]
      refine xG_brF rfl (by rw [hnp]; exact nI_ge hj (by omega)) ?_
      refine xG_run 3 rfl (by repeat' (first | exact trivial | assumption | exact xob_b rfl | exact xal_b rfl | (apply And.intro) | decide)) ?_
      try dsimp only [xsto1, xsto2, xkill, xget, xset, gd_0, gd_s]
      refine xG_br rfl (fun h130 => ?_) (fun h130 => ?_)
      · refine xG_run 3 rfl (by repeat' (first | exact trivial | assumption | exact xob_b rfl | exact xal_b rfl | (apply And.intro) | decide)) ?_
        try dsimp only [xsto1, xsto2, xkill, xget, xset, gd_0, gd_s]
        refine xG_c2 2 rfl (by repeat' (first | exact trivial | assumption | exact xob_b rfl | exact xal_b rfl | (apply And.intro) | decide)) rfl rfl (by decide) cw_X12_of (d' := d - 1) (e_of (p := j) (k := 5) rfl rfl (by omega)) (by omega) ?_
        rintro v M' ⟨rfl, hM⟩
        subst M'
        dsimp only [Option.toList, List.cons_append, List.nil_append]
        refine xG_run 4 rfl (by repeat' (first | exact trivial | assumption | exact xob_b rfl | exact xal_b rfl | (apply And.intro) | decide)) ?_
        try dsimp only [xsto1, xsto2, xkill, xget, xset, gd_0, gd_s]
        rw [nI_1, iSum_s (f := (fun p => if w = 3 then rW M p else rs M p 5)) (n := j) (by first | exact if_neg h130 | exact if_pos (Decidable.not_not.mp h130))]; exact ih
      · refine xG_run 2 rfl (by repeat' (first | exact trivial | assumption | exact xob_b rfl | exact xal_b rfl | (apply And.intro) | decide)) ?_
        try dsimp only [xsto1, xsto2, xkill, xget, xset, gd_0, gd_s]
        refine xG_c2 1 rfl (by repeat' (first | exact trivial | assumption | exact xob_b rfl | exact xal_b rfl | (apply And.intro) | decide)) rfl rfl (by decide) cw_X12_weight (d' := d - 1) (e_rweight (p := j) (by omega) (by omega)) (by omega) ?_
        rintro v M' ⟨rfl, hM⟩
        subst M'
        dsimp only [Option.toList, List.cons_append, List.nil_append]
        refine xG_run 5 rfl (by repeat' (first | exact trivial | assumption | exact xob_b rfl | exact xal_b rfl | (apply And.intro) | decide)) ?_
        try dsimp only [xsto1, xsto2, xkill, xget, xset, gd_0, gd_s]
        rw [nI_1, iSum_s (f := (fun p => if w = 3 then rW M p else rs M p 5)) (n := j) (by first | exact if_neg h130 | exact if_pos (Decidable.not_not.mp h130))]; exact ih
    · refine xG_run 5 rfl (by repeat' (first | exact trivial | assumption | exact xob_b rfl | exact xal_b rfl | (apply And.intro) | decide)) ?_
      try dsimp only [xsto1, xsto2, xkill, xget, xset, gd_0, gd_s]
      refine xG_brT rfl (by rw [hnp]; exact Int32.le_refl _) ?_
      refine xG_run 1 rfl (by repeat' (first | exact trivial | assumption | exact xob_b rfl | exact xal_b rfl | (apply And.intro) | decide)) ?_
      try dsimp only [xsto1, xsto2, xkill, xget, xset, gd_0, gd_s]
      refine r2_i rfl rfl ?_
      refine ⟨?_, rfl⟩
      simp [rTl, *]
  by_cases q4 : w = 4
  · refine xG_swI 113 4 rfl (by rw [q4]; decide) (by decide) rfl (by decide) ?_
    refine xG_run 2 rfl (by repeat' (first | exact trivial | assumption | exact xob_b rfl | exact xal_b rfl | (apply And.intro) | decide)) ?_
    try dsimp only [xsto1, xsto2, xkill, xget, xset, gd_0, gd_s]
    refine xG_up (fun j => (115, [some (.ref 166), some (.int w), some (.int (iSum (fun p => if w = 3 then rW M p else rs M p 5) j)), some (.int (nI j))], [], M, z2)) np ?_ ?_ 0 (Nat.zero_le _)
    · intro j hj ih
      refine xG_run 5 rfl (by repeat' (first | exact trivial | assumption | exact xob_b rfl | exact xal_b rfl | (apply And.intro) | decide)) ?_
      try dsimp only [xsto1, xsto2, xkill, xget, xset, gd_0, gd_s]
      refine xG_brF rfl (by rw [hnp]; exact nI_ge hj (by omega)) ?_
      refine xG_run 3 rfl (by repeat' (first | exact trivial | assumption | exact xob_b rfl | exact xal_b rfl | (apply And.intro) | decide)) ?_
      try dsimp only [xsto1, xsto2, xkill, xget, xset, gd_0, gd_s]
      refine xG_br rfl (fun h130 => ?_) (fun h130 => ?_)
      · refine xG_run 3 rfl (by repeat' (first | exact trivial | assumption | exact xob_b rfl | exact xal_b rfl | (apply And.intro) | decide)) ?_
        try dsimp only [xsto1, xsto2, xkill, xget, xset, gd_0, gd_s]
        refine xG_c2 2 rfl (by repeat' (first | exact trivial | assumption | exact xob_b rfl | exact xal_b rfl | (apply And.intro) | decide)) rfl rfl (by decide) cw_X12_of (d' := d - 1) (e_of (p := j) (k := 5) rfl rfl (by omega)) (by omega) ?_
        rintro v M' ⟨rfl, hM⟩
        subst M'
        dsimp only [Option.toList, List.cons_append, List.nil_append]
        refine xG_run 4 rfl (by repeat' (first | exact trivial | assumption | exact xob_b rfl | exact xal_b rfl | (apply And.intro) | decide)) ?_
        try dsimp only [xsto1, xsto2, xkill, xget, xset, gd_0, gd_s]
        rw [nI_1, iSum_s (f := (fun p => if w = 3 then rW M p else rs M p 5)) (n := j) (by first | exact if_neg h130 | exact if_pos (Decidable.not_not.mp h130))]; exact ih
      · refine xG_run 2 rfl (by repeat' (first | exact trivial | assumption | exact xob_b rfl | exact xal_b rfl | (apply And.intro) | decide)) ?_
        try dsimp only [xsto1, xsto2, xkill, xget, xset, gd_0, gd_s]
        refine xG_c2 1 rfl (by repeat' (first | exact trivial | assumption | exact xob_b rfl | exact xal_b rfl | (apply And.intro) | decide)) rfl rfl (by decide) cw_X12_weight (d' := d - 1) (e_rweight (p := j) (by omega) (by omega)) (by omega) ?_
        rintro v M' ⟨rfl, hM⟩
        subst M'
        dsimp only [Option.toList, List.cons_append, List.nil_append]
        refine xG_run 5 rfl (by repeat' (first | exact trivial | assumption | exact xob_b rfl | exact xal_b rfl | (apply And.intro) | decide)) ?_
        try dsimp only [xsto1, xsto2, xkill, xget, xset, gd_0, gd_s]
        rw [nI_1, iSum_s (f := (fun p => if w = 3 then rW M p else rs M p 5)) (n := j) (by first | exact if_neg h130 | exact if_pos (Decidable.not_not.mp h130))]; exact ih
    · refine xG_run 5 rfl (by repeat' (first | exact trivial | assumption | exact xob_b rfl | exact xal_b rfl | (apply And.intro) | decide)) ?_
      try dsimp only [xsto1, xsto2, xkill, xget, xset, gd_0, gd_s]
      refine xG_brT rfl (by rw [hnp]; exact Int32.le_refl _) ?_
      refine xG_run 1 rfl (by repeat' (first | exact trivial | assumption | exact xob_b rfl | exact xal_b rfl | (apply And.intro) | decide)) ?_
      try dsimp only [xsto1, xsto2, xkill, xget, xset, gd_0, gd_s]
      refine r2_i rfl rfl ?_
      refine ⟨?_, rfl⟩
      simp [rTl, *]
  by_cases q5 : w = 5
  · refine xG_swI 157 5 rfl (by rw [q5]; decide) (by decide) rfl (by decide) ?_
    refine xG_run 4 rfl (by repeat' (first | exact trivial | assumption | exact xob_b rfl | exact xal_b rfl | (apply And.intro) | decide)) ?_
    try dsimp only [xsto1, xsto2, xkill, xget, xset, gd_0, gd_s]
    refine r2_i rfl rfl ?_
    refine ⟨?_, rfl⟩
    simp [rTl, *]
    try rfl
  by_cases q6 : w = 6
  · refine xG_swI 166 6 rfl (by rw [q6]; decide) (by decide) rfl (by decide) ?_
    refine xG_run 4 rfl (by repeat' (first | exact trivial | assumption | exact xob_b rfl | exact xal_b rfl | (apply And.intro) | decide)) ?_
    try dsimp only [xsto1, xsto2, xkill, xget, xset, gd_0, gd_s]
    refine r2_i rfl rfl ?_
    refine ⟨?_, rfl⟩
    simp [rTl, *]
    try rfl
  by_cases q7 : w = 7
  · refine xG_swI 175 7 rfl (by rw [q7]; decide) (by decide) rfl (by decide) ?_
    refine xG_run 2 rfl (by repeat' (first | exact trivial | assumption | exact xob_b rfl | exact xal_b rfl | (apply And.intro) | decide)) ?_
    try dsimp only [xsto1, xsto2, xkill, xget, xset, gd_0, gd_s]
    refine xG_up (fun j => (177, [some (.ref 166), some (.int w), some (.int (iSum (fun k => gI M 167 (179 + 122 * k)) j)), some (.int (nI j))], [], M, z2)) nu ?_ ?_ 0 (Nat.zero_le _)
    · intro j hj ih
      have e1 : (179 : Int32) + 122 * nI j = nI (179 + 122 * j) := by
        rw [show (122 : Int32) = nI 122 from rfl, show (179 : Int32) = nI 179 from rfl, pk_mul, nI_add]
      have e2 : ((179 : Int32) + 122 * nI j).toNatClampNeg = 179 + 122 * j := by rw [e1]; exact nI_cl (by omega)
      have hsj : xar 167 0 182 ((179 : Int32) + 122 * nI j) := by rw [e1]; exact xar_n rfl 1651 rfl (by omega) (by omega)
      refine xG_run 5 rfl (by repeat' (first | exact trivial | assumption | exact xob_b rfl | exact xal_b rfl | (apply And.intro) | decide)) ?_
      try dsimp only [xsto1, xsto2, xkill, xget, xset, gd_0, gd_s]
      refine xG_brF rfl (by rw [hnu]; exact nI_ge hj (by omega)) ?_
      refine xG_run 8 rfl (by repeat' (first | exact trivial | assumption | exact xob_b rfl | exact xal_b rfl | (apply And.intro) | decide)) ?_
      try dsimp only [xsto1, xsto2, xkill, xget, xset, gd_0, gd_s]
      refine xG_run 5 rfl (by repeat' (first | exact trivial | assumption | exact xob_b rfl | exact xal_b rfl | (apply And.intro) | decide)) ?_
      try dsimp only [xsto1, xsto2, xkill, xget, xset, gd_0, gd_s]
      rw [e2, nI_1]; exact ih
    · refine xG_run 5 rfl (by repeat' (first | exact trivial | assumption | exact xob_b rfl | exact xal_b rfl | (apply And.intro) | decide)) ?_
      try dsimp only [xsto1, xsto2, xkill, xget, xset, gd_0, gd_s]
      refine xG_brT rfl (by rw [hnu]; exact Int32.le_refl _) ?_
      refine xG_run 1 rfl (by repeat' (first | exact trivial | assumption | exact xob_b rfl | exact xal_b rfl | (apply And.intro) | decide)) ?_
      try dsimp only [xsto1, xsto2, xkill, xget, xset, gd_0, gd_s]
      refine r2_i rfl rfl ?_
      refine ⟨?_, rfl⟩
      simp [rTl, *]
  by_cases q8 : w = 8
  · refine xG_swI 213 8 rfl (by rw [q8]; decide) (by decide) rfl (by decide) ?_
    refine xG_run 4 rfl (by repeat' (first | exact trivial | assumption | exact xob_b rfl | exact xal_b rfl | (apply And.intro) | decide)) ?_
    try dsimp only [xsto1, xsto2, xkill, xget, xset, gd_0, gd_s]
    refine r2_i rfl rfl ?_
    refine ⟨?_, rfl⟩
    simp [rTl, *]
    try rfl
  by_cases q9 : w = 9
  · refine xG_swI 222 9 rfl (by rw [q9]; decide) (by decide) rfl (by decide) ?_
    refine xG_run 4 rfl (by repeat' (first | exact trivial | assumption | exact xob_b rfl | exact xal_b rfl | (apply And.intro) | decide)) ?_
    try dsimp only [xsto1, xsto2, xkill, xget, xset, gd_0, gd_s]
    refine r2_i rfl rfl ?_
    refine ⟨?_, rfl⟩
    simp [rTl, *]
    try rfl
  refine xG_swO 231 rfl (by have := lv_neT q0 (a := 0) (by decide); have := lv_neT q1 (a := 1) (by decide); have := lv_neT q2 (a := 2) (by decide); have := lv_neT q3 (a := 3) (by decide); have := lv_neT q4 (a := 4) (by decide); have := lv_neT q5 (a := 5) (by decide); have := lv_neT q6 (a := 6) (by decide); have := lv_neT q7 (a := 7) (by decide); have := lv_neT q8 (a := 8) (by decide); have := lv_neT q9 (a := 9) (by decide); omega) (by decide) ?_
  refine xG_run 1 rfl (by repeat' (first | exact trivial | assumption | exact xob_b rfl | exact xal_b rfl | (apply And.intro) | decide)) ?_
  try dsimp only [xsto1, xsto2, xkill, xget, xset, gd_0, gd_s]
  refine r2_i rfl rfl ?_
  refine ⟨?_, rfl⟩
  simp [rTl, *]
  try rfl
