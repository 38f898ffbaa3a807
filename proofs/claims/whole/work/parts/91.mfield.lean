/-! ===== fieldOf of the reference ===== -/
theorem bN_h : (List.range 4096).all (fun S => bN S == S % 2 + bN (S / 2) && (nI S &&& 1 == nI (S % 2)) && (nI S >>> (1 &&& 31) == nI (S / 2))) = true := by decide +kernel
theorem bN_2 {S : Nat} (h : S < 4096) : bN S = S % 2 + bN (S / 2) ∧ nI S &&& 1 = nI (S % 2) ∧ nI S >>> (1 &&& 31) = nI (S / 2) := by
  have h1 := List.all_eq_true.mp bN_h S (List.mem_range.mpr h)
  rw [Bool.and_eq_true_iff, Bool.and_eq_true_iff] at h1
  exact ⟨eq_of_beq h1.1.1, eq_of_beq h1.1.2, eq_of_beq h1.2⟩
theorem rLo_n {M : xM} {l : Int32} : ∀ n, n ≤ 12 → ∃ S, S < 2 ^ n ∧ rLo M l n = nI S
  | 0, _ => ⟨0, by decide, rfl⟩
  | n + 1, h => by
    obtain ⟨S, h1, h2⟩ := rLo_n n (by omega)
    have hp : 2 ^ n < 2 ^ (n + 1) := Nat.pow_lt_pow_right (by omega) (by omega)
    rw [rLo]
    by_cases c : rr M n 5 = 0 ∧ rP M n l = 0
    · rw [if_pos c, h2, shl_p n (by omega), or_nI]
      exact ⟨S ||| 2 ^ n, Nat.or_lt_two_pow (Nat.lt_trans h1 hp) hp, rfl⟩
    · rw [if_neg c]
      exact ⟨S, Nat.lt_trans h1 hp, h2⟩
theorem rLo_c {M M' : xM} {l : Int32} (h : ∀ k, gI M' 167 k = gI M 167 k) : ∀ n, rLo M' l n = rLo M l n
  | 0 => rfl
  | n + 1 => by rw [rLo, rLo, rLo_c h n, rr_c h, rP_c h]
theorem fct_c {M M' : xM} {np nr p : Nat} {hour : Int32} (h : ∀ k, gI M' 167 k = gI M 167 k) (hj : gJ M' 166 18 = gJ M 166 18) (i : Nat) : fct M' np nr p hour i = fct M np nr p hour i := by
  unfold fct
  rw [h, rSt_c h hj, rLo_c h, rs_c h]
  simp only [rs_c h, rr_c h]
set_option maxRecDepth 4000 in
theorem e_fieldOf2 {κ : xKK} {d : Nat} {M : xM} {np nr ng : Nat} {C : xM} (hm : mR C 1 M 167 np nr ng) {p : Nat} {hour c : Int32} (h25 : gI M 166 25 = nI p) (h26 : gI M 166 26 = hour) (h27 : gI M 166 27 = rSt M np nr) (hp : p < np) (hc : isFd c) (hd : 8 ≤ d) : xE2 κ mX12_fieldOf d [.ref 166, .int c] M (fun v M' => v = some (.int (fct M np nr p hour (fdX c))) ∧ M' = M) := by
  refine xE2_of ci_X12_fieldOf cl_X12_fieldOf cw_X12_fieldOf rfl (L := [some (.ref 166), some (.int c), none, none]) rfl ?_
  have hn := hm.2.1.2
  have hn2 := hm.1.1
  have hr := hm.2.2.1.2
  have hr2 := hm.1.2.1
  have hw := rPw hm
  have hh := rQh hm
  have hc43 : (1643 : Int32).toNatClampNeg = 1643 := rfl
  have hc44 : (1644 : Int32).toNatClampNeg = 1644 := rfl
  have hc48 : (1648 : Int32).toNatClampNeg = 1648 := rfl
  have hs43 : xar 167 0 182 1643 := xar_n (j := 1643) rfl 1651 rfl (by omega) (by omega)
  have hs44 : xar 167 0 182 1644 := xar_n (j := 1644) rfl 1651 rfl (by omega) (by omega)
  have hs48 : xar 167 0 182 1648 := xar_n (j := 1648) rfl 1651 rfl (by omega) (by omega)
  have LB : ∀ (s S cc : Nat), S = s → S < 4096 → nI (cc + bN S) = fct M np nr p hour (fdX c) → xG κ mX12_fieldOf (d, 0, 0) (207, [some (.ref 166), some (.int c), some (.int (nI cc)), some (.int (nI S))], [], M, z2) (xRet mX12_fieldOf false (fun v M' n' => n' = 182 ∧ (v = some (.int (fct M np nr p hour (fdX c))) ∧ M' = M))) := by
    intro s
    induction s using Nat.strongRecOn with
    | ind s IH =>
      rintro S cc rfl hS hE
      obtain ⟨e1, e2, e3⟩ := bN_2 hS
      refine xG_run 1 rfl (by repeat' (first | exact trivial | assumption | exact xob_b rfl | exact xal_b rfl | (apply And.intro) | decide)) ?_
      try dsimp only [xsto1, xsto2, xkill, xget, xset, gd_0, gd_s]
      try rw [hc43]
      try rw [hc44]
      try rw [hc48]
      refine xG_br rfl (fun h208 => ?_) (fun h208 => ?_)
      · have hS0 : S = 0 := by
          have := (nI_leI (a := S) (b := 0) (by omega) (by omega)).mp h208
          omega
        refine xG_run 1 rfl (by repeat' (first | exact trivial | assumption | exact xob_b rfl | exact xal_b rfl | (apply And.intro) | decide)) ?_
        try dsimp only [xsto1, xsto2, xkill, xget, xset, gd_0, gd_s]
        try rw [hc43]
        try rw [hc44]
        try rw [hc48]
        refine r2_i rfl rfl ?_
        exact ⟨by rw [← hE, hS0]; rfl, rfl⟩
      · have hS1 : ¬ S = 0 := fun q => h208 (by rw [q]; decide)
        refine xG_run 4 rfl (by repeat' (first | exact trivial | assumption | exact xob_b rfl | exact xal_b rfl | (apply And.intro) | decide)) ?_
        try dsimp only [xsto1, xsto2, xkill, xget, xset, gd_0, gd_s]
        try rw [hc43]
        try rw [hc44]
        try rw [hc48]
        rw [e2]
        refine xG_run 1 rfl (by repeat' (first | exact trivial | assumption | exact xob_b rfl | exact xal_b rfl | (apply And.intro) | decide)) ?_
        try dsimp only [xsto1, xsto2, xkill, xget, xset, gd_0, gd_s]
        try rw [hc43]
        try rw [hc44]
        try rw [hc48]
        rw [nI_add]
        refine xG_run 4 rfl (by repeat' (first | exact trivial | assumption | exact xob_b rfl | exact xal_b rfl | (apply And.intro) | decide)) ?_
        try dsimp only [xsto1, xsto2, xkill, xget, xset, gd_0, gd_s]
        try rw [hc43]
        try rw [hc44]
        try rw [hc48]
        rw [e3]
        refine xG_run 2 rfl (by repeat' (first | exact trivial | assumption | exact xob_b rfl | exact xal_b rfl | (apply And.intro) | decide)) ?_
        try dsimp only [xsto1, xsto2, xkill, xget, xset, gd_0, gd_s]
        try rw [hc43]
        try rw [hc44]
        try rw [hc48]
        exact IH (S / 2) (by omega) (S / 2) (cc + S % 2) rfl (by omega) (by rw [← hE, e1, Nat.add_assoc])
  refine xG_run 3 rfl (by repeat' (first | exact trivial | assumption | exact xob_b rfl | exact xal_b rfl | (apply And.intro) | decide)) ?_
  try dsimp only [xsto1, xsto2, xkill, xget, xset, gd_0, gd_s]
  try rw [hc43]
  try rw [hc44]
  try rw [hc48]
  try simp only [h25, h26, h27]
  by_cases q99 : c = 99
  · refine xG_swI 145 0 rfl (by rw [q99]; decide) (by decide) rfl (by decide) ?_
    refine xG_run 2 rfl (by repeat' (first | exact trivial | assumption | exact xob_b rfl | exact xal_b rfl | (apply And.intro) | decide)) ?_
    try dsimp only [xsto1, xsto2, xkill, xget, xset, gd_0, gd_s]
    try rw [hc43]
    try rw [hc44]
    try rw [hc48]
    try simp only [h25, h26, h27]
    have lp := xG_upP (κ := κ) (m := mX12_fieldOf) (r := (d, 0, 0)) (YS := (xRet mX12_fieldOf false (fun v M' n' => n' = 182 ∧ (v = some (.int (fct M np nr p hour (fdX c))) ∧ M' = M)))) (fun k X => X = (147, [some (.ref 166), some (.int c), some (.int (iSum (fun r => if rr M r 5 = 0 then (0 : Int32) else 1) k)), some (.int (nI k))], [], M, z2)) nr ?_ ?_ 0 (Nat.zero_le _)
    · exact lp _ rfl
    · rintro k X hk rfl ih
      refine xG_run 5 rfl (by repeat' (first | exact trivial | assumption | exact xob_b rfl | exact xal_b rfl | (apply And.intro) | decide)) ?_
      try dsimp only [xsto1, xsto2, xkill, xget, xset, gd_0, gd_s]
      try rw [hc43]
      try rw [hc44]
      try rw [hc48]
      refine xG_brF rfl (by rw [hr]; exact nI_ge hk (by omega)) ?_
      refine xG_run 4 rfl (by repeat' (first | exact trivial | assumption | exact xob_b rfl | exact xal_b rfl | (apply And.intro) | decide)) ?_
      try dsimp only [xsto1, xsto2, xkill, xget, xset, gd_0, gd_s]
      try rw [hc43]
      try rw [hc44]
      try rw [hc48]
      refine xG_c2 2 rfl (by repeat' (first | exact trivial | assumption | exact xob_b rfl | exact xal_b rfl | (apply And.intro) | decide)) rfl rfl (by decide) cw_X12_rope0 (d' := d - 1) (e_rope0 (p := k) (k := 5) rfl rfl (by omega)) (by omega) ?_
      rintro v M' ⟨rfl, hM⟩
      subst M'
      dsimp only [Option.toList, List.cons_append, List.nil_append]
      refine xG_br rfl (fun h166 => ?_) (fun h166 => ?_)
      · refine xG_run 5 rfl (by repeat' (first | exact trivial | assumption | exact xob_b rfl | exact xal_b rfl | (apply And.intro) | decide)) ?_
        try dsimp only [xsto1, xsto2, xkill, xget, xset, gd_0, gd_s]
        try rw [hc43]
        try rw [hc44]
        try rw [hc48]
        rw [nI_1, iSum_s (f := fun r => if rr M r 5 = 0 then (0 : Int32) else 1) (if_pos h166)]
        exact ih _ rfl
      · refine xG_run 6 rfl (by repeat' (first | exact trivial | assumption | exact xob_b rfl | exact xal_b rfl | (apply And.intro) | decide)) ?_
        try dsimp only [xsto1, xsto2, xkill, xget, xset, gd_0, gd_s]
        try rw [hc43]
        try rw [hc44]
        try rw [hc48]
        rw [nI_1, iSum_s (f := fun r => if rr M r 5 = 0 then (0 : Int32) else 1) (if_neg h166)]
        exact ih _ rfl
    · rintro X rfl
      refine xG_run 5 rfl (by repeat' (first | exact trivial | assumption | exact xob_b rfl | exact xal_b rfl | (apply And.intro) | decide)) ?_
      try dsimp only [xsto1, xsto2, xkill, xget, xset, gd_0, gd_s]
      try rw [hc43]
      try rw [hc44]
      try rw [hc48]
      refine xG_brT rfl (by rw [hr]; exact Int32.le_refl _) ?_
      refine xG_run 1 rfl (by repeat' (first | exact trivial | assumption | exact xob_b rfl | exact xal_b rfl | (apply And.intro) | decide)) ?_
      try dsimp only [xsto1, xsto2, xkill, xget, xset, gd_0, gd_s]
      try rw [hc43]
      try rw [hc44]
      try rw [hc48]
      refine r2_i rfl rfl ?_
      rw [q99, show fdX 99 = 3 by decide]
      exact ⟨rfl, rfl⟩
  by_cases q100 : c = 100
  · refine xG_swI 236 1 rfl (by rw [q100]; decide) (by decide) rfl (by decide) ?_
    refine xG_run 3 rfl (by repeat' (first | exact trivial | assumption | exact xob_b rfl | exact xal_b rfl | (apply And.intro) | decide)) ?_
    try dsimp only [xsto1, xsto2, xkill, xget, xset, gd_0, gd_s]
    try rw [hc43]
    try rw [hc44]
    try rw [hc48]
    try simp only [h25, h26, h27]
    try rw [h25]
    refine xG_run 1 rfl (by repeat' (first | exact trivial | assumption | exact xob_b rfl | exact xal_b rfl | (apply And.intro) | decide)) ?_
    try dsimp only [xsto1, xsto2, xkill, xget, xset, gd_0, gd_s]
    try rw [hc43]
    try rw [hc44]
    try rw [hc48]
    try simp only [h25, h26, h27]
    refine xG_c2 2 rfl (by repeat' (first | exact trivial | assumption | exact xob_b rfl | exact xal_b rfl | (apply And.intro) | decide)) rfl rfl (by decide) cw_X12_of (d' := d - 1) (e_of (p := p) (k := 0) rfl rfl (by omega)) (by omega) ?_
    rintro v M' ⟨rfl, hM⟩
    subst M'
    dsimp only [Option.toList, List.cons_append, List.nil_append]
    refine r2_i rfl rfl ?_
    exact absurd hc (by rw [q100]; decide)
  by_cases q101 : c = 101
  · refine xG_swI 236 2 rfl (by rw [q101]; decide) (by decide) rfl (by decide) ?_
    refine xG_run 3 rfl (by repeat' (first | exact trivial | assumption | exact xob_b rfl | exact xal_b rfl | (apply And.intro) | decide)) ?_
    try dsimp only [xsto1, xsto2, xkill, xget, xset, gd_0, gd_s]
    try rw [hc43]
    try rw [hc44]
    try rw [hc48]
    try simp only [h25, h26, h27]
    try rw [h25]
    refine xG_run 1 rfl (by repeat' (first | exact trivial | assumption | exact xob_b rfl | exact xal_b rfl | (apply And.intro) | decide)) ?_
    try dsimp only [xsto1, xsto2, xkill, xget, xset, gd_0, gd_s]
    try rw [hc43]
    try rw [hc44]
    try rw [hc48]
    try simp only [h25, h26, h27]
    refine xG_c2 2 rfl (by repeat' (first | exact trivial | assumption | exact xob_b rfl | exact xal_b rfl | (apply And.intro) | decide)) rfl rfl (by decide) cw_X12_of (d' := d - 1) (e_of (p := p) (k := 0) rfl rfl (by omega)) (by omega) ?_
    rintro v M' ⟨rfl, hM⟩
    subst M'
    dsimp only [Option.toList, List.cons_append, List.nil_append]
    refine r2_i rfl rfl ?_
    exact absurd hc (by rw [q101]; decide)
  by_cases q102 : c = 102
  · refine xG_swI 236 3 rfl (by rw [q102]; decide) (by decide) rfl (by decide) ?_
    refine xG_run 3 rfl (by repeat' (first | exact trivial | assumption | exact xob_b rfl | exact xal_b rfl | (apply And.intro) | decide)) ?_
    try dsimp only [xsto1, xsto2, xkill, xget, xset, gd_0, gd_s]
    try rw [hc43]
    try rw [hc44]
    try rw [hc48]
    try simp only [h25, h26, h27]
    try rw [h25]
    refine xG_run 1 rfl (by repeat' (first | exact trivial | assumption | exact xob_b rfl | exact xal_b rfl | (apply And.intro) | decide)) ?_
    try dsimp only [xsto1, xsto2, xkill, xget, xset, gd_0, gd_s]
    try rw [hc43]
    try rw [hc44]
    try rw [hc48]
    try simp only [h25, h26, h27]
    refine xG_c2 2 rfl (by repeat' (first | exact trivial | assumption | exact xob_b rfl | exact xal_b rfl | (apply And.intro) | decide)) rfl rfl (by decide) cw_X12_of (d' := d - 1) (e_of (p := p) (k := 0) rfl rfl (by omega)) (by omega) ?_
    rintro v M' ⟨rfl, hM⟩
    subst M'
    dsimp only [Option.toList, List.cons_append, List.nil_append]
    refine r2_i rfl rfl ?_
    exact absurd hc (by rw [q102]; decide)
  by_cases q103 : c = 103
  · refine xG_swI 236 4 rfl (by rw [q103]; decide) (by decide) rfl (by decide) ?_
    refine xG_run 3 rfl (by repeat' (first | exact trivial | assumption | exact xob_b rfl | exact xal_b rfl | (apply And.intro) | decide)) ?_
    try dsimp only [xsto1, xsto2, xkill, xget, xset, gd_0, gd_s]
    try rw [hc43]
    try rw [hc44]
    try rw [hc48]
    try simp only [h25, h26, h27]
    try rw [h25]
    refine xG_run 1 rfl (by repeat' (first | exact trivial | assumption | exact xob_b rfl | exact xal_b rfl | (apply And.intro) | decide)) ?_
    try dsimp only [xsto1, xsto2, xkill, xget, xset, gd_0, gd_s]
    try rw [hc43]
    try rw [hc44]
    try rw [hc48]
    try simp only [h25, h26, h27]
    refine xG_c2 2 rfl (by repeat' (first | exact trivial | assumption | exact xob_b rfl | exact xal_b rfl | (apply And.intro) | decide)) rfl rfl (by decide) cw_X12_of (d' := d - 1) (e_of (p := p) (k := 0) rfl rfl (by omega)) (by omega) ?_
    rintro v M' ⟨rfl, hM⟩
    subst M'
    dsimp only [Option.toList, List.cons_append, List.nil_append]
    refine r2_i rfl rfl ?_
    exact absurd hc (by rw [q103]; decide)
  by_cases q104 : c = 104
  · refine xG_swI 226 5 rfl (by rw [q104]; decide) (by decide) rfl (by decide) ?_
    refine xG_run 2 rfl (by repeat' (first | exact trivial | assumption | exact xob_b rfl | exact xal_b rfl | (apply And.intro) | decide)) ?_
    try dsimp only [xsto1, xsto2, xkill, xget, xset, gd_0, gd_s]
    try rw [hc43]
    try rw [hc44]
    try rw [hc48]
    try simp only [h25, h26, h27]
    try rw [h26]
    refine r2_i rfl rfl ?_
    rw [q104, show fdX 104 = 5 by decide]
    exact ⟨rfl, rfl⟩
  by_cases q105 : c = 105
  · refine xG_swI 114 6 rfl (by rw [q105]; decide) (by decide) rfl (by decide) ?_
    refine xG_run 2 rfl (by repeat' (first | exact trivial | assumption | exact xob_b rfl | exact xal_b rfl | (apply And.intro) | decide)) ?_
    try dsimp only [xsto1, xsto2, xkill, xget, xset, gd_0, gd_s]
    try rw [hc43]
    try rw [hc44]
    try rw [hc48]
    try simp only [h25, h26, h27]
    have lp := xG_upP (κ := κ) (m := mX12_fieldOf) (r := (d, 0, 0)) (YS := (xRet mX12_fieldOf false (fun v M' n' => n' = 182 ∧ (v = some (.int (fct M np nr p hour (fdX c))) ∧ M' = M)))) (fun k X => X = (116, [some (.ref 166), some (.int c), some (.int (iSum (fun j => rs M j 5) k)), some (.int (nI k))], [], M, z2)) np ?_ ?_ 0 (Nat.zero_le _)
    · exact lp _ rfl
    · rintro k X hk rfl ih
      refine xG_run 5 rfl (by repeat' (first | exact trivial | assumption | exact xob_b rfl | exact xal_b rfl | (apply And.intro) | decide)) ?_
      try dsimp only [xsto1, xsto2, xkill, xget, xset, gd_0, gd_s]
      try rw [hc43]
      try rw [hc44]
      try rw [hc48]
      refine xG_brF rfl (by rw [hn]; exact nI_ge hk (by omega)) ?_
      refine xG_run 4 rfl (by repeat' (first | exact trivial | assumption | exact xob_b rfl | exact xal_b rfl | (apply And.intro) | decide)) ?_
      try dsimp only [xsto1, xsto2, xkill, xget, xset, gd_0, gd_s]
      try rw [hc43]
      try rw [hc44]
      try rw [hc48]
      refine xG_c2 2 rfl (by repeat' (first | exact trivial | assumption | exact xob_b rfl | exact xal_b rfl | (apply And.intro) | decide)) rfl rfl (by decide) cw_X12_of (d' := d - 1) (e_of (p := k) (k := 5) rfl rfl (by omega)) (by omega) ?_
      rintro v M' ⟨rfl, hM⟩
      subst M'
      dsimp only [Option.toList, List.cons_append, List.nil_append]
      refine xG_run 4 rfl (by repeat' (first | exact trivial | assumption | exact xob_b rfl | exact xal_b rfl | (apply And.intro) | decide)) ?_
      try dsimp only [xsto1, xsto2, xkill, xget, xset, gd_0, gd_s]
      try rw [hc43]
      try rw [hc44]
      try rw [hc48]
      rw [nI_1]
      exact ih _ rfl
    · rintro X rfl
      refine xG_run 5 rfl (by repeat' (first | exact trivial | assumption | exact xob_b rfl | exact xal_b rfl | (apply And.intro) | decide)) ?_
      try dsimp only [xsto1, xsto2, xkill, xget, xset, gd_0, gd_s]
      try rw [hc43]
      try rw [hc44]
      try rw [hc48]
      refine xG_brT rfl (by rw [hn]; exact Int32.le_refl _) ?_
      refine xG_run 1 rfl (by repeat' (first | exact trivial | assumption | exact xob_b rfl | exact xal_b rfl | (apply And.intro) | decide)) ?_
      try dsimp only [xsto1, xsto2, xkill, xget, xset, gd_0, gd_s]
      try rw [hc43]
      try rw [hc44]
      try rw [hc48]
      refine r2_i rfl rfl ?_
      rw [q105, show fdX 105 = 2 by decide]
      exact ⟨rfl, rfl⟩
  by_cases q106 : c = 106
  · refine xG_swI 236 7 rfl (by rw [q106]; decide) (by decide) rfl (by decide) ?_
    refine xG_run 3 rfl (by repeat' (first | exact trivial | assumption | exact xob_b rfl | exact xal_b rfl | (apply And.intro) | decide)) ?_
    try dsimp only [xsto1, xsto2, xkill, xget, xset, gd_0, gd_s]
    try rw [hc43]
    try rw [hc44]
    try rw [hc48]
    try simp only [h25, h26, h27]
    try rw [h25]
    refine xG_run 1 rfl (by repeat' (first | exact trivial | assumption | exact xob_b rfl | exact xal_b rfl | (apply And.intro) | decide)) ?_
    try dsimp only [xsto1, xsto2, xkill, xget, xset, gd_0, gd_s]
    try rw [hc43]
    try rw [hc44]
    try rw [hc48]
    try simp only [h25, h26, h27]
    refine xG_c2 2 rfl (by repeat' (first | exact trivial | assumption | exact xob_b rfl | exact xal_b rfl | (apply And.intro) | decide)) rfl rfl (by decide) cw_X12_of (d' := d - 1) (e_of (p := p) (k := 0) rfl rfl (by omega)) (by omega) ?_
    rintro v M' ⟨rfl, hM⟩
    subst M'
    dsimp only [Option.toList, List.cons_append, List.nil_append]
    refine r2_i rfl rfl ?_
    exact absurd hc (by rw [q106]; decide)
  by_cases q107 : c = 107
  · refine xG_swI 236 8 rfl (by rw [q107]; decide) (by decide) rfl (by decide) ?_
    refine xG_run 3 rfl (by repeat' (first | exact trivial | assumption | exact xob_b rfl | exact xal_b rfl | (apply And.intro) | decide)) ?_
    try dsimp only [xsto1, xsto2, xkill, xget, xset, gd_0, gd_s]
    try rw [hc43]
    try rw [hc44]
    try rw [hc48]
    try simp only [h25, h26, h27]
    try rw [h25]
    refine xG_run 1 rfl (by repeat' (first | exact trivial | assumption | exact xob_b rfl | exact xal_b rfl | (apply And.intro) | decide)) ?_
    try dsimp only [xsto1, xsto2, xkill, xget, xset, gd_0, gd_s]
    try rw [hc43]
    try rw [hc44]
    try rw [hc48]
    try simp only [h25, h26, h27]
    refine xG_c2 2 rfl (by repeat' (first | exact trivial | assumption | exact xob_b rfl | exact xal_b rfl | (apply And.intro) | decide)) rfl rfl (by decide) cw_X12_of (d' := d - 1) (e_of (p := p) (k := 0) rfl rfl (by omega)) (by omega) ?_
    rintro v M' ⟨rfl, hM⟩
    subst M'
    dsimp only [Option.toList, List.cons_append, List.nil_append]
    refine r2_i rfl rfl ?_
    rw [q107, show fdX 107 = 7 by decide]
    exact ⟨rfl, rfl⟩
  by_cases q108 : c = 108
  · refine xG_swI 93 9 rfl (by rw [q108]; decide) (by decide) rfl (by decide) ?_
    refine xG_run 2 rfl (by repeat' (first | exact trivial | assumption | exact xob_b rfl | exact xal_b rfl | (apply And.intro) | decide)) ?_
    try dsimp only [xsto1, xsto2, xkill, xget, xset, gd_0, gd_s]
    try rw [hc43]
    try rw [hc44]
    try rw [hc48]
    try simp only [h25, h26, h27]
    try rw [h27]
    refine xG_run 1 rfl (by repeat' (first | exact trivial | assumption | exact xob_b rfl | exact xal_b rfl | (apply And.intro) | decide)) ?_
    try dsimp only [xsto1, xsto2, xkill, xget, xset, gd_0, gd_s]
    try rw [hc43]
    try rw [hc44]
    try rw [hc48]
    try simp only [h25, h26, h27]
    refine xG_br rfl (fun h100 => ?_) (fun h100 => ?_)
    · refine xG_run 2 rfl (by repeat' (first | exact trivial | assumption | exact xob_b rfl | exact xal_b rfl | (apply And.intro) | decide)) ?_
      try dsimp only [xsto1, xsto2, xkill, xget, xset, gd_0, gd_s]
      try rw [hc43]
      try rw [hc44]
      try rw [hc48]
      try simp only [h25, h26, h27]
      refine r2_i rfl rfl ?_
      rw [q108, show fdX 108 = 1 by decide]
      exact ⟨by rw [show fct M np nr p hour 1 = if rSt M np nr = 1000 then 999 else rSt M np nr from rfl, if_neg h100], rfl⟩
    · refine xG_run 2 rfl (by repeat' (first | exact trivial | assumption | exact xob_b rfl | exact xal_b rfl | (apply And.intro) | decide)) ?_
      try dsimp only [xsto1, xsto2, xkill, xget, xset, gd_0, gd_s]
      try rw [hc43]
      try rw [hc44]
      try rw [hc48]
      try simp only [h25, h26, h27]
      refine r2_i rfl rfl ?_
      rw [q108, show fdX 108 = 1 by decide]
      exact ⟨by rw [show fct M np nr p hour 1 = if rSt M np nr = 1000 then 999 else rSt M np nr from rfl, if_pos (Decidable.not_not.mp h100)], rfl⟩
  by_cases q109 : c = 109
  · refine xG_swI 236 10 rfl (by rw [q109]; decide) (by decide) rfl (by decide) ?_
    refine xG_run 3 rfl (by repeat' (first | exact trivial | assumption | exact xob_b rfl | exact xal_b rfl | (apply And.intro) | decide)) ?_
    try dsimp only [xsto1, xsto2, xkill, xget, xset, gd_0, gd_s]
    try rw [hc43]
    try rw [hc44]
    try rw [hc48]
    try simp only [h25, h26, h27]
    try rw [h25]
    refine xG_run 1 rfl (by repeat' (first | exact trivial | assumption | exact xob_b rfl | exact xal_b rfl | (apply And.intro) | decide)) ?_
    try dsimp only [xsto1, xsto2, xkill, xget, xset, gd_0, gd_s]
    try rw [hc43]
    try rw [hc44]
    try rw [hc48]
    try simp only [h25, h26, h27]
    refine xG_c2 2 rfl (by repeat' (first | exact trivial | assumption | exact xob_b rfl | exact xal_b rfl | (apply And.intro) | decide)) rfl rfl (by decide) cw_X12_of (d' := d - 1) (e_of (p := p) (k := 0) rfl rfl (by omega)) (by omega) ?_
    rintro v M' ⟨rfl, hM⟩
    subst M'
    dsimp only [Option.toList, List.cons_append, List.nil_append]
    refine r2_i rfl rfl ?_
    exact absurd hc (by rw [q109]; decide)
  by_cases q110 : c = 110
  · refine xG_swI 236 11 rfl (by rw [q110]; decide) (by decide) rfl (by decide) ?_
    refine xG_run 3 rfl (by repeat' (first | exact trivial | assumption | exact xob_b rfl | exact xal_b rfl | (apply And.intro) | decide)) ?_
    try dsimp only [xsto1, xsto2, xkill, xget, xset, gd_0, gd_s]
    try rw [hc43]
    try rw [hc44]
    try rw [hc48]
    try simp only [h25, h26, h27]
    try rw [h25]
    refine xG_run 1 rfl (by repeat' (first | exact trivial | assumption | exact xob_b rfl | exact xal_b rfl | (apply And.intro) | decide)) ?_
    try dsimp only [xsto1, xsto2, xkill, xget, xset, gd_0, gd_s]
    try rw [hc43]
    try rw [hc44]
    try rw [hc48]
    try simp only [h25, h26, h27]
    refine xG_c2 2 rfl (by repeat' (first | exact trivial | assumption | exact xob_b rfl | exact xal_b rfl | (apply And.intro) | decide)) rfl rfl (by decide) cw_X12_of (d' := d - 1) (e_of (p := p) (k := 0) rfl rfl (by omega)) (by omega) ?_
    rintro v M' ⟨rfl, hM⟩
    subst M'
    dsimp only [Option.toList, List.cons_append, List.nil_append]
    refine r2_i rfl rfl ?_
    exact absurd hc (by rw [q110]; decide)
  by_cases q111 : c = 111
  · refine xG_swI 184 12 rfl (by rw [q111]; decide) (by decide) rfl (by decide) ?_
    refine xG_run 2 rfl (by repeat' (first | exact trivial | assumption | exact xob_b rfl | exact xal_b rfl | (apply And.intro) | decide)) ?_
    try dsimp only [xsto1, xsto2, xkill, xget, xset, gd_0, gd_s]
    try rw [hc43]
    try rw [hc44]
    try rw [hc48]
    try simp only [h25, h26, h27]
    try rw [h27]
    refine xG_run 1 rfl (by repeat' (first | exact trivial | assumption | exact xob_b rfl | exact xal_b rfl | (apply And.intro) | decide)) ?_
    try dsimp only [xsto1, xsto2, xkill, xget, xset, gd_0, gd_s]
    try rw [hc43]
    try rw [hc44]
    try rw [hc48]
    try simp only [h25, h26, h27]
    refine xG_br rfl (fun h191 => ?_) (fun h191 => ?_)
    · refine xG_run 3 rfl (by repeat' (first | exact trivial | assumption | exact xob_b rfl | exact xal_b rfl | (apply And.intro) | decide)) ?_
      try dsimp only [xsto1, xsto2, xkill, xget, xset, gd_0, gd_s]
      try rw [hc43]
      try rw [hc44]
      try rw [hc48]
      try simp only [h25, h26, h27]
      try rw [h27]
      refine xG_c2 1 rfl (by repeat' (first | exact trivial | assumption | exact xob_b rfl | exact xal_b rfl | (apply And.intro) | decide)) rfl rfl (by decide) cw_X12_looseAt (d' := d - 1) (e_rlooseAt hr hr2 hh (by omega)) (by omega) ?_
      rintro v M' ⟨rfl, hM⟩
      subst M'
      dsimp only [Option.toList, List.cons_append, List.nil_append]
      refine xG_run 1 rfl (by repeat' (first | exact trivial | assumption | exact xob_b rfl | exact xal_b rfl | (apply And.intro) | decide)) ?_
      try dsimp only [xsto1, xsto2, xkill, xget, xset, gd_0, gd_s]
      try rw [hc43]
      try rw [hc44]
      try rw [hc48]
      try simp only [h25, h26, h27]
      obtain ⟨S, hS1, hS2⟩ := rLo_n (M := M) (l := rSt M np nr) nr hr2
      have hS4 : S < 4096 := Nat.lt_of_lt_of_le hS1 (Nat.pow_le_pow_right (n := 2) (by omega) hr2)
      rw [hS2]
      refine LB S S 0 rfl hS4 ?_
      rw [q111, show fdX 111 = 4 by decide, show fct M np nr p hour 4 = if rSt M np nr = 1000 then 0 else bC (rLo M (rSt M np nr) nr) from rfl, if_neg h191, hS2, bC_n hS4, Nat.zero_add]
    · refine xG_run 3 rfl (by repeat' (first | exact trivial | assumption | exact xob_b rfl | exact xal_b rfl | (apply And.intro) | decide)) ?_
      try dsimp only [xsto1, xsto2, xkill, xget, xset, gd_0, gd_s]
      try rw [hc43]
      try rw [hc44]
      try rw [hc48]
      try simp only [h25, h26, h27]
      refine LB 0 0 0 rfl (by omega) ?_
      rw [q111, show fdX 111 = 4 by decide, show fct M np nr p hour 4 = if rSt M np nr = 1000 then 0 else bC (rLo M (rSt M np nr) nr) from rfl, if_pos (Decidable.not_not.mp h191)]
      rfl
  by_cases q112 : c = 112
  · refine xG_swI 231 13 rfl (by rw [q112]; decide) (by decide) rfl (by decide) ?_
    refine xG_run 2 rfl (by repeat' (first | exact trivial | assumption | exact xob_b rfl | exact xal_b rfl | (apply And.intro) | decide)) ?_
    try dsimp only [xsto1, xsto2, xkill, xget, xset, gd_0, gd_s]
    try rw [hc43]
    try rw [hc44]
    try rw [hc48]
    try simp only [h25, h26, h27]
    try rw [h25]
    refine r2_i rfl rfl ?_
    rw [q112, show fdX 112 = 6 by decide]
    exact ⟨rfl, rfl⟩
  by_cases q113 : c = 113
  · refine xG_swI 236 14 rfl (by rw [q113]; decide) (by decide) rfl (by decide) ?_
    refine xG_run 3 rfl (by repeat' (first | exact trivial | assumption | exact xob_b rfl | exact xal_b rfl | (apply And.intro) | decide)) ?_
    try dsimp only [xsto1, xsto2, xkill, xget, xset, gd_0, gd_s]
    try rw [hc43]
    try rw [hc44]
    try rw [hc48]
    try simp only [h25, h26, h27]
    try rw [h25]
    refine xG_run 1 rfl (by repeat' (first | exact trivial | assumption | exact xob_b rfl | exact xal_b rfl | (apply And.intro) | decide)) ?_
    try dsimp only [xsto1, xsto2, xkill, xget, xset, gd_0, gd_s]
    try rw [hc43]
    try rw [hc44]
    try rw [hc48]
    try simp only [h25, h26, h27]
    refine xG_c2 2 rfl (by repeat' (first | exact trivial | assumption | exact xob_b rfl | exact xal_b rfl | (apply And.intro) | decide)) rfl rfl (by decide) cw_X12_of (d' := d - 1) (e_of (p := p) (k := 0) rfl rfl (by omega)) (by omega) ?_
    rintro v M' ⟨rfl, hM⟩
    subst M'
    dsimp only [Option.toList, List.cons_append, List.nil_append]
    refine r2_i rfl rfl ?_
    exact absurd hc (by rw [q113]; decide)
  by_cases q114 : c = 114
  · refine xG_swI 236 15 rfl (by rw [q114]; decide) (by decide) rfl (by decide) ?_
    refine xG_run 3 rfl (by repeat' (first | exact trivial | assumption | exact xob_b rfl | exact xal_b rfl | (apply And.intro) | decide)) ?_
    try dsimp only [xsto1, xsto2, xkill, xget, xset, gd_0, gd_s]
    try rw [hc43]
    try rw [hc44]
    try rw [hc48]
    try simp only [h25, h26, h27]
    try rw [h25]
    refine xG_run 1 rfl (by repeat' (first | exact trivial | assumption | exact xob_b rfl | exact xal_b rfl | (apply And.intro) | decide)) ?_
    try dsimp only [xsto1, xsto2, xkill, xget, xset, gd_0, gd_s]
    try rw [hc43]
    try rw [hc44]
    try rw [hc48]
    try simp only [h25, h26, h27]
    refine xG_c2 2 rfl (by repeat' (first | exact trivial | assumption | exact xob_b rfl | exact xal_b rfl | (apply And.intro) | decide)) rfl rfl (by decide) cw_X12_of (d' := d - 1) (e_of (p := p) (k := 0) rfl rfl (by omega)) (by omega) ?_
    rintro v M' ⟨rfl, hM⟩
    subst M'
    dsimp only [Option.toList, List.cons_append, List.nil_append]
    refine r2_i rfl rfl ?_
    exact absurd hc (by rw [q114]; decide)
  by_cases q115 : c = 115
  · refine xG_swI 84 16 rfl (by rw [q115]; decide) (by decide) rfl (by decide) ?_
    refine xG_run 4 rfl (by repeat' (first | exact trivial | assumption | exact xob_b rfl | exact xal_b rfl | (apply And.intro) | decide)) ?_
    try dsimp only [xsto1, xsto2, xkill, xget, xset, gd_0, gd_s]
    try rw [hc43]
    try rw [hc44]
    try rw [hc48]
    try simp only [h25, h26, h27]
    refine r2_i rfl rfl ?_
    rw [q115, show fdX 115 = 0 by decide]
    exact ⟨rfl, rfl⟩
  refine xG_swO 236 rfl (by have := lv_neT q99 (a := 99) (by decide); have := lv_neT q100 (a := 100) (by decide); have := lv_neT q101 (a := 101) (by decide); have := lv_neT q102 (a := 102) (by decide); have := lv_neT q103 (a := 103) (by decide); have := lv_neT q104 (a := 104) (by decide); have := lv_neT q105 (a := 105) (by decide); have := lv_neT q106 (a := 106) (by decide); have := lv_neT q107 (a := 107) (by decide); have := lv_neT q108 (a := 108) (by decide); have := lv_neT q109 (a := 109) (by decide); have := lv_neT q110 (a := 110) (by decide); have := lv_neT q111 (a := 111) (by decide); have := lv_neT q112 (a := 112) (by decide); have := lv_neT q113 (a := 113) (by decide); have := lv_neT q114 (a := 114) (by decide); have := lv_neT q115 (a := 115) (by decide); omega) (by decide) ?_
  refine xG_run 3 rfl (by repeat' (first | exact trivial | assumption | exact xob_b rfl | exact xal_b rfl | (apply And.intro) | decide)) ?_
  try dsimp only [xsto1, xsto2, xkill, xget, xset, gd_0, gd_s]
  try rw [hc43]
  try rw [hc44]
  try rw [hc48]
  try simp only [h25, h26, h27]
  try rw [h25]
  refine xG_run 1 rfl (by repeat' (first | exact trivial | assumption | exact xob_b rfl | exact xal_b rfl | (apply And.intro) | decide)) ?_
  try dsimp only [xsto1, xsto2, xkill, xget, xset, gd_0, gd_s]
  try rw [hc43]
  try rw [hc44]
  try rw [hc48]
  try simp only [h25, h26, h27]
  refine xG_c2 2 rfl (by repeat' (first | exact trivial | assumption | exact xob_b rfl | exact xal_b rfl | (apply And.intro) | decide)) rfl rfl (by decide) cw_X12_of (d' := d - 1) (e_of (p := p) (k := 0) rfl rfl (by omega)) (by omega) ?_
  rintro v M' ⟨rfl, hM⟩
  subst M'
  dsimp only [Option.toList, List.cons_append, List.nil_append]
  refine r2_i rfl rfl ?_
  rcases hc with z | z | z | z | z | z | z | z <;> contradiction
