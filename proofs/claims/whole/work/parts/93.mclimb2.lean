/-! ===== breach, climb of the reference ===== -/
set_option maxRecDepth 4000 in
theorem e_m_breach {κ : xKK} {d : Nat} {M : xM} {np nr ng : Nat} {C : xM} (hm : mR C 1 M 167 np nr ng) (hj0 : gJ M 166 18 = 0) {nu : Nat} (hu : ruR C 55 M 167 nu) {i h : Int32} (hd : 182 ≤ d) : xE2 κ mX12_breach d [.ref 166, .int i, .int h] M (fun v M' => ((∃ p, p < np ∧ i = nI p ∧ (0 ≤ h ∧ h ≤ 23) ∧ v = some (.int (hlV M (fct M np nr p h) nu))) ∨ (¬ ((∃ p, p < np ∧ i = nI p) ∧ 0 ≤ h ∧ h ≤ 23) ∧ v = some (.int (-1)))) ∧ rkF M M') := by
  refine xE2_of ci_X12_breach cl_X12_breach cw_X12_breach rfl (L := [some (.ref 166), some (.int i), some (.int h)]) rfl ?_
  have hn := hm.2.1.2
  have hn2 := hm.1.1
  have hr := hm.2.2.1.2
  have hr2 := hm.1.2.1
  have hw := rPw hm
  have hh := rQh hm
  refine xG_run 2 rfl (by repeat' (first | exact trivial | assumption | exact xob_b rfl | exact xal_b rfl | (apply And.intro) | decide)) ?_
  try dsimp only [xsto1, xsto2, xkill, xget, xset, gd_0, gd_s]
  refine xG_c2 1 rfl (by repeat' (first | exact trivial | assumption | exact xob_b rfl | exact xal_b rfl | (apply And.intro) | decide)) rfl rfl (by decide) cw_X12_isPiece (d' := d - 1) (e_isPiece hn hn2 (by omega)) (by omega) ?_
  rintro v M' ⟨rfl, hM⟩
  subst M'
  dsimp only [Option.toList, List.cons_append, List.nil_append]
  refine xG_br rfl (fun h5 => ?_) (fun h5 => ?_)
  · have b5 := z0.mp h5
    refine xG_run 1 rfl (by repeat' (first | exact trivial | assumption | exact xob_b rfl | exact xal_b rfl | (apply And.intro) | decide)) ?_
    try dsimp only [xsto1, xsto2, xkill, xget, xset, gd_0, gd_s]
    refine r2_i rfl rfl ?_
    exact ⟨Or.inr ⟨fun q => by obtain ⟨⟨j9, a1, a2⟩, -⟩ := q; exact b5 (by rw [a2]; exact inI a1 (by omega)), rfl⟩, rkF_r⟩
  · have b5 := z1.mp h5
    obtain ⟨p, hp, rfl⟩ := inI_of b5 (by omega)
    refine xG_run 4 rfl (by repeat' (first | exact trivial | assumption | exact xob_b rfl | exact xal_b rfl | (apply And.intro) | decide)) ?_
    try dsimp only [xsto1, xsto2, xkill, xget, xset, gd_0, gd_s]
    refine xG_c2 3 rfl (by repeat' (first | exact trivial | assumption | exact xob_b rfl | exact xal_b rfl | (apply And.intro) | decide)) rfl rfl (by decide) cw_X12_isIn (d' := d - 1) (e_isIn (c := 0 ≤ h ∧ h ≤ 23) (in32 rfl rfl)) (by omega) ?_
    rintro v M' ⟨rfl, hM⟩
    subst M'
    dsimp only [Option.toList, List.cons_append, List.nil_append]
    refine xG_br rfl (fun h17 => ?_) (fun h17 => ?_)
    · have b17 := z1.mp h17
      refine xG_run 2 rfl (by repeat' (first | exact trivial | assumption | exact xob_b rfl | exact xal_b rfl | (apply And.intro) | decide)) ?_
      try dsimp only [xsto1, xsto2, xkill, xget, xset, gd_0, gd_s]
      refine xG_c2 0 rfl (by repeat' (first | exact trivial | assumption | exact xob_b rfl | exact xal_b rfl | (apply And.intro) | decide)) rfl rfl (by decide) cw_X12_standing (d' := d - 1) (e_rstanding hm.2.1.2 hm.1.1 hm.2.2.1.2 hm.1.2.1 (rPw hm) (rQh hm) (by omega)) (by omega) ?_
      rintro v N ⟨rfl, hN⟩
      subst N
      rw [show stN (rAll M np nr) 300 = rSt M np nr from rfl]
      have hk7 : rkF M (sI M 166 27 (rSt M np nr)) := rkF_i (Or.inl ⟨rfl, by decide⟩)
      have e7 : ∀ j, gI (sI M 166 27 (rSt M np nr)) 167 j = gI M 167 j := fun j => gI_ne (by omega)
      have hm7 := mR_b hm hk7
      have hu7 := ruR_b hu hk7
      have h27 : gI (sI M 166 27 (rSt M np nr)) 166 27 = rSt (sI M 166 27 (rSt M np nr)) np nr := (gI_self _ _ _ _).trans (rSt_c e7 rfl).symm
      dsimp only [Option.toList, List.cons_append, List.nil_append]
      refine xG_run 4 rfl (by repeat' (first | exact trivial | assumption | exact xob_b rfl | exact xal_b rfl | (apply And.intro) | decide)) ?_
      try dsimp only [xsto1, xsto2, xkill, xget, xset, gd_0, gd_s]
      refine xG_c2 2 rfl (by repeat' (first | exact trivial | assumption | exact xob_b rfl | exact xal_b rfl | (apply And.intro) | decide)) rfl rfl (by decide) cw_X12_breachOf (d' := d - 1) (e_breachOf hm7 hu7 hp h27 (by omega)) (by omega) ?_
      rintro v M3 ⟨rfl, hk3, -⟩
      rw [hlV_c e7, show fct (sI M 166 27 (rSt M np nr)) np nr p h = fct M np nr p h from funext (fct_c e7 rfl)]
      dsimp only [Option.toList, List.cons_append, List.nil_append]
      refine r2_i rfl rfl ?_
      exact ⟨Or.inl ⟨p, hp, rfl, b17, rfl⟩, rkF_t hk7 hk3⟩
    · have b17 := z0.mp (Decidable.not_not.mp h17)
      refine xG_run 1 rfl (by repeat' (first | exact trivial | assumption | exact xob_b rfl | exact xal_b rfl | (apply And.intro) | decide)) ?_
      try dsimp only [xsto1, xsto2, xkill, xget, xset, gd_0, gd_s]
      refine r2_i rfl rfl ?_
      exact ⟨Or.inr ⟨fun q => b17 q.2, rfl⟩, rkF_r⟩
set_option maxRecDepth 4000 in
theorem e_m_climb {κ : xKK} {d : Nat} {M : xM} {np nr ng : Nat} {C : xM} (hm : mR C 1 M 167 np nr ng) (hj0 : gJ M 166 18 = 0) {nu : Nat} (hu : ruR C 55 M 167 nu) {h : Int32} (hd : 182 ≤ d) : xE2 κ mX12_climb d [.ref 166, .int h] M (fun v M' => (((0 ≤ h ∧ h ≤ 23) ∧ v = some (.int (clV M np nr nu h))) ∨ (¬ (0 ≤ h ∧ h ≤ 23) ∧ v = some (.int (-1)))) ∧ rkF M M') := by
  refine xE2_of ci_X12_climb cl_X12_climb cw_X12_climb rfl (L := [some (.ref 166), some (.int h), none]) rfl ?_
  have hn := hm.2.1.2
  have hn2 := hm.1.1
  have hr := hm.2.2.1.2
  have hr2 := hm.1.2.1
  have hw := rPw hm
  have hh := rQh hm
  have hc43 : (1643 : Int32).toNatClampNeg = 1643 := rfl
  have hs43 : xar 167 0 182 1643 := xar_n (j := 1643) rfl 1651 rfl (by omega) (by omega)
  refine xG_run 4 rfl (by repeat' (first | exact trivial | assumption | exact xob_b rfl | exact xal_b rfl | (apply And.intro) | decide)) ?_
  try dsimp only [xsto1, xsto2, xkill, xget, xset, gd_0, gd_s]
  try rw [hc43]
  refine xG_c2 3 rfl (by repeat' (first | exact trivial | assumption | exact xob_b rfl | exact xal_b rfl | (apply And.intro) | decide)) rfl rfl (by decide) cw_X12_isIn (d' := d - 1) (e_isIn (c := 0 ≤ h ∧ h ≤ 23) (in32 rfl rfl)) (by omega) ?_
  rintro v M' ⟨rfl, hM⟩
  subst M'
  dsimp only [Option.toList, List.cons_append, List.nil_append]
  refine xG_br rfl (fun h9 => ?_) (fun h9 => ?_)
  · have b9 := z1.mp h9
    refine xG_run 2 rfl (by repeat' (first | exact trivial | assumption | exact xob_b rfl | exact xal_b rfl | (apply And.intro) | decide)) ?_
    try dsimp only [xsto1, xsto2, xkill, xget, xset, gd_0, gd_s]
    try rw [hc43]
    refine xG_c2 0 rfl (by repeat' (first | exact trivial | assumption | exact xob_b rfl | exact xal_b rfl | (apply And.intro) | decide)) rfl rfl (by decide) cw_X12_standing (d' := d - 1) (e_rstanding hm.2.1.2 hm.1.1 hm.2.2.1.2 hm.1.2.1 (rPw hm) (rQh hm) (by omega)) (by omega) ?_
    rintro v N ⟨rfl, hN⟩
    subst N
    rw [show stN (rAll M np nr) 300 = rSt M np nr from rfl]
    have hk7 : rkF M (sI M 166 27 (rSt M np nr)) := rkF_i (Or.inl ⟨rfl, by decide⟩)
    have e7 : ∀ j, gI (sI M 166 27 (rSt M np nr)) 167 j = gI M 167 j := fun j => gI_ne (by omega)
    have hm7 := mR_b hm hk7
    have hu7 := ruR_b hu hk7
    have h27 : gI (sI M 166 27 (rSt M np nr)) 166 27 = rSt (sI M 166 27 (rSt M np nr)) np nr := (gI_self _ _ _ _).trans (rSt_c e7 rfl).symm
    dsimp only [Option.toList, List.cons_append, List.nil_append]
    refine xG_run 3 rfl (by repeat' (first | exact trivial | assumption | exact xob_b rfl | exact xal_b rfl | (apply And.intro) | decide)) ?_
    try dsimp only [xsto1, xsto2, xkill, xget, xset, gd_0, gd_s]
    try rw [hc43]
    have lp := xG_upP (κ := κ) (m := mX12_climb) (r := (d, 0, 0)) (YS := xRet mX12_climb false (fun v M' n' => n' = 182 ∧ ((((0 ≤ h ∧ h ≤ 23) ∧ v = some (.int (clV M np nr nu h))) ∨ (¬ (0 ≤ h ∧ h ≤ 23) ∧ v = some (.int (-1)))) ∧ rkF M M'))) (fun k X => ∃ M2 : xM, X = (24, [some (.ref 166), some (.int h), some (.int (nI k))], [], M2, z2) ∧ rkF M M2 ∧ gI M2 166 27 = rSt M np nr ∧ ∀ q, q < k → hlV M (fct M np nr q h) nu = -4) np ?_ ?_ 0 (Nat.zero_le _)
    · exact lp _ ⟨_, rfl, hk7, gI_self _ _ _ _, fun q hq => absurd hq (Nat.not_lt_zero q)⟩
    · rintro k X hk ⟨M2, rfl, hk2, h272, hno⟩ ih
      have e2 : ∀ j, gI M2 167 j = gI M 167 j := fun j => hk2.1 _ _ (by omega)
      have ej2 : gJ M2 166 18 = gJ M 166 18 := hk2.2.2.1
      have hn2' : gI M2 167 1643 = nI np := (e2 _).trans hn
      refine xG_run 5 rfl (by repeat' (first | exact trivial | assumption | exact xob_b rfl | exact xal_b rfl | (apply And.intro) | decide)) ?_
      try dsimp only [xsto1, xsto2, xkill, xget, xset, gd_0, gd_s]
      try rw [hc43]
      refine xG_brF rfl (by rw [hn2']; exact nI_ge hk (by omega)) ?_
      refine xG_run 3 rfl (by repeat' (first | exact trivial | assumption | exact xob_b rfl | exact xal_b rfl | (apply And.intro) | decide)) ?_
      try dsimp only [xsto1, xsto2, xkill, xget, xset, gd_0, gd_s]
      try rw [hc43]
      refine xG_c2 2 rfl (by repeat' (first | exact trivial | assumption | exact xob_b rfl | exact xal_b rfl | (apply And.intro) | decide)) rfl rfl (by decide) cw_X12_breachOf (d' := d - 1) (e_breachOf (mR_b hm hk2) (ruR_b hu hk2) hk (h272.trans (rSt_c e2 ej2).symm) (by omega)) (by omega) ?_
      rintro v M3 ⟨rfl, hk3, h273⟩
      rw [hlV_c e2, show fct M2 np nr k h = fct M np nr k h from funext (fct_c e2 ej2)]
      dsimp only [Option.toList, List.cons_append, List.nil_append]
      refine xG_run 1 rfl (by repeat' (first | exact trivial | assumption | exact xob_b rfl | exact xal_b rfl | (apply And.intro) | decide)) ?_
      try dsimp only [xsto1, xsto2, xkill, xget, xset, gd_0, gd_s]
      try rw [hc43]
      refine xG_br rfl (fun h44 => ?_) (fun h44 => ?_)
      · refine xG_run 1 rfl (by repeat' (first | exact trivial | assumption | exact xob_b rfl | exact xal_b rfl | (apply And.intro) | decide)) ?_
        try dsimp only [xsto1, xsto2, xkill, xget, xset, gd_0, gd_s]
        try rw [hc43]
        refine xG_br rfl (fun h54 => ?_) (fun h54 => ?_)
        · have hk0 : ¬ k = 0 := fun q => h54 (by rw [q]; rfl)
          refine xG_run 3 rfl (by repeat' (first | exact trivial | assumption | exact xob_b rfl | exact xal_b rfl | (apply And.intro) | decide)) ?_
          try dsimp only [xsto1, xsto2, xkill, xget, xset, gd_0, gd_s]
          try rw [hc43]
          refine r2_i rfl rfl ?_
          refine ⟨Or.inl ⟨b9, ?_⟩, rkF_t hk2 hk3⟩
          rw [cl_at hno (Or.inr ⟨hk, h44⟩), if_neg hk0, ← nI_sb1 (by omega)]
        · have hk0 : k = 0 := nI_injb (by omega) (by omega) (show nI 0 = nI k from (Decidable.not_not.mp h54).symm)
          refine xG_run 2 rfl (by repeat' (first | exact trivial | assumption | exact xob_b rfl | exact xal_b rfl | (apply And.intro) | decide)) ?_
          try dsimp only [xsto1, xsto2, xkill, xget, xset, gd_0, gd_s]
          try rw [hc43]
          refine r2_i rfl rfl ?_
          refine ⟨Or.inl ⟨b9, ?_⟩, rkF_t hk2 hk3⟩
          rw [cl_at hno (Or.inr ⟨hk, h44⟩), if_pos hk0]
      · refine xG_run 2 rfl (by repeat' (first | exact trivial | assumption | exact xob_b rfl | exact xal_b rfl | (apply And.intro) | decide)) ?_
        try dsimp only [xsto1, xsto2, xkill, xget, xset, gd_0, gd_s]
        try rw [hc43]
        rw [nI_1]
        refine ih _ ⟨M3, rfl, rkF_t hk2 hk3, h273.trans h272, fun q hq => ?_⟩
        by_cases e : q = k
        · subst e; exact Decidable.not_not.mp h44
        · exact hno q (by omega)
    · rintro X ⟨M2, rfl, hk2, h272, hno⟩
      have e2 : ∀ j, gI M2 167 j = gI M 167 j := fun j => hk2.1 _ _ (by omega)
      have ej2 : gJ M2 166 18 = gJ M 166 18 := hk2.2.2.1
      have hn2' : gI M2 167 1643 = nI np := (e2 _).trans hn
      refine xG_run 5 rfl (by repeat' (first | exact trivial | assumption | exact xob_b rfl | exact xal_b rfl | (apply And.intro) | decide)) ?_
      try dsimp only [xsto1, xsto2, xkill, xget, xset, gd_0, gd_s]
      try rw [hc43]
      refine xG_brT rfl (by rw [hn2']; exact Int32.le_refl _) ?_
      refine xG_run 1 rfl (by repeat' (first | exact trivial | assumption | exact xob_b rfl | exact xal_b rfl | (apply And.intro) | decide)) ?_
      try dsimp only [xsto1, xsto2, xkill, xget, xset, gd_0, gd_s]
      try rw [hc43]
      refine xG_br rfl (fun h54 => ?_) (fun h54 => ?_)
      · have hk0 : ¬ np = 0 := fun q => h54 (by rw [q]; rfl)
        refine xG_run 3 rfl (by repeat' (first | exact trivial | assumption | exact xob_b rfl | exact xal_b rfl | (apply And.intro) | decide)) ?_
        try dsimp only [xsto1, xsto2, xkill, xget, xset, gd_0, gd_s]
        try rw [hc43]
        refine r2_i rfl rfl ?_
        refine ⟨Or.inl ⟨b9, ?_⟩, hk2⟩
        rw [cl_at hno (Or.inl rfl), if_neg hk0, ← nI_sb1 (by omega)]
      · have hk0 : np = 0 := nI_injb (by omega) (by omega) (show nI 0 = nI np from (Decidable.not_not.mp h54).symm)
        refine xG_run 2 rfl (by repeat' (first | exact trivial | assumption | exact xob_b rfl | exact xal_b rfl | (apply And.intro) | decide)) ?_
        try dsimp only [xsto1, xsto2, xkill, xget, xset, gd_0, gd_s]
        try rw [hc43]
        refine r2_i rfl rfl ?_
        refine ⟨Or.inl ⟨b9, ?_⟩, hk2⟩
        rw [cl_at hno (Or.inl rfl), if_pos hk0]
  · have b9 := z0.mp (Decidable.not_not.mp h9)
    refine xG_run 1 rfl (by repeat' (first | exact trivial | assumption | exact xob_b rfl | exact xal_b rfl | (apply And.intro) | decide)) ?_
    try dsimp only [xsto1, xsto2, xkill, xget, xset, gd_0, gd_s]
    try rw [hc43]
    refine r2_i rfl rfl ?_
    exact ⟨Or.inr ⟨b9, rfl⟩, rkF_r⟩
