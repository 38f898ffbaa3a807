/-! order of the class -/
def rwS (R : xM) (nr : Nat) (x : Int32) : Prop := ∃ U, (x = nI U ∧ 1 ≤ U ∧ U < 2 ^ nr) ∧ (∀ q, q < nr → U.testBit q = true → rr R q 5 = 0) ∧ bN U ≤ 6
theorem shr0 {U n : Nat} (hU : U < 2147483648) (hn : n < 31) : (nI U >>> (nI n &&& 31) = 0) ↔ U < 2 ^ n := by
  constructor
  · intro h
    refine Nat.lt_pow_two_of_testBit U (fun i hi => ?_)
    by_cases c : i < 32
    · have e : bt (nI U >>> (nI n &&& 31)) (i - n) = false := by rw [h, b_0]
      rw [b_sshr n (by omega) _ (by omega), if_pos (by omega), show n + (i - n) = i by omega, bt_nI c] at e
      exact e
    · exact Nat.testBit_lt_two_pow (Nat.lt_of_lt_of_le hU (Nat.le_trans (show 2147483648 ≤ 2 ^ 31 by decide) (Nat.pow_le_pow_right (by omega) (by omega))))
  · intro h
    refine b_ext (fun i hi => ?_)
    rw [b_sshr n (by omega) _ hi, b_0]
    by_cases c : n + i < 32
    · rw [if_pos c, bt_nI c]
      exact Nat.testBit_lt_two_pow (Nat.lt_of_lt_of_le h (Nat.pow_le_pow_right (by omega) (by omega)))
    · rw [if_neg c, bt_nI (by omega)]
      exact Nat.testBit_lt_two_pow (Nat.lt_of_lt_of_le hU (by decide))
set_option maxRecDepth 4000 in
theorem e_isSetToRedraw {κ : xKK} {d : Nat} {M : xM} {np nr ng : Nat} {R : xM} (hm : mR M 1 R 167 np nr ng) (hj0 : gJ R 166 18 = 0) {x : Int32} (hd : 2 ≤ d) : xE2 κ mX11_isSetToRedraw d [.ref 0, .int x] M (fun v M' => ((rwS R nr x ∧ v = some (.int 1)) ∨ (¬ rwS R nr x ∧ v = some (.int 0))) ∧ M' = M) := by
  refine xE2_of ci_X11_isSetToRedraw cl_X11_isSetToRedraw cw_X11_isSetToRedraw rfl (L := [some (.ref 0), some (.int x), none]) rfl ?_
  have hn := hm.2.1.1
  have hn2 := hm.1.1
  have hr := hm.2.2.1.1
  have hr2 := hm.1.2.1
  have hsh : ∀ i, i < np → 0 ≤ (cSh M 1 (6 + i)).toInt ∧ (cSh M 1 (6 + i)).toInt < 5 := fun i hi => r_sh hm hi
  have hL : stN (cAll M 1 np nr) 300 = rSt R np nr := q_St hm hj0 (by omega)
  have hpw : 2 ^ nr ≤ 4096 := Nat.pow_le_pow_right (n := 2) (by omega) (show nr ≤ 12 from hr2)
  refine xG_run 1 rfl (by repeat' (first | exact trivial | assumption | exact xob_b rfl | exact xal_b rfl | (apply And.intro) | decide)) ?_
  try dsimp only [xsto1, xsto2, xkill, xget, xset, gd_0, gd_s]
  try rw [hr]
  refine xG_br rfl (fun h1 => ?_) (fun h1 => ?_)
  · have hnU : ¬ rwS R nr x := fun ⟨U, q⟩ => by
      have h9 := q.1.2.2
      have h8 := hpw
      rw [q.1.1] at h1
      exact absurd h1 (Int32.not_le.mpr (show nI 0 < nI U from nI_lt (by omega) (by omega)))
    refine xG_run 1 rfl (by repeat' (first | exact trivial | assumption | exact xob_b rfl | exact xal_b rfl | (apply And.intro) | decide)) ?_
    try dsimp only [xsto1, xsto2, xkill, xget, xset, gd_0, gd_s]
    try rw [hr]
    refine r2_z rfl rfl (by first | decide | assumption) ?_
    exact ⟨Or.inr ⟨hnU, rfl⟩, rfl⟩
  · obtain ⟨U, hU31, rfl⟩ : ∃ U, U < 2147483648 ∧ x = nI U := by
      have h9 := Int32.not_le.mp h1
      rw [Int32.lt_iff_toInt_lt, Int32.toInt_zero] at h9
      have h8 := Int32.toInt_lt x
      refine ⟨x.toInt.toNat, by omega, Int32.toInt_inj.mp ?_⟩
      rw [nI_ti (by omega)]
      omega
    have hU1 : 1 ≤ U := by
      have h9 := Int32.not_le.mp h1
      rw [Int32.lt_iff_toInt_lt, Int32.toInt_zero, nI_ti hU31] at h9
      omega
    refine xG_run 5 rfl (by repeat' (first | exact trivial | assumption | exact xob_b rfl | exact xal_b rfl | (apply And.intro) | decide)) ?_
    try dsimp only [xsto1, xsto2, xkill, xget, xset, gd_0, gd_s]
    try rw [hr]
    refine xG_br rfl (fun h13 => ?_) (fun h13 => ?_)
    · try rw [hr] at h13
      have hnU : ¬ rwS R nr (nI U) := fun ⟨U', q⟩ => by
        have eU : U' = U := by
          have h9 := congrArg Int32.toNatClampNeg q.1.1
          rw [nI_cl hU31, nI_cl (by have := q.1.2.2; omega)] at h9
          exact h9.symm
        subst eU
        exact h13 ((shr0 hU31 (by omega)).mpr q.1.2.2)
      refine xG_run 1 rfl (by repeat' (first | exact trivial | assumption | exact xob_b rfl | exact xal_b rfl | (apply And.intro) | decide)) ?_
      try dsimp only [xsto1, xsto2, xkill, xget, xset, gd_0, gd_s]
      try rw [hr]
      refine r2_z rfl rfl (by first | decide | assumption) ?_
      exact ⟨Or.inr ⟨hnU, rfl⟩, rfl⟩
    · try rw [hr] at h13
      have hUn : U < 2 ^ nr := (shr0 hU31 (by omega)).mp (Decidable.not_not.mp h13)
      have hbc := bC_n (n := U) (by omega)
      refine xG_run 1 rfl (by repeat' (first | exact trivial | assumption | exact xob_b rfl | exact xal_b rfl | (apply And.intro) | decide)) ?_
      try dsimp only [xsto1, xsto2, xkill, xget, xset, gd_0, gd_s]
      try rw [hr]
      refine xG_c2 1 rfl (by repeat' (first | exact trivial | assumption | exact xob_b rfl | exact xal_b rfl | (apply And.intro) | decide)) rfl rfl (by decide) cw_J6_bitCount_0f7a4 (d' := d - 1) e_bitCount (by omega) ?_
      rintro v M' ⟨rfl, hM⟩
      subst M'
      dsimp only [Option.toList, List.cons_append, List.nil_append]
      refine xG_run 1 rfl (by repeat' (first | exact trivial | assumption | exact xob_b rfl | exact xal_b rfl | (apply And.intro) | decide)) ?_
      try dsimp only [xsto1, xsto2, xkill, xget, xset, gd_0, gd_s]
      try rw [hr]
      refine xG_br rfl (fun h22 => ?_) (fun h22 => ?_)
      · rw [hbc] at h22
        have hb31 := bK_le U 12
        rw [bK_n (by omega)] at hb31
        have hbn : bN U ≤ 6 := (nI_leI (a := bN U) (b := 6) (by omega) (by omega)).mp h22
        refine xG_run 2 rfl (by repeat' (first | exact trivial | assumption | exact xob_b rfl | exact xal_b rfl | (apply And.intro) | decide)) ?_
        try dsimp only [xsto1, xsto2, xkill, xget, xset, gd_0, gd_s]
        try rw [hr]
        have lp := xG_upP (κ := κ) (m := mX11_isSetToRedraw) (r := (d, 0, 0)) (YS := xRet mX11_isSetToRedraw false (fun v M' n' => n' = 182 ∧ (((rwS R nr (nI U) ∧ v = some (.int 1)) ∨ (¬ rwS R nr (nI U) ∧ v = some (.int 0))) ∧ M' = M))) (fun k X => X = (29, [some (.ref 0), some (.int (nI U)), some (.int (nI k))], [], M, z2) ∧ ∀ i, i < k → U.testBit i = true → rr R i 5 = 0) nr ?_ ?_ 0 (Nat.zero_le _)
        · exact lp _ ⟨rfl, fun i hi => absurd hi (Nat.not_lt_zero _)⟩
        · rintro k X hk ⟨rfl, hok⟩ ih
          have hbt := xbd_nI (S := U) (i := k) (by omega)
          have hk1 : (nI k).toNatClampNeg = k := nI_cl (by omega)
          have hxa : xob (16 + (nI k).toNatClampNeg) 5 182 := by rw [hk1]; exact xob_r1 (by omega)
          have hqa : xqr 3 182 (nI k) := xqr_n rfl 12 rfl (by omega) (by omega)
          have hrk : gI M (16 + (nI k).toNatClampNeg) 5 = rr R k 5 := by rw [hk1]; exact (r_q hm hk).1 5 (by omega)
          refine xG_run 4 rfl (by repeat' (first | exact trivial | assumption | exact xob_b rfl | exact xal_b rfl | (apply And.intro) | decide)) ?_
          try dsimp only [xsto1, xsto2, xkill, xget, xset, gd_0, gd_s]
          try rw [hrk]
          refine xG_brF rfl (by rw [hr]; exact nI_ge hk (by omega)) ?_
          refine xG_run 6 rfl (by repeat' (first | exact trivial | assumption | exact xob_b rfl | exact xal_b rfl | (apply And.intro) | decide)) ?_
          try dsimp only [xsto1, xsto2, xkill, xget, xset, gd_0, gd_s]
          try rw [hrk]
          refine xG_br rfl (fun h46 => ?_) (fun h46 => ?_)
          · refine xG_run 2 rfl (by repeat' (first | exact trivial | assumption | exact xob_b rfl | exact xal_b rfl | (apply And.intro) | decide)) ?_
            try dsimp only [xsto1, xsto2, xkill, xget, xset, gd_0, gd_s]
            try rw [hrk]
            rw [nI_1]
            refine ih _ ⟨rfl, fun i hi hi2 => ?_⟩
            by_cases e : i = k
            · subst e
              exact absurd (hbt.mpr hi2) h46
            · exact hok i (by omega) hi2
          · refine xG_run 6 rfl (by repeat' (first | exact trivial | assumption | exact xob_b rfl | exact xal_b rfl | (apply And.intro) | decide)) ?_
            try dsimp only [xsto1, xsto2, xkill, xget, xset, gd_0, gd_s]
            try rw [hrk]
            refine xG_br rfl (fun h61 => ?_) (fun h61 => ?_)
            · refine xG_run 2 rfl (by repeat' (first | exact trivial | assumption | exact xob_b rfl | exact xal_b rfl | (apply And.intro) | decide)) ?_
              try dsimp only [xsto1, xsto2, xkill, xget, xset, gd_0, gd_s]
              try rw [hrk]
              rw [nI_1]
              refine ih _ ⟨rfl, fun i hi hi2 => ?_⟩
              by_cases e : i = k
              · subst e
                exact h61
              · exact hok i (by omega) hi2
            · refine xG_run 1 rfl (by repeat' (first | exact trivial | assumption | exact xob_b rfl | exact xal_b rfl | (apply And.intro) | decide)) ?_
              try dsimp only [xsto1, xsto2, xkill, xget, xset, gd_0, gd_s]
              try rw [hrk]
              refine r2_z rfl rfl (by first | decide | assumption) ?_
              refine ⟨Or.inr ⟨fun ⟨U', q⟩ => ?_, rfl⟩, rfl⟩
              have eU : U' = U := nI_injb (Nat.lt_of_lt_of_le q.1.2.2 hpw) (by omega) q.1.1
              subst eU
              exact h61 (q.2.1 k hk (hbt.mp (Decidable.not_not.mp h46)))
        · rintro X ⟨rfl, hok⟩
          refine xG_run 4 rfl (by repeat' (first | exact trivial | assumption | exact xob_b rfl | exact xal_b rfl | (apply And.intro) | decide)) ?_
          try dsimp only [xsto1, xsto2, xkill, xget, xset, gd_0, gd_s]
          refine xG_brT rfl (by rw [hr]; exact Int32.le_refl _) ?_
          refine xG_run 1 rfl (by repeat' (first | exact trivial | assumption | exact xob_b rfl | exact xal_b rfl | (apply And.intro) | decide)) ?_
          try dsimp only [xsto1, xsto2, xkill, xget, xset, gd_0, gd_s]
          refine r2_z rfl rfl (by first | decide | assumption) ?_
          exact ⟨Or.inl ⟨⟨U, ⟨rfl, hU1, hUn⟩, hok, hbn⟩, rfl⟩, rfl⟩
      · rw [hbc] at h22
        have hnU : ¬ rwS R nr (nI U) := fun ⟨U', q⟩ => by
          have eU : U' = U := nI_injb (Nat.lt_of_lt_of_le q.1.2.2 hpw) (by omega) q.1.1
          subst eU
          exact h22 (show nI (bN U') ≤ nI 6 from nI_le q.2.2 (by omega))
        refine xG_run 1 rfl (by repeat' (first | exact trivial | assumption | exact xob_b rfl | exact xal_b rfl | (apply And.intro) | decide)) ?_
        try dsimp only [xsto1, xsto2, xkill, xget, xset, gd_0, gd_s]
        try rw [hr]
        refine r2_z rfl rfl (by first | decide | assumption) ?_
        exact ⟨Or.inr ⟨hnU, rfl⟩, rfl⟩
set_option maxRecDepth 4000 in
theorem e_xisSafe {κ : xKK} {d : Nat} {M : xM} {np nr ng mo : Nat} {R : xM} {S2 mp : Int32} (hm : mR M 28 R 167 np nr ng) (hj0 : gJ R 166 18 = 0) (hBL : BL M 0 S2 np nr) (hp : gJ M 123 5 = cPs M np - 0) (h5 : gI M 136 5 = nI mo) (h6 : gI M 136 6 = mp) (hmo : mo ≤ 300) (hd : 5 ≤ d) : xE2 κ mX4_isSafe d [.ref 136, .ref 28, .ref 123] M (fun v M' => v = some (.int (if isF R np nr (nI mo) mp then 1 else 0)) ∧ M' = M) := by
  refine xE2_of ci_X4_isSafe cl_X4_isSafe cw_X4_isSafe rfl (L := [some (.ref 136), some (.ref 28), some (.ref 123), none, none]) rfl ?_
  have hn2 := hm.1.1
  have hr2 := hm.1.2.1
  have hr := hm.2.2.1.1
  have eS : stN (fun l => cAll M 28 np nr l - 0) mo = stN (rAll R np nr) mo := stN_x hm hj0 hmo
  have hsm := stN_mo (F := rAll R np nr) hmo
  refine xG_run 3 rfl (by repeat' (first | exact trivial | assumption | exact xob_b rfl | exact xal_b rfl | (apply And.intro) | decide)) ?_
  try dsimp only [xsto1, xsto2, xkill, xget, xset, gd_0, gd_s]
  rw [h5]
  refine xG_c2 1 rfl (by repeat' (first | exact trivial | assumption | exact xob_b rfl | exact xal_b rfl | (apply And.intro) | decide)) rfl rfl (by decide) cw_X0_lean (d' := d - 1) (e_leanB (mo := mo) (x := 0) (S := 0) (S2 := S2) hBL hn2 hr2 hp hmo (by omega)) (by omega) ?_
  rintro v M' ⟨rfl, hM⟩
  subst M'
  dsimp only [Option.toList, List.cons_append, List.nil_append]
  rw [eS]
  refine xG_run 3 rfl (by repeat' (first | exact trivial | assumption | exact xob_b rfl | exact xal_b rfl | (apply And.intro) | decide)) ?_
  try dsimp only [xsto1, xsto2, xkill, xget, xset, gd_0, gd_s]
  refine xG_br rfl (fun h13 => ?_) (fun h13 => ?_)
  · refine xG_run 2 rfl (by repeat' (first | exact trivial | assumption | exact xob_b rfl | exact xal_b rfl | (apply And.intro) | decide)) ?_
    try dsimp only [xsto1, xsto2, xkill, xget, xset, gd_0, gd_s]
    have hab : ab (rSt R np nr) ≤ nI mo := Decidable.not_not.mp (fun q => h13 (hsm.1.mpr q))
    have hbi : bi 300 (rSt R np nr) := stN_bi (by omega) (fun q => h13 ((hsm.2 h13).trans q))
    rw [show stN (rAll R np nr) mo = rSt R np nr from hsm.2 h13]
    have lp := xG_upP (κ := κ) (m := mX4_isSafe) (r := (d, 0, 0)) (YS := xRet mX4_isSafe false (fun v M' n' => n' = 182 ∧ (v = some (.int (if isF R np nr (nI mo) mp then 1 else 0)) ∧ M' = M))) (fun k X => X = (21, [some (.ref 136), some (.ref 28), some (.ref 123), some (.int (rSt R np nr)), some (.int (nI k))], [], M, z2) ∧ ∀ i, i < k → rP R i (rSt R np nr) ≤ mp) nr ?_ ?_ 0 (Nat.zero_le _)
    · exact lp _ ⟨rfl, fun i hi => absurd hi (Nat.not_lt_zero _)⟩
    · rintro k X hk ⟨rfl, hok⟩ ih
      have hk1 : (nI k).toNatClampNeg = k := nI_cl (by omega)
      have hxa : xob (43 + (nI k).toNatClampNeg) 5 182 := by rw [hk1]; exact xob_r28 (by omega)
      have hqa : xqr 30 182 (nI k) := xqr_n rfl 12 rfl (by omega) (by omega)
      have hpk : cP M (43 + (nI k).toNatClampNeg) (rSt R np nr) = rP R k (rSt R np nr) := by rw [hk1]; exact q_P hm hk hbi
      refine xG_run 3 rfl (by repeat' (first | exact trivial | assumption | exact xob_b rfl | exact xal_b rfl | (apply And.intro) | decide)) ?_
      try dsimp only [xsto1, xsto2, xkill, xget, xset, gd_0, gd_s]
      refine xG_brF rfl (by rw [hr]; exact nI_ge hk (by omega)) ?_
      refine xG_run 5 rfl (by repeat' (first | exact trivial | assumption | exact xob_b rfl | exact xal_b rfl | (apply And.intro) | decide)) ?_
      try dsimp only [xsto1, xsto2, xkill, xget, xset, gd_0, gd_s]
      refine xG_c2 1 rfl (by repeat' (first | exact trivial | assumption | exact xob_b rfl | exact xal_b rfl | (apply And.intro) | decide)) rfl rfl (by decide) cw_X5_pullAt (d' := d - 1) (e_pullAt hxa) (by omega) ?_
      rintro v M' ⟨rfl, hM⟩
      subst M'
      dsimp only [Option.toList, List.cons_append, List.nil_append]
      rw [hpk]
      refine xG_run 2 rfl (by repeat' (first | exact trivial | assumption | exact xob_b rfl | exact xal_b rfl | (apply And.intro) | decide)) ?_
      try dsimp only [xsto1, xsto2, xkill, xget, xset, gd_0, gd_s]
      refine xG_br rfl (fun h45 => ?_) (fun h45 => ?_)
      · refine xG_run 2 rfl (by repeat' (first | exact trivial | assumption | exact xob_b rfl | exact xal_b rfl | (apply And.intro) | decide)) ?_
        try dsimp only [xsto1, xsto2, xkill, xget, xset, gd_0, gd_s]
        rw [nI_1]
        refine ih _ ⟨rfl, fun i hi => ?_⟩
        by_cases e : i = k
        · subst e; rw [← h6]; exact h45
        · exact hok i (by omega)
      · refine xG_run 1 rfl (by repeat' (first | exact trivial | assumption | exact xob_b rfl | exact xal_b rfl | (apply And.intro) | decide)) ?_
        try dsimp only [xsto1, xsto2, xkill, xget, xset, gd_0, gd_s]
        refine r2_z rfl rfl (by first | decide | assumption) ?_
        refine ⟨?_, rfl⟩
        have hnn : ¬ isF R np nr (nI mo) mp := fun q => h45 (by rw [h6]; exact q.2 k hk)
        rw [if_neg hnn]
    · rintro X ⟨rfl, hok⟩
      refine xG_run 3 rfl (by repeat' (first | exact trivial | assumption | exact xob_b rfl | exact xal_b rfl | (apply And.intro) | decide)) ?_
      try dsimp only [xsto1, xsto2, xkill, xget, xset, gd_0, gd_s]
      refine xG_brT rfl (by rw [hr]; exact Int32.le_refl _) ?_
      refine xG_run 1 rfl (by repeat' (first | exact trivial | assumption | exact xob_b rfl | exact xal_b rfl | (apply And.intro) | decide)) ?_
      try dsimp only [xsto1, xsto2, xkill, xget, xset, gd_0, gd_s]
      refine r2_z rfl rfl (by first | decide | assumption) ?_
      refine ⟨?_, rfl⟩
      have hnn : isF R np nr (nI mo) mp := ⟨hab, hok⟩
      rw [if_pos hnn]
  · refine xG_run 1 rfl (by repeat' (first | exact trivial | assumption | exact xob_b rfl | exact xal_b rfl | (apply And.intro) | decide)) ?_
    try dsimp only [xsto1, xsto2, xkill, xget, xset, gd_0, gd_s]
    refine r2_z rfl rfl (by first | decide | assumption) ?_
    refine ⟨?_, rfl⟩
    have hnn : ¬ isF R np nr (nI mo) mp := fun q => (hsm.1.mp (Decidable.not_not.mp h13)) q.1
    rw [if_neg hnn]
