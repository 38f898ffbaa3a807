/-! ===== leastHolding, breach, climb of the class ===== -/
theorem hl_at {R : xM} {φ : Nat → Int32} {nu k : Nat} (h : ∀ i, i < k → hlP R φ i = false) (h2 : hlP R φ k = true) (hk : k < nu) : hlV R φ nu = nI k := by
  unfold hlV
  rw [fF_at h h2 hk, if_pos hk]
theorem hl_no {R : xM} {φ : Nat → Int32} {nu : Nat} (h : ∀ i, i < nu → hlP R φ i = false) : hlV R φ nu = -4 := by
  unfold hlV
  rw [fF_no h, if_neg (Nat.lt_irrefl nu)]
theorem hlP_0 {R : xM} {φ : Nat → Int32} {i : Nat} (h : gI R 167 (179 + 122 * i) = 0) : hlP R φ i = false := by
  unfold hlP
  rw [decide_eq_false (fun q => q h), Bool.false_and]
theorem hlP_1 {R : xM} {φ : Nat → Int32} {i : Nat} (h : ¬ gI R 167 (179 + 122 * i) = 0) : hlP R φ i = (RX (ruT R i) (ruZ R i) φ 2 0 0).2.2 := by
  unfold hlP
  rw [decide_eq_true h, Bool.true_and]
def clV (R : xM) (np nr nu : Nat) (hour : Int32) : Int32 := if fF (fun p => decide (¬ hlV R (fct R np nr p hour) nu = -4)) np = 0 then -4 else nI (fF (fun p => decide (¬ hlV R (fct R np nr p hour) nu = -4)) np - 1)
theorem cl_at {R : xM} {np nr nu k : Nat} {hour : Int32} (h : ∀ i, i < k → hlV R (fct R np nr i hour) nu = -4) (h2 : k = np ∨ (k < np ∧ ¬ hlV R (fct R np nr k hour) nu = -4)) : clV R np nr nu hour = if k = 0 then -4 else nI (k - 1) := by
  have e : fF (fun p => decide (¬ hlV R (fct R np nr p hour) nu = -4)) np = k := by
    have h0 : ∀ i, i < k → (fun p => decide (¬ hlV R (fct R np nr p hour) nu = -4)) i = false := fun i hi => decide_eq_false (fun q => q (h i hi))
    rcases h2 with rfl | ⟨h2, h3⟩
    · exact fF_no h0
    · exact fF_at h0 (decide_eq_true h3) h2
  unfold clV
  rw [e]
set_option maxRecDepth 4000 in
theorem e_leastHolding {κ : xKK} {d : Nat} {M : xM} {R : xM} {nu p : Nat} {φ : Nat → Int32} (hu : ruR M 55 R 167 nu) (hp : p < 10) (hf0 : ∀ i, i < 6 → gI M 131 i = φ i) (h6 : gI M (6 + p) 0 = φ 6) (h7 : gI M (6 + p) 1 = φ 7) (hd : 7 ≤ d) : xE2 κ mX7_leastHolding d [.ref 55, .ref 130, .ref (6 + p)] M (fun v M' => v = some (.int (hlV R φ nu)) ∧ uK M M') := by
  refine xE2_of ci_X7_leastHolding cl_X7_leastHolding cw_X7_leastHolding rfl (L := [some (.ref 55), some (.ref 130), some (.ref (6 + p)), none]) rfl ?_
  have hnu := hu.1
  have hxp : xob (6 + p) 3 182 := xob_p1 (by omega)
  have hx6 : xar 131 0 182 6 := xar_n (j := 6) rfl 8 rfl (by omega) (by omega)
  have hx7 : xar 131 0 182 7 := xar_n (j := 7) rfl 8 rfl (by omega) (by omega)
  have hc6 : (6 : Int32).toNatClampNeg = 6 := rfl
  have hc7 : (7 : Int32).toNatClampNeg = 7 := rfl
  refine xG_run 8 rfl (by repeat' (first | exact trivial | assumption | exact xob_b rfl | exact xal_b rfl | (apply And.intro) | decide)) ?_
  try dsimp only [xsto1, xsto2, xkill, xget, xset, gd_0, gd_s]
  try simp (disch := omega) only [hc6, hc7, g_ne]
  refine xG_run 6 rfl (by repeat' (first | exact trivial | assumption | exact xob_b rfl | exact xal_b rfl | (apply And.intro) | decide)) ?_
  try dsimp only [xsto1, xsto2, xkill, xget, xset, gd_0, gd_s]
  try simp (disch := omega) only [hc6, hc7, g_ne]
  have lp := xG_upP (κ := κ) (m := mX7_leastHolding) (r := (d, 0, 0)) (YS := xRet mX7_leastHolding false (fun v M' n' => n' = 182 ∧ (v = some (.int (hlV R φ nu)) ∧ uK M M'))) (fun k X => ∃ M2 : xM, X = (24, [some (.ref 55), some (.ref 130), some (.ref (6 + p)), some (.int (nI k))], [], M2, z2) ∧ uK M M2 ∧ (∀ i, i < 8 → gI M2 131 i = φ i) ∧ ∀ i, i < k → hlP R φ i = false) nu ?_ ?_ 0 (Nat.zero_le _)
  · refine lp _ ⟨_, rfl, uK_t (uK_i (by omega)) (uK_i (by omega)), fun i hi => ?_, fun i hi => absurd hi (Nat.not_lt_zero i)⟩
    by_cases c7 : i = 7
    · subst c7; rw [gI_self]; exact h7
    · by_cases c6 : i = 6
      · subst c6; rw [gI_ne (by omega), gI_self]; exact h6
      · rw [gI_ne (by omega), gI_ne (by omega)]; exact hf0 i (by omega)
  · rintro k X hk ⟨M2, rfl, hK, hf, hno⟩ ih
    have hk1 : (nI k).toNatClampNeg = k := nI_cl (by omega)
    have hu2 := ruR_k hu (kFr_K hK)
    obtain ⟨z, h1, ⟨h2, h3⟩, ⟨h4, h5⟩, h6, h7⟩ := hu2.2.2 k hk
    have hz9 : ruZ R k = z := hl_z (C := M) (nu := 0) h1 h3
    have hxt : xar 70 2 182 (nI k) := xar_n rfl 12 rfl (by omega) (by omega)
    have hxz : xar 69 0 182 (nI k) := xar_n rfl 12 rfl (by omega) (by omega)
    have hqt : xqr 56 182 (nI k) := xqr_n rfl 12 rfl (by omega) (by omega)
    have hTk : ∀ q, q < z → gI M2 (57 + k) q = ruT R k q := fun q hq => by
      unfold ruT
      rw [hz9, tx_k hq]
      exact h6 q hq
    have hok : okR (ruT R k) z := by
      unfold ruT
      rw [hz9]
      exact h7
    have hsh := sh_rt k (by omega)
    have hcn : gI M2 55 3 = nI nu := hu2.2.1.1
    refine xG_run 3 rfl (by repeat' (first | exact trivial | assumption | exact xob_b rfl | exact xal_b rfl | (apply And.intro) | decide)) ?_
    try dsimp only [xsto1, xsto2, xkill, xget, xset, gd_0, gd_s]
    refine xG_brF rfl (by rw [hcn]; exact nI_ge hk (by omega)) ?_
    refine xG_run 4 rfl (by repeat' (first | exact trivial | assumption | exact xob_b rfl | exact xal_b rfl | (apply And.intro) | decide)) ?_
    try dsimp only [xsto1, xsto2, xkill, xget, xset, gd_0, gd_s]
    rw [hk1]
    refine xG_br rfl (fun h38 => ?_) (fun h38 => ?_)
    · refine xG_run 2 rfl (by repeat' (first | exact trivial | assumption | exact xob_b rfl | exact xal_b rfl | (apply And.intro) | decide)) ?_
      try dsimp only [xsto1, xsto2, xkill, xget, xset, gd_0, gd_s]
      rw [nI_1]
      refine ih _ ⟨M2, rfl, hK, hf, fun i hi => ?_⟩
      by_cases e : i = k
      · subst e; exact hlP_0 (h4.symm.trans h38)
      · exact hno i (by omega)
    · refine xG_run 5 rfl (by repeat' (first | exact trivial | assumption | exact xob_b rfl | exact xal_b rfl | (apply And.intro) | decide)) ?_
      try dsimp only [xsto1, xsto2, xkill, xget, xset, gd_0, gd_s]
      try rw [hk1]
      refine xG_run 4 rfl (by repeat' (first | exact trivial | assumption | exact xob_b rfl | exact xal_b rfl | (apply And.intro) | decide)) ?_
      try dsimp only [xsto1, xsto2, xkill, xget, xset, gd_0, gd_s]
      rw [hk1, h2]
      refine xG_c2 2 rfl (by repeat' (first | exact trivial | assumption | exact xob_b rfl | exact xal_b rfl | (apply And.intro) | decide)) rfl rfl (by decide) cw_X6_read (d' := d - 1) (e_uread (t := 57 + k) (n := z) (T := ruT R k) hsh (by omega) (by omega) h1 hTk (by omega)) (by omega) ?_
      rintro v M3 ⟨rfl, hv3, hR3⟩
      rw [flV_f, (fl_ok h1).mpr hok]
      obtain ⟨y, a, ey, ea, eya⟩ := hv3 (okR_f _ hok)
      have hva : (y || a) = (RX (ruT R k) (ruZ R k) φ 2 0 0).2.2 := by rw [eya, hz9, RX_p hf]
      dsimp only [Option.toList, List.cons_append, List.nil_append]
      refine xG_run 1 rfl (by repeat' (first | exact trivial | assumption | exact xob_b rfl | exact xal_b rfl | (apply And.intro) | decide)) ?_
      try dsimp only [xsto1, xsto2, xkill, xget, xset, gd_0, gd_s]
      refine xG_brF rfl (fun q => q rfl) ?_
      refine xG_run 1 rfl (by repeat' (first | exact trivial | assumption | exact xob_b rfl | exact xal_b rfl | (apply And.intro) | decide)) ?_
      try dsimp only [xsto1, xsto2, xkill, xget, xset, gd_0, gd_s]
      refine xG_c2 0 rfl (by repeat' (first | exact trivial | assumption | exact xob_b rfl | exact xal_b rfl | (apply And.intro) | decide)) rfl rfl (by decide) cw_X6_holds (d' := d - 1) (e_uholds ey ea) (by omega) ?_
      rintro v M' ⟨rfl, hM⟩
      subst M'
      dsimp only [Option.toList, List.cons_append, List.nil_append]
      refine xG_br rfl (fun h66 => ?_) (fun h66 => ?_)
      · refine xG_run 2 rfl (by repeat' (first | exact trivial | assumption | exact xob_b rfl | exact xal_b rfl | (apply And.intro) | decide)) ?_
        try dsimp only [xsto1, xsto2, xkill, xget, xset, gd_0, gd_s]
        rw [nI_1]
        refine ih _ ⟨M3, rfl, uK_t hK (uK_R hR3), fun i hi => (hR3.1 _ _ (by omega) (by omega)).trans (hf i hi), fun i hi => ?_⟩
        by_cases e : i = k
        · subst e
          rw [hlP_1 (fun q => h38 (h4.trans q)), ← hva]
          exact bl_0.mp h66
        · exact hno i (by omega)
      · refine xG_run 1 rfl (by repeat' (first | exact trivial | assumption | exact xob_b rfl | exact xal_b rfl | (apply And.intro) | decide)) ?_
        try dsimp only [xsto1, xsto2, xkill, xget, xset, gd_0, gd_s]
        refine r2_i rfl rfl ?_
        exact ⟨by rw [hl_at hno (by rw [hlP_1 (fun q => h38 (h4.trans q)), ← hva]; exact bl_n.mp h66) hk], uK_t hK (uK_R hR3)⟩
  · rintro X ⟨M2, rfl, hK, hf, hno⟩
    have hcn : gI M2 55 3 = nI nu := (ruR_k hu (kFr_K hK)).2.1.1
    refine xG_run 3 rfl (by repeat' (first | exact trivial | assumption | exact xob_b rfl | exact xal_b rfl | (apply And.intro) | decide)) ?_
    try dsimp only [xsto1, xsto2, xkill, xget, xset, gd_0, gd_s]
    refine xG_brT rfl (by rw [hcn]; exact Int32.le_refl _) ?_
    refine xG_run 1 rfl (by repeat' (first | exact trivial | assumption | exact xob_b rfl | exact xal_b rfl | (apply And.intro) | decide)) ?_
    try dsimp only [xsto1, xsto2, xkill, xget, xset, gd_0, gd_s]
    refine r2_i rfl rfl ?_
    exact ⟨by rw [hl_no hno], hK⟩
set_option maxRecDepth 4000 in
theorem e_x_breach {κ : xKK} {d : Nat} {M : xM} {np nr ng : Nat} {R : xM} (hm : mR M 1 R 167 np nr ng) (hj0 : gJ R 166 18 = 0) {nu : Nat} (hu : ruR M 55 R 167 nu) {i h : Int32} (hd : 9 ≤ d) : xE2 κ mX11_breach d [.ref 0, .int i, .int h] M (fun v M' => ((∃ p, p < np ∧ i = nI p ∧ (0 ≤ h ∧ h ≤ 23) ∧ v = some (.int (hlV R (fct R np nr p h) nu))) ∨ (¬ ((∃ p, p < np ∧ i = nI p) ∧ 0 ≤ h ∧ h ≤ 23) ∧ v = some (.int (-1)))) ∧ kFr M M') := by
  refine xE2_of ci_X11_breach cl_X11_breach cw_X11_breach rfl (L := [some (.ref 0), some (.int i), some (.int h), none]) rfl ?_
  have hn := hm.2.1.1
  have hn2 := hm.1.1
  have hr := hm.2.2.1.1
  have hr2 := hm.1.2.1
  have hsh : ∀ i, i < np → 0 ≤ (cSh M 1 (6 + i)).toInt ∧ (cSh M 1 (6 + i)).toInt < 5 := fun i hi => r_sh hm hi
  have hL : stN (cAll M 1 np nr) 300 = rSt R np nr := q_St hm hj0 (by omega)
  refine xG_run 3 rfl (by repeat' (first | exact trivial | assumption | exact xob_b rfl | exact xal_b rfl | (apply And.intro) | decide)) ?_
  try dsimp only [xsto1, xsto2, xkill, xget, xset, gd_0, gd_s]
  refine xG_c2 1 rfl (by repeat' (first | exact trivial | assumption | exact xob_b rfl | exact xal_b rfl | (apply And.intro) | decide)) rfl rfl (by decide) cw_X1_pieceAt (d' := d - 1) (e_pieceAt hn hn2) (by omega) ?_
  rintro v M' ⟨hv, hM⟩
  subst M'
  rcases hv with ⟨rfl, hnp⟩ | ⟨p, hp, hip, rfl⟩
  · dsimp only [Option.toList, List.cons_append, List.nil_append]
    refine xG_run 4 rfl (by repeat' (first | exact trivial | assumption | exact xob_b rfl | exact xal_b rfl | (apply And.intro) | decide)) ?_
    try dsimp only [xsto1, xsto2, xkill, xget, xset, gd_0, gd_s]
    refine r2_i rfl rfl ?_
    exact ⟨Or.inr ⟨fun q => by obtain ⟨⟨j9, a1, a2⟩, -⟩ := q; exact hnp (by rw [a2]; exact inI a1 (by omega)), rfl⟩, kFr_r⟩
  · dsimp only [Option.toList, List.cons_append, List.nil_append]
    have hxp : xob (6 + p) 3 182 := xob_p1 (by omega)
    refine xG_run 4 rfl (by repeat' (first | exact trivial | assumption | exact xob_b rfl | exact xal_b rfl | (apply And.intro) | decide)) ?_
    try dsimp only [xsto1, xsto2, xkill, xget, xset, gd_0, gd_s]
    refine xG_br rfl (fun h14 => ?_) (fun h14 => ?_)
    · refine xG_run 1 rfl (by repeat' (first | exact trivial | assumption | exact xob_b rfl | exact xal_b rfl | (apply And.intro) | decide)) ?_
      try dsimp only [xsto1, xsto2, xkill, xget, xset, gd_0, gd_s]
      refine r2_i rfl rfl ?_
      exact ⟨Or.inr ⟨fun q => absurd q.2.1 (Int32.not_le.mpr h14), rfl⟩, kFr_r⟩
    · refine xG_run 2 rfl (by repeat' (first | exact trivial | assumption | exact xob_b rfl | exact xal_b rfl | (apply And.intro) | decide)) ?_
      try dsimp only [xsto1, xsto2, xkill, xget, xset, gd_0, gd_s]
      refine xG_br rfl (fun h20 => ?_) (fun h20 => ?_)
      · refine xG_run 2 rfl (by repeat' (first | exact trivial | assumption | exact xob_b rfl | exact xal_b rfl | (apply And.intro) | decide)) ?_
        try dsimp only [xsto1, xsto2, xkill, xget, xset, gd_0, gd_s]
        refine xG_c2 1 rfl (by repeat' (first | exact trivial | assumption | exact xob_b rfl | exact xal_b rfl | (apply And.intro) | decide)) rfl rfl (by decide) cw_X11_lookAround (d' := d - 1) (e_lookAround hm hj0 (by omega)) (by omega) ?_
        rintro v M2 ⟨rfl, hk2, hf2⟩
        have hm2 := mR_k hm hk2
        dsimp only [Option.toList, List.cons_append, List.nil_append]
        refine xG_run 5 rfl (by repeat' (first | exact trivial | assumption | exact xob_b rfl | exact xal_b rfl | (apply And.intro) | decide)) ?_
        try dsimp only [xsto1, xsto2, xkill, xget, xset, gd_0, gd_s]
        refine xG_c2 2 rfl (by repeat' (first | exact trivial | assumption | exact xob_b rfl | exact xal_b rfl | (apply And.intro) | decide)) rfl rfl (by decide) cw_X7_leastHolding (d' := d - 1) (e_leastHolding (φ := fct R np nr p h) (ruR_k hu hk2) (by omega) (hf2 p) (r_p hm2 hp).2 ((r_p hm2 hp).1 0 (by omega)) (by omega)) (by omega) ?_
        rintro v M3 ⟨rfl, hK3⟩
        dsimp only [Option.toList, List.cons_append, List.nil_append]
        refine r2_i rfl rfl ?_
        exact ⟨Or.inl ⟨p, hp, hip, ⟨Int32.not_lt.mp h14, h20⟩, rfl⟩, kFr_t hk2 (kFr_K hK3)⟩
      · refine xG_run 1 rfl (by repeat' (first | exact trivial | assumption | exact xob_b rfl | exact xal_b rfl | (apply And.intro) | decide)) ?_
        try dsimp only [xsto1, xsto2, xkill, xget, xset, gd_0, gd_s]
        refine r2_i rfl rfl ?_
        exact ⟨Or.inr ⟨fun q => h20 q.2.2, rfl⟩, kFr_r⟩
set_option maxRecDepth 4000 in
theorem e_x_climb {κ : xKK} {d : Nat} {M : xM} {np nr ng : Nat} {R : xM} (hm : mR M 1 R 167 np nr ng) (hj0 : gJ R 166 18 = 0) {nu : Nat} (hu : ruR M 55 R 167 nu) {h : Int32} (hd : 9 ≤ d) : xE2 κ mX11_climb d [.ref 0, .int h] M (fun v M' => (((0 ≤ h ∧ h ≤ 23) ∧ v = some (.int (clV R np nr nu h))) ∨ (¬ (0 ≤ h ∧ h ≤ 23) ∧ v = some (.int (-1)))) ∧ kFr M M') := by
  refine xE2_of ci_X11_climb cl_X11_climb cw_X11_climb rfl (L := [some (.ref 0), some (.int h), none, none]) rfl ?_
  have hn := hm.2.1.1
  have hn2 := hm.1.1
  have hr := hm.2.2.1.1
  have hr2 := hm.1.2.1
  have hsh : ∀ i, i < np → 0 ≤ (cSh M 1 (6 + i)).toInt ∧ (cSh M 1 (6 + i)).toInt < 5 := fun i hi => r_sh hm hi
  have hL : stN (cAll M 1 np nr) 300 = rSt R np nr := q_St hm hj0 (by omega)
  refine xG_run 1 rfl (by repeat' (first | exact trivial | assumption | exact xob_b rfl | exact xal_b rfl | (apply And.intro) | decide)) ?_
  try dsimp only [xsto1, xsto2, xkill, xget, xset, gd_0, gd_s]
  refine xG_br rfl (fun h1 => ?_) (fun h1 => ?_)
  · refine xG_run 1 rfl (by repeat' (first | exact trivial | assumption | exact xob_b rfl | exact xal_b rfl | (apply And.intro) | decide)) ?_
    try dsimp only [xsto1, xsto2, xkill, xget, xset, gd_0, gd_s]
    refine r2_i rfl rfl ?_
    exact ⟨Or.inr ⟨fun q => absurd q.1 (Int32.not_le.mpr h1), rfl⟩, kFr_r⟩
  · refine xG_run 2 rfl (by repeat' (first | exact trivial | assumption | exact xob_b rfl | exact xal_b rfl | (apply And.intro) | decide)) ?_
    try dsimp only [xsto1, xsto2, xkill, xget, xset, gd_0, gd_s]
    refine xG_br rfl (fun h7 => ?_) (fun h7 => ?_)
    · refine xG_run 2 rfl (by repeat' (first | exact trivial | assumption | exact xob_b rfl | exact xal_b rfl | (apply And.intro) | decide)) ?_
      try dsimp only [xsto1, xsto2, xkill, xget, xset, gd_0, gd_s]
      refine xG_c2 1 rfl (by repeat' (first | exact trivial | assumption | exact xob_b rfl | exact xal_b rfl | (apply And.intro) | decide)) rfl rfl (by decide) cw_X11_lookAround (d' := d - 1) (e_lookAround hm hj0 (by omega)) (by omega) ?_
      rintro v M2 ⟨rfl, hk2, hf2⟩
      dsimp only [Option.toList, List.cons_append, List.nil_append]
      refine xG_run 4 rfl (by repeat' (first | exact trivial | assumption | exact xob_b rfl | exact xal_b rfl | (apply And.intro) | decide)) ?_
      try dsimp only [xsto1, xsto2, xkill, xget, xset, gd_0, gd_s]
      have hh : 0 ≤ h ∧ h ≤ 23 := ⟨Int32.not_lt.mp h1, h7⟩
      have lp := xG_upP (κ := κ) (m := mX11_climb) (r := (d, 0, 0)) (YS := xRet mX11_climb false (fun v M' n' => n' = 182 ∧ ((((0 ≤ h ∧ h ≤ 23) ∧ v = some (.int (clV R np nr nu h))) ∨ (¬ (0 ≤ h ∧ h ≤ 23) ∧ v = some (.int (-1)))) ∧ kFr M M'))) (fun k X => ∃ M2 : xM, X = (22, [some (.ref 0), some (.int h), some (.int (if k = 0 then -4 else nI (k - 1))), some (.int (nI k))], [], M2, z2) ∧ kFr M M2 ∧ (∀ p i, i < 6 → gI M2 131 i = fct R np nr p h i) ∧ ∀ q, q < k → hlV R (fct R np nr q h) nu = -4) np ?_ ?_ 0 (Nat.zero_le _)
      · exact lp _ ⟨M2, rfl, hk2, hf2, fun q hq => absurd hq (Nat.not_lt_zero q)⟩
      · clear hf2 hk2
        rintro k X hk ⟨M2, rfl, hk2, hf2, hno⟩ ih
        have hm2 := mR_k hm hk2
        have hk1 : (nI k).toNatClampNeg = k := nI_cl (by omega)
        have hn3 : gI M2 1 1 = nI np := hm2.2.1.1
        have hqp : xqr 2 182 (nI k) := xqr_n rfl 10 rfl (by omega) (by omega)
        refine xG_run 4 rfl (by repeat' (first | exact trivial | assumption | exact xob_b rfl | exact xal_b rfl | (apply And.intro) | decide)) ?_
        try dsimp only [xsto1, xsto2, xkill, xget, xset, gd_0, gd_s]
        refine xG_brF rfl (by rw [hn3]; exact nI_ge hk (by omega)) ?_
        refine xG_run 8 rfl (by repeat' (first | exact trivial | assumption | exact xob_b rfl | exact xal_b rfl | (apply And.intro) | decide)) ?_
        try dsimp only [xsto1, xsto2, xkill, xget, xset, gd_0, gd_s]
        refine xG_run 1 rfl (by repeat' (first | exact trivial | assumption | exact xob_b rfl | exact xal_b rfl | (apply And.intro) | decide)) ?_
        try dsimp only [xsto1, xsto2, xkill, xget, xset, gd_0, gd_s]
        try rw [hk1]
        refine xG_c2 2 rfl (by repeat' (first | exact trivial | assumption | exact xob_b rfl | exact xal_b rfl | (apply And.intro) | decide)) rfl rfl (by decide) cw_X7_leastHolding (d' := d - 1) (e_leastHolding (φ := fct R np nr k h) (ruR_k hu hk2) (by omega) (hf2 k) (r_p hm2 hk).2 ((r_p hm2 hk).1 0 (by omega)) (by omega)) (by omega) ?_
        rintro v M3 ⟨rfl, hK3⟩
        dsimp only [Option.toList, List.cons_append, List.nil_append]
        refine xG_run 1 rfl (by repeat' (first | exact trivial | assumption | exact xob_b rfl | exact xal_b rfl | (apply And.intro) | decide)) ?_
        try dsimp only [xsto1, xsto2, xkill, xget, xset, gd_0, gd_s]
        refine xG_br rfl (fun h55 => ?_) (fun h55 => ?_)
        · refine xG_run 4 rfl (by repeat' (first | exact trivial | assumption | exact xob_b rfl | exact xal_b rfl | (apply And.intro) | decide)) ?_
          try dsimp only [xsto1, xsto2, xkill, xget, xset, gd_0, gd_s]
          rw [nI_1]
          refine ih _ ⟨M3, by rw [if_neg (Nat.succ_ne_zero k), Nat.add_sub_cancel], kFr_t hk2 (kFr_K hK3), fun p i hi => (hK3.1 _ _ (by omega) (by omega) (by omega)).trans (hf2 p i hi), fun q hq => ?_⟩
          by_cases e : q = k
          · subst e; exact h55
          · exact hno q (by omega)
        · refine xG_run 1 rfl (by repeat' (first | exact trivial | assumption | exact xob_b rfl | exact xal_b rfl | (apply And.intro) | decide)) ?_
          try dsimp only [xsto1, xsto2, xkill, xget, xset, gd_0, gd_s]
          refine r2_i rfl rfl ?_
          exact ⟨Or.inl ⟨hh, by rw [cl_at hno (Or.inr ⟨hk, h55⟩)]⟩, kFr_t hk2 (kFr_K hK3)⟩
      · clear hf2 hk2
        rintro X ⟨M2, rfl, hk2, hf2, hno⟩
        have hn3 : gI M2 1 1 = nI np := (mR_k hm hk2).2.1.1
        refine xG_run 4 rfl (by repeat' (first | exact trivial | assumption | exact xob_b rfl | exact xal_b rfl | (apply And.intro) | decide)) ?_
        try dsimp only [xsto1, xsto2, xkill, xget, xset, gd_0, gd_s]
        refine xG_brT rfl (by rw [hn3]; exact Int32.le_refl _) ?_
        refine xG_run 1 rfl (by repeat' (first | exact trivial | assumption | exact xob_b rfl | exact xal_b rfl | (apply And.intro) | decide)) ?_
        try dsimp only [xsto1, xsto2, xkill, xget, xset, gd_0, gd_s]
        refine r2_i rfl rfl ?_
        exact ⟨Or.inl ⟨hh, by rw [cl_at hno (Or.inl rfl)]⟩, hk2⟩
    · refine xG_run 1 rfl (by repeat' (first | exact trivial | assumption | exact xob_b rfl | exact xal_b rfl | (apply And.intro) | decide)) ?_
      try dsimp only [xsto1, xsto2, xkill, xget, xset, gd_0, gd_s]
      refine r2_i rfl rfl ?_
      exact ⟨Or.inr ⟨fun q => h7 q.2, rfl⟩, kFr_r⟩
