/-! ===== cheapest ===== -/
def wsR (R : xM) (e sd : Int32) : xM := sI (sI R 167 1648 e) 167 1649 sd
section WS
variable {C R : xM} {m np nr ng : Nat} {e sd : Int32}
theorem mR_wind (h : mR C m R 167 np nr ng) (he : nr3 0 99 e) (hs : sd = 1 ∨ sd = -1) : mR (sI (sI C m 5 e) m 6 sd) m (wsR R e sd) 167 np nr ng := by
  obtain ⟨a0, a1, a2, a3, a4, a5, a6, a7, a8, a9, a10⟩ := h
  have hC : ∀ x y, x ≠ m ∨ (y ≠ 5 ∧ y ≠ 6) → gI (sI (sI C m 5 e) m 6 sd) x y = gI C x y := fun x y z => (gI_ne (by omega)).trans (gI_ne (by omega))
  have hR : ∀ y, y ≠ 1648 ∧ y ≠ 1649 → gI (wsR R e sd) 167 y = gI R 167 y := fun y z => (gI_ne (Or.inr z.2)).trans (gI_ne (Or.inr z.1))
  have c5 : gI (sI (sI C m 5 e) m 6 sd) m 5 = e := (gI_ne (Or.inr (by decide))).trans (gI_self _ _ _ _)
  have r8 : gI (wsR R e sd) 167 1648 = e := (gI_ne (Or.inr (by decide))).trans (gI_self _ _ _ _)
  have r9 : gI (wsR R e sd) 167 1649 = sd := gI_self _ _ _ _
  refine ⟨a0, ⟨(hC _ _ (by omega)).trans a1.1, (hR _ (by omega)).trans a1.2⟩, ⟨(hC _ _ (by omega)).trans a2.1, (hR _ (by omega)).trans a2.2⟩, ⟨(hC _ _ (by omega)).trans a3.1, (hR _ (by omega)).trans a3.2⟩, ⟨?_, ?_⟩, ⟨c5.trans r8.symm, by rw [r8]; exact he⟩, ⟨(gI_self _ _ _ _).trans r9.symm, by rw [r9]; exact hs⟩, fun j hj => ⟨?_, ?_⟩, fun j hj => ⟨?_, ?_⟩, fun p hp => ?_, fun r hr => ?_⟩
  · rw [hC _ _ (by omega), hR _ (by omega)]; exact a4.1
  · rw [hR _ (by omega)]; exact a4.2
  · rw [hC _ _ (by omega), hR _ (by omega)]; exact (a7 j hj).1
  · rw [hR _ (by omega)]; exact (a7 j hj).2
  · rw [hC _ _ (by omega), hR _ (by omega)]; exact (a8 j hj).1
  · rw [hR _ (by omega)]; exact (a8 j hj).2
  · refine ⟨⟨(hC _ _ (by omega)).trans (a9 p hp).1.1, fun k hk => ?_⟩, pB_c (fun k hk => hR _ (by omega)) (a9 p hp).2⟩
    rw [hC _ _ (by omega), hR _ (by omega)]
    exact (a9 p hp).1.2 k hk
  · exact ⟨qR_R (a10 r hr).2 a0.1 (fun k hk => hR _ (by omega)) (fun p hp => hR _ (by omega)) ⟨fun k hk => (hC _ _ (by omega)).trans ((a10 r hr).1.1 k hk), (hC _ _ (by omega)).trans (a10 r hr).1.2⟩, qB_c (fun k hk => hR _ (by omega)) (by omega) (a10 r hr).2⟩
end WS
theorem ab_n {k : Nat} (h : k < 2147483648) : ab (nI k) = nI k := by
  unfold ab
  rw [if_pos (nI_pos' h)]
theorem ab_m {k : Nat} (h : k < 2147483648) (h0 : 1 ≤ k) : ab (-(nI k)) = nI k := by
  have e : (-(nI k)).toInt = -((k : Nat) : Int) := sb_negT h
  unfold ab
  rw [if_neg (by rw [Int32.le_iff_toInt_le, e, Int32.toInt_zero]; omega), Int32.zero_sub, Int32.neg_neg]
/-- a stand within a mark -/
theorem stN_mo {F : Int32 → Int64} {mo : Nat} (hm : mo ≤ 300) : (stN F mo = 1000 ↔ ¬ ab (stN F 300) ≤ nI mo) ∧ (¬ stN F mo = 1000 → stN F mo = stN F 300) := by
  have n1 : ∀ k : Nat, k ≤ 300 → ¬ nI k = 1000 := fun k hk q => by
    have e := congrArg Int32.toInt q
    rw [nI_ti (by omega), show (1000 : Int32).toInt = 1000 by decide] at e
    omega
  have n2 : ∀ k : Nat, k ≤ 300 → ¬ -(nI k) = 1000 := fun k hk q => by
    have e := congrArg Int32.toInt q
    have e2 : (-(nI k)).toInt = -((k : Nat) : Int) := sb_negT (by omega)
    rw [e2, show (1000 : Int32).toInt = 1000 by decide] at e
    omega
  have n3 : ¬ ab (1000 : Int32) ≤ nI mo := fun q => by
    have e : ab (1000 : Int32) = nI 1000 := by decide
    rw [e] at q
    have := (nI_leI (a := 1000) (b := mo) (by omega) (by omega)).mp q
    omega
  unfold stN
  by_cases c : 0 ≤ F 0
  · rw [if_pos c, if_pos c]
    have hmin : min (300 + 1) 300 = 300 := rfl
    rw [hmin]
    by_cases h1 : ∃ k, k < 300 ∧ decide (F (nI (k + 1)) < 0) = true ∧ ∀ i, i < k → decide (F (nI (i + 1)) < 0) = false
    · obtain ⟨k, hk, hd, hn⟩ := h1
      rw [fF_at (n := 300) hn hd hk, if_pos hk]
      by_cases h2 : k < min (mo + 1) 300
      · rw [fF_at (n := min (mo + 1) 300) hn hd h2, if_pos h2, ab_n (by omega)]
        exact ⟨⟨fun q => absurd q (n1 k (by omega)), fun q => absurd (nI_le (by omega) (by omega)) q⟩, fun _ => rfl⟩
      · rw [fF_no (n := min (mo + 1) 300) (fun i hi => hn i (by omega)), if_neg (Nat.lt_irrefl _), ab_n (by omega)]
        exact ⟨⟨fun _ q => by have := (nI_leI (a := k) (b := mo) (by omega) (by omega)).mp q; omega, fun _ => rfl⟩, fun q => absurd rfl q⟩
    · have hn : ∀ i, i < 300 → decide (F (nI (i + 1)) < 0) = false := by
        intro i
        induction i using Nat.strongRecOn with
        | _ i ih =>
          intro hi
          cases hd : decide (F (nI (i + 1)) < 0) with
          | false => rfl
          | true => exact absurd ⟨i, hi, hd, fun j hj => ih j hj (by omega)⟩ h1
      rw [fF_no (n := 300) hn, if_neg (Nat.lt_irrefl _), fF_no (n := min (mo + 1) 300) (fun i hi => hn i (by omega)), if_neg (Nat.lt_irrefl _)]
      exact ⟨⟨fun _ => n3, fun _ => rfl⟩, fun q => absurd rfl q⟩
  · rw [if_neg c, if_neg c]
    by_cases h1 : ∃ k, k < 300 ∧ decide (0 ≤ F (-(nI (k + 1)))) = true ∧ ∀ i, i < k → decide (0 ≤ F (-(nI (i + 1)))) = false
    · obtain ⟨k, hk, hd, hn⟩ := h1
      rw [fF_at (n := 300) hn hd hk, if_pos hk]
      by_cases h2 : k < mo
      · rw [fF_at (n := mo) hn hd h2, if_pos h2, ab_m (by omega) (by omega)]
        exact ⟨⟨fun q => absurd q (n2 (k + 1) (by omega)), fun q => absurd (nI_le (by omega) (by omega)) q⟩, fun _ => rfl⟩
      · rw [fF_no (n := mo) (fun i hi => hn i (by omega)), if_neg (Nat.lt_irrefl _), ab_m (by omega) (by omega)]
        exact ⟨⟨fun _ q => by have := (nI_leI (a := k + 1) (b := mo) (by omega) (by omega)).mp q; omega, fun _ => rfl⟩, fun q => absurd rfl q⟩
    · have hn : ∀ i, i < 300 → decide (0 ≤ F (-(nI (i + 1)))) = false := by
        intro i
        induction i using Nat.strongRecOn with
        | _ i ih =>
          intro hi
          cases hd : decide (0 ≤ F (-(nI (i + 1)))) with
          | false => rfl
          | true => exact absurd ⟨i, hi, hd, fun j hj => ih j hj (by omega)⟩ h1
      rw [fF_no (n := 300) hn, if_neg (Nat.lt_irrefl _), fF_no (n := mo) (fun i hi => hn i (by omega)), if_neg (Nat.lt_irrefl _)]
      exact ⟨⟨fun _ => n3, fun _ => rfl⟩, fun q => absurd rfl q⟩
abbrev okS (R : xM) (np nr mo : Nat) (e sd : Int32) : Prop := ab (rSt (wsR R e sd) np nr) ≤ nI mo
abbrev enP (R : xM) (np nr : Nat) (E : Nat → Int32) (z mo : Nat) : Prop := ∀ i, i < z → okS R np nr mo (E i) (-1) ∧ okS R np nr mo (E i) 1
abbrev spOK (E : Nat → Int32) (z : Nat) : Prop := 1 ≤ z ∧ z ≤ 8 ∧ ∀ i, i < z → 0 ≤ E i ∧ E i ≤ 99
/-- what standsInAll may change -/
def sFr (M M' : xM) : Prop := (∀ x k, ¬ (x = 28 ∧ (k = 5 ∨ k = 6)) → gI M' x k = gI M x k) ∧ (∀ x k, ¬ (x = 123 ∧ k = 5) → gJ M' x k = gJ M x k) ∧ ∀ x k, gP M' x k = gP M x k
theorem sFr_r {M : xM} : sFr M M := ⟨fun _ _ _ => rfl, fun _ _ _ => rfl, fun _ _ => rfl⟩
theorem sFr_t {M M' M2 : xM} (h : sFr M M') (h2 : sFr M' M2) : sFr M M2 := ⟨fun x k q => (h2.1 x k q).trans (h.1 x k q), fun x k q => (h2.2.1 x k q).trans (h.2.1 x k q), fun x k => (h2.2.2 x k).trans (h.2.2 x k)⟩
theorem sFr_i {M : xM} {k : Nat} {v : Int32} (h : k = 5 ∨ k = 6) : sFr M (sI M 28 k v) := ⟨fun x y q => gI_ne (by omega), fun _ _ _ => rfl, fun _ _ => rfl⟩
theorem sFr_j {M : xM} {v : Int64} : sFr M (sJ M 123 5 v) := ⟨fun _ _ _ => rfl, fun x y q => gJ_ne (by omega), fun _ _ => rfl⟩
theorem BL_s {M M' : xM} {S S2 : Int32} {np nr : Nat} (hn : np ≤ 10) (hr : nr ≤ 12) (h : BL M S S2 np nr) (f : sFr M M') : BL M' S S2 np nr := BL_u h hn hr (fun i k hi _ => f.1 _ _ (by omega)) (fun i k hi _ => f.1 _ _ (by omega)) (f.1 _ _ (by omega)) ⟨f.1 _ _ (by omega), f.1 _ _ (by omega)⟩ (fun t => f.2.1 _ _ (by omega)) (fun k => ⟨f.2.2 _ _, f.2.2 _ _⟩)
theorem mR_s {M M' R : xM} {np nr ng : Nat} {e sd : Int32} (h : mR M 28 R 167 np nr ng) (f : ∀ x k, ¬ (x = 28 ∧ (k = 5 ∨ k = 6)) → gI M' x k = gI M x k) (he : nr3 0 99 e) (hs : sd = 1 ∨ sd = -1) (h5 : gI M' 28 5 = e) (h6 : gI M' 28 6 = sd) : mR M' 28 (wsR R e sd) 167 np nr ng := by
  refine mR_C (mR_wind h he hs) (fun k hk => ?_) (fun k => ?_) (fun k => ?_) (fun p k hp => ?_) (fun q k hq => ?_)
  · by_cases c5 : k = 5
    · subst c5; rw [h5]; exact ((gI_ne (Or.inr (by decide))).trans (gI_self _ _ _ _)).symm
    · by_cases c6 : k = 6
      · subst c6; rw [h6]; exact (gI_self _ _ _ _).symm
      · rw [f _ _ (by omega)]; exact ((gI_ne (by omega)).trans (gI_ne (by omega))).symm
  · rw [f _ _ (by omega)]; exact ((gI_ne (by omega)).trans (gI_ne (by omega))).symm
  · rw [f _ _ (by omega)]; exact ((gI_ne (by omega)).trans (gI_ne (by omega))).symm
  · rw [f _ _ (by omega)]; exact ((gI_ne (by omega)).trans (gI_ne (by omega))).symm
  · rw [f _ _ (by omega)]; exact ((gI_ne (by omega)).trans (gI_ne (by omega))).symm
set_option maxRecDepth 4000 in
theorem e_holdsSpeeds {κ : xKK} {d : Nat} {M : xM} {j z : Nat} {E : Nat → Int32} (hj : j < 8) (hz2 : gI M (142 + 3 * j) 3 = nI z) (hz1 : z ≤ 120) (hE : ∀ k, gI M (144 + 3 * j) k = E k) : xE2 κ mX11_holdsSpeeds d [.ref 0, .ref (142 + 3 * j)] M (fun v M' => v = some (.int (if spOK E z then 1 else 0)) ∧ M' = M) := by
  refine xE2_of ci_X11_holdsSpeeds cl_X11_holdsSpeeds cw_X11_holdsSpeeds rfl (L := [some (.ref 0), some (.ref (142 + 3 * j)), none]) rfl ?_
  have hx := xob_sh hj
  refine xG_run 3 rfl (by repeat' (first | exact trivial | assumption | exact xob_b rfl | exact xal_b rfl | (apply And.intro) | decide)) ?_
  try dsimp only [xsto1, xsto2, xkill, xget, xset, gd_0, gd_s]
  try rw [hz2]
  refine xG_br rfl (fun h5 => ?_) (fun h5 => ?_)
  · have c1 : ¬ 1 ≤ z := fun q => by have := (nI_ltI (a := z) (b := 1) (by omega) (by omega)).mp h5; omega
    refine xG_run 1 rfl (by repeat' (first | exact trivial | assumption | exact xob_b rfl | exact xal_b rfl | (apply And.intro) | decide)) ?_
    try dsimp only [xsto1, xsto2, xkill, xget, xset, gd_0, gd_s]
    try rw [hz2]
    refine r2_z rfl rfl (by first | decide | assumption) ?_
    exact ⟨by rw [if_neg (fun q => by first | exact c1 q.1 | exact c2 q.2.1)], rfl⟩
  · have c1 : 1 ≤ z := by
      have : ¬ z < 1 := fun q => h5 (show nI z < nI 1 from nI_lt q (by omega))
      omega
    refine xG_run 3 rfl (by repeat' (first | exact trivial | assumption | exact xob_b rfl | exact xal_b rfl | (apply And.intro) | decide)) ?_
    try dsimp only [xsto1, xsto2, xkill, xget, xset, gd_0, gd_s]
    try rw [hz2]
    refine xG_br rfl (fun h14 => ?_) (fun h14 => ?_)
    · have c2 : z ≤ 8 := (nI_leI (a := z) (b := 8) (by omega) (by omega)).mp h14
      refine xG_run 2 rfl (by repeat' (first | exact trivial | assumption | exact xob_b rfl | exact xal_b rfl | (apply And.intro) | decide)) ?_
      try dsimp only [xsto1, xsto2, xkill, xget, xset, gd_0, gd_s]
      try rw [hz2]
      have lp := xG_upP (κ := κ) (m := mX11_holdsSpeeds) (r := (d, 0, 0)) (YS := xRet mX11_holdsSpeeds false (fun v M' n' => n' = 182 ∧ (v = some (.int (if spOK E z then 1 else 0)) ∧ M' = M))) (fun k X => X = (21, [some (.ref 0), some (.ref (142 + 3 * j)), some (.int (nI k))], [], M, z2) ∧ ∀ i, i < k → 0 ≤ E i ∧ E i ≤ 99) z ?_ ?_ 0 (by omega)
      · exact lp _ ⟨rfl, fun i hi => absurd hi (Nat.not_lt_zero _)⟩
      · rintro k X hk ⟨rfl, hok⟩ ih
        have hk1 : (nI k).toNatClampNeg = k := nI_cl (by omega)
        have hs := sh_ar hj (k := k) (by omega)
        have hEk : gI M (144 + 3 * j) (nI k).toNatClampNeg = E k := by rw [hk1]; exact hE k
        refine xG_run 3 rfl (by repeat' (first | exact trivial | assumption | exact xob_b rfl | exact xal_b rfl | (apply And.intro) | decide)) ?_
        try dsimp only [xsto1, xsto2, xkill, xget, xset, gd_0, gd_s]
        try rw [hz2]
        try rw [hEk]
        refine xG_brF rfl (nI_ge hk (by omega)) ?_
        refine xG_run 2 rfl (by repeat' (first | exact trivial | assumption | exact xob_b rfl | exact xal_b rfl | (apply And.intro) | decide)) ?_
        try dsimp only [xsto1, xsto2, xkill, xget, xset, gd_0, gd_s]
        try rw [hz2]
        try rw [hEk]
        rw [sh_el hj]
        refine xG_run 2 rfl (by repeat' (first | exact trivial | assumption | exact xob_b rfl | exact xal_b rfl | (apply And.intro) | decide)) ?_
        try dsimp only [xsto1, xsto2, xkill, xget, xset, gd_0, gd_s]
        try rw [hz2]
        try rw [hEk]
        refine xG_br rfl (fun h35 => ?_) (fun h35 => ?_)
        · refine xG_run 1 rfl (by repeat' (first | exact trivial | assumption | exact xob_b rfl | exact xal_b rfl | (apply And.intro) | decide)) ?_
          try dsimp only [xsto1, xsto2, xkill, xget, xset, gd_0, gd_s]
          try rw [hz2]
          try rw [hEk]
          refine r2_z rfl rfl (by first | decide | assumption) ?_
          exact ⟨by rw [if_neg (fun q => by first | exact i_nlt (q.2.2 k hk).1 h35 | exact h46 (q.2.2 k hk).2)], rfl⟩
        · refine xG_run 2 rfl (by repeat' (first | exact trivial | assumption | exact xob_b rfl | exact xal_b rfl | (apply And.intro) | decide)) ?_
          try dsimp only [xsto1, xsto2, xkill, xget, xset, gd_0, gd_s]
          try rw [hz2]
          try rw [hEk]
          rw [sh_el hj]
          refine xG_run 3 rfl (by repeat' (first | exact trivial | assumption | exact xob_b rfl | exact xal_b rfl | (apply And.intro) | decide)) ?_
          try dsimp only [xsto1, xsto2, xkill, xget, xset, gd_0, gd_s]
          try rw [hz2]
          try rw [hEk]
          refine xG_br rfl (fun h46 => ?_) (fun h46 => ?_)
          · refine xG_run 2 rfl (by repeat' (first | exact trivial | assumption | exact xob_b rfl | exact xal_b rfl | (apply And.intro) | decide)) ?_
            try dsimp only [xsto1, xsto2, xkill, xget, xset, gd_0, gd_s]
            try rw [hz2]
            try rw [hEk]
            rw [nI_1]
            refine ih _ ⟨rfl, fun i hi => ?_⟩
            by_cases e : i = k
            · subst e; exact ⟨Int32.not_lt.mp h35, h46⟩
            · exact hok i (by omega)
          · refine xG_run 1 rfl (by repeat' (first | exact trivial | assumption | exact xob_b rfl | exact xal_b rfl | (apply And.intro) | decide)) ?_
            try dsimp only [xsto1, xsto2, xkill, xget, xset, gd_0, gd_s]
            try rw [hz2]
            try rw [hEk]
            refine r2_z rfl rfl (by first | decide | assumption) ?_
            exact ⟨by rw [if_neg (fun q => by first | exact i_nlt (q.2.2 k hk).1 h35 | exact h46 (q.2.2 k hk).2)], rfl⟩
      · rintro X ⟨rfl, hok⟩
        refine xG_run 3 rfl (by repeat' (first | exact trivial | assumption | exact xob_b rfl | exact xal_b rfl | (apply And.intro) | decide)) ?_
        try dsimp only [xsto1, xsto2, xkill, xget, xset, gd_0, gd_s]
        try rw [hz2]
        refine xG_brT rfl (Int32.le_refl _) ?_
        refine xG_run 1 rfl (by repeat' (first | exact trivial | assumption | exact xob_b rfl | exact xal_b rfl | (apply And.intro) | decide)) ?_
        try dsimp only [xsto1, xsto2, xkill, xget, xset, gd_0, gd_s]
        try rw [hz2]
        refine r2_z rfl rfl (by first | decide | assumption) ?_
        exact ⟨by rw [if_pos ⟨c1, c2, hok⟩], rfl⟩
    · have c2 : ¬ z ≤ 8 := fun q => h14 (show nI z ≤ nI 8 from nI_le q (by omega))
      refine xG_run 1 rfl (by repeat' (first | exact trivial | assumption | exact xob_b rfl | exact xal_b rfl | (apply And.intro) | decide)) ?_
      try dsimp only [xsto1, xsto2, xkill, xget, xset, gd_0, gd_s]
      try rw [hz2]
      refine r2_z rfl rfl (by first | decide | assumption) ?_
      exact ⟨by rw [if_neg (fun q => by first | exact c1 q.1 | exact c2 q.2.1)], rfl⟩
set_option maxRecDepth 4000 in
theorem e_standsInAll {κ : xKK} {d : Nat} {M : xM} {np nr ng j z mo : Nat} {R Mx : xM} {E : Nat → Int32} {S2 : Int32} (hm : mR Mx 28 R 167 np nr ng) (hMx : ∀ x k, ¬ (x = 28 ∧ (k = 5 ∨ k = 6)) → gI M x k = gI Mx x k) (hj0 : gJ R 166 18 = 0) (hBL : BL M 0 S2 np nr) (hj : j < 8) (hz2 : gI M (142 + 3 * j) 3 = nI z) (hsp : spOK E z) (hE : ∀ k, gI M (144 + 3 * j) k = E k) (hmo : mo ≤ 300) (hd : 5 ≤ d) : xE2 κ mX11_standsInAll d [.ref 0, .ref (142 + 3 * j), .int (nI mo)] M (fun v M' => v = some (.int (if enP R np nr E z mo then 1 else 0)) ∧ sFr M M') := by
  refine xE2_of ci_X11_standsInAll cl_X11_standsInAll cw_X11_standsInAll rfl (L := [some (.ref 0), some (.ref (142 + 3 * j)), some (.int (nI mo)), none, none]) rfl ?_
  have hx := xob_sh hj
  have hn2 := hm.1.1
  have hr2 := hm.1.2.1
  have hz8 := hsp.2.1
  refine xG_run 2 rfl (by repeat' (first | exact trivial | assumption | exact xob_b rfl | exact xal_b rfl | (apply And.intro) | decide)) ?_
  try dsimp only [xsto1, xsto2, xkill, xget, xset, gd_0, gd_s]
  have lp := xG_upP (κ := κ) (m := mX11_standsInAll) (r := (d, 0, 0)) (YS := xRet mX11_standsInAll false (fun v M' n' => n' = 182 ∧ (v = some (.int (if enP R np nr E z mo then 1 else 0)) ∧ sFr M M'))) (fun i X => ∃ (M2 : xM) (x4 : Option Value), X = (2, [some (.ref 0), some (.ref (142 + 3 * j)), some (.int (nI mo)), some (.int (nI i)), x4], [], M2, z2) ∧ sFr M M2 ∧ ∀ k, k < i → okS R np nr mo (E k) (-1) ∧ okS R np nr mo (E k) 1) z ?_ ?_ 0 (by omega)
  · exact lp _ ⟨M, none, rfl, sFr_r, fun k hk => absurd hk (Nat.not_lt_zero _)⟩
  · rintro i X hi ⟨M2, x4, rfl, hF, hok⟩ ih
    have hzM : gI M2 (142 + 3 * j) 3 = nI z := (hF.1 _ _ (by omega)).trans hz2
    have hi1 : (nI i).toNatClampNeg = i := nI_cl (by omega)
    have hs := sh_ar hj (k := i) (by omega)
    have hEi : gI M2 (144 + 3 * j) (nI i).toNatClampNeg = E i := by rw [hi1]; exact (hF.1 _ _ (by omega)).trans (hE i)
    have hE9 : nr3 0 99 (E i) := by
      have := hsp.2.2 i hi
      exact ⟨by have := this.1; rw [Int32.le_iff_toInt_le] at this; exact this, lI (k := 99) this.2 (by omega)⟩
    refine xG_run 3 rfl (by repeat' (first | exact trivial | assumption | exact xob_b rfl | exact xal_b rfl | (apply And.intro) | decide)) ?_
    try dsimp only [xsto1, xsto2, xkill, xget, xset, gd_0, gd_s]
    refine xG_brF rfl (by rw [hzM]; exact nI_ge hi (by omega)) ?_
    refine xG_run 4 rfl (by repeat' (first | exact trivial | assumption | exact xob_b rfl | exact xal_b rfl | (apply And.intro) | decide)) ?_
    try dsimp only [xsto1, xsto2, xkill, xget, xset, gd_0, gd_s]
    rw [sh_el hj]
    refine xG_run 2 rfl (by repeat' (first | exact trivial | assumption | exact xob_b rfl | exact xal_b rfl | (apply And.intro) | decide)) ?_
    try dsimp only [xsto1, xsto2, xkill, xget, xset, gd_0, gd_s]
    rw [hEi]
    refine xG_run 3 rfl (by repeat' (first | exact trivial | assumption | exact xob_b rfl | exact xal_b rfl | (apply And.intro) | decide)) ?_
    try dsimp only [xsto1, xsto2, xkill, xget, xset, gd_0, gd_s]
    refine xG_run 2 rfl (by repeat' (first | exact trivial | assumption | exact xob_b rfl | exact xal_b rfl | (apply And.intro) | decide)) ?_
    try dsimp only [xsto1, xsto2, xkill, xget, xset, gd_0, gd_s]
    refine xG_brF rfl (by decide) ?_
    refine xG_run 4 rfl (by repeat' (first | exact trivial | assumption | exact xob_b rfl | exact xal_b rfl | (apply And.intro) | decide)) ?_
    try dsimp only [xsto1, xsto2, xkill, xget, xset, gd_0, gd_s]
    generalize hMa : (sI (sI M2 28 5 (E i)) 28 6 (-1) : xM) = Ma
    have fa : sFr M Ma := by rw [← hMa]; exact sFr_t (sFr_t hF (sFr_i (Or.inl rfl))) (sFr_i (Or.inr rfl))
    have ma : mR Ma 28 (wsR R (E i) (-1)) 167 np nr ng := mR_s hm (fun x k q => (fa.1 x k q).trans (hMx x k q)) hE9 (Or.inr rfl) (by rw [← hMa]; exact (gI_ne (Or.inr (by decide))).trans (gI_self _ _ _ _)) (by rw [← hMa]; exact gI_self _ _ _ _)
    have hna := ma.2.1.1
    have hBa : BL (sJ Ma 123 5 (cPs Ma np)) 0 S2 np nr := BL_s hn2 hr2 hBL (sFr_t fa sFr_j)
    have hpa : gJ (sJ Ma 123 5 (cPs Ma np)) 123 5 = cPs (sJ Ma 123 5 (cPs Ma np)) np - 0 := by rw [gJ_self, Int64.sub_zero]; rfl
    have eSa : stN (fun l => cAll (sJ Ma 123 5 (cPs Ma np)) 28 np nr l - 0) mo = stN (rAll (wsR R (E i) (-1)) np nr) mo := stN_x (mR_C ma (fun _ _ => rfl) (fun _ => rfl) (fun _ => rfl) (fun _ _ _ => rfl) (fun _ _ _ => rfl)) hj0 hmo
    have hmoa := stN_mo (F := rAll (wsR R (E i) (-1)) np nr) hmo
    refine xG_run 4 rfl (by repeat' (first | exact trivial | assumption | exact xob_b rfl | exact xal_b rfl | (apply And.intro) | decide)) ?_
    try dsimp only [xsto1, xsto2, xkill, xget, xset, gd_0, gd_s]
    refine xG_c2 0 rfl (by repeat' (first | exact trivial | assumption | exact xob_b rfl | exact xal_b rfl | (apply And.intro) | decide)) rfl rfl (by decide) cw_X1_pushMoment (d' := d - 1) (e_pushMoment28 hna hn2 (fun i hi => r_sh ma hi) (by omega)) (by omega) ?_
    rintro v M' ⟨rfl, hM⟩
    subst M'
    dsimp only [Option.toList, List.cons_append, List.nil_append]
    rw [show (lSum (fun i => cPu Ma 28 (33 + i) * (gI Ma (33 + i) 2).toInt64) np) = cPs Ma np from rfl]
    refine xG_run 4 rfl (by repeat' (first | exact trivial | assumption | exact xob_b rfl | exact xal_b rfl | (apply And.intro) | decide)) ?_
    try dsimp only [xsto1, xsto2, xkill, xget, xset, gd_0, gd_s]
    refine xG_c2 1 rfl (by repeat' (first | exact trivial | assumption | exact xob_b rfl | exact xal_b rfl | (apply And.intro) | decide)) rfl rfl (by decide) cw_X0_lean (d' := d - 1) (e_leanB (mo := mo) (x := 0) (S := 0) (S2 := S2) hBa hn2 hr2 hpa hmo (by omega)) (by omega) ?_
    rintro v M' ⟨rfl, hM⟩
    subst M'
    dsimp only [Option.toList, List.cons_append, List.nil_append]
    rw [eSa]
    refine xG_run 1 rfl (by repeat' (first | exact trivial | assumption | exact xob_b rfl | exact xal_b rfl | (apply And.intro) | decide)) ?_
    try dsimp only [xsto1, xsto2, xkill, xget, xset, gd_0, gd_s]
    refine xG_br rfl (fun h66 => ?_) (fun h66 => ?_)
    · refine xG_run 2 rfl (by repeat' (first | exact trivial | assumption | exact xob_b rfl | exact xal_b rfl | (apply And.intro) | decide)) ?_
      try dsimp only [xsto1, xsto2, xkill, xget, xset, gd_0, gd_s]
      have h66a := h66
      refine xG_run 2 rfl (by repeat' (first | exact trivial | assumption | exact xob_b rfl | exact xal_b rfl | (apply And.intro) | decide)) ?_
      try dsimp only [xsto1, xsto2, xkill, xget, xset, gd_0, gd_s]
      refine xG_brF rfl (by decide) ?_
      refine xG_run 4 rfl (by repeat' (first | exact trivial | assumption | exact xob_b rfl | exact xal_b rfl | (apply And.intro) | decide)) ?_
      try dsimp only [xsto1, xsto2, xkill, xget, xset, gd_0, gd_s]
      generalize hMb : (sI (sJ Ma 123 5 (cPs Ma np)) 28 6 (-1 + 2) : xM) = Mb
      have fb : sFr M Mb := by rw [← hMb]; exact sFr_t (sFr_t fa sFr_j) (sFr_i (Or.inr rfl))
      have mb : mR Mb 28 (wsR R (E i) (1)) 167 np nr ng := mR_s hm (fun x k q => (fb.1 x k q).trans (hMx x k q)) hE9 (Or.inl rfl) (by rw [← hMb]; exact (gI_ne (Or.inr (by decide))).trans (show gI Ma 28 5 = E i from by rw [← hMa]; exact (gI_ne (Or.inr (by decide))).trans (gI_self _ _ _ _))) (by rw [← hMb]; exact gI_self _ _ _ _)
      have hnb := mb.2.1.1
      have hBb : BL (sJ Mb 123 5 (cPs Mb np)) 0 S2 np nr := BL_s hn2 hr2 hBL (sFr_t fb sFr_j)
      have hpb : gJ (sJ Mb 123 5 (cPs Mb np)) 123 5 = cPs (sJ Mb 123 5 (cPs Mb np)) np - 0 := by rw [gJ_self, Int64.sub_zero]; rfl
      have eSb : stN (fun l => cAll (sJ Mb 123 5 (cPs Mb np)) 28 np nr l - 0) mo = stN (rAll (wsR R (E i) (1)) np nr) mo := stN_x (mR_C mb (fun _ _ => rfl) (fun _ => rfl) (fun _ => rfl) (fun _ _ _ => rfl) (fun _ _ _ => rfl)) hj0 hmo
      have hmob := stN_mo (F := rAll (wsR R (E i) (1)) np nr) hmo
      refine xG_run 4 rfl (by repeat' (first | exact trivial | assumption | exact xob_b rfl | exact xal_b rfl | (apply And.intro) | decide)) ?_
      try dsimp only [xsto1, xsto2, xkill, xget, xset, gd_0, gd_s]
      refine xG_c2 0 rfl (by repeat' (first | exact trivial | assumption | exact xob_b rfl | exact xal_b rfl | (apply And.intro) | decide)) rfl rfl (by decide) cw_X1_pushMoment (d' := d - 1) (e_pushMoment28 hnb hn2 (fun i hi => r_sh mb hi) (by omega)) (by omega) ?_
      rintro v M' ⟨rfl, hM⟩
      subst M'
      dsimp only [Option.toList, List.cons_append, List.nil_append]
      rw [show (lSum (fun i => cPu Mb 28 (33 + i) * (gI Mb (33 + i) 2).toInt64) np) = cPs Mb np from rfl]
      refine xG_run 4 rfl (by repeat' (first | exact trivial | assumption | exact xob_b rfl | exact xal_b rfl | (apply And.intro) | decide)) ?_
      try dsimp only [xsto1, xsto2, xkill, xget, xset, gd_0, gd_s]
      refine xG_c2 1 rfl (by repeat' (first | exact trivial | assumption | exact xob_b rfl | exact xal_b rfl | (apply And.intro) | decide)) rfl rfl (by decide) cw_X0_lean (d' := d - 1) (e_leanB (mo := mo) (x := 0) (S := 0) (S2 := S2) hBb hn2 hr2 hpb hmo (by omega)) (by omega) ?_
      rintro v M' ⟨rfl, hM⟩
      subst M'
      dsimp only [Option.toList, List.cons_append, List.nil_append]
      rw [eSb]
      refine xG_run 1 rfl (by repeat' (first | exact trivial | assumption | exact xob_b rfl | exact xal_b rfl | (apply And.intro) | decide)) ?_
      try dsimp only [xsto1, xsto2, xkill, xget, xset, gd_0, gd_s]
      refine xG_br rfl (fun h66 => ?_) (fun h66 => ?_)
      · refine xG_run 2 rfl (by repeat' (first | exact trivial | assumption | exact xob_b rfl | exact xal_b rfl | (apply And.intro) | decide)) ?_
        try dsimp only [xsto1, xsto2, xkill, xget, xset, gd_0, gd_s]
        refine xG_run 2 rfl (by repeat' (first | exact trivial | assumption | exact xob_b rfl | exact xal_b rfl | (apply And.intro) | decide)) ?_
        try dsimp only [xsto1, xsto2, xkill, xget, xset, gd_0, gd_s]
        refine xG_brT rfl (by decide) ?_
        refine xG_run 2 rfl (by repeat' (first | exact trivial | assumption | exact xob_b rfl | exact xal_b rfl | (apply And.intro) | decide)) ?_
        try dsimp only [xsto1, xsto2, xkill, xget, xset, gd_0, gd_s]
        rw [nI_1]
        refine ih _ ⟨sJ Mb 123 5 (cPs Mb np), _, rfl, sFr_t fb sFr_j, fun k hk => ?_⟩
        by_cases e : k = i
        · subst e
          exact ⟨Decidable.not_not.mp (fun q => h66a (hmoa.1.mpr q)), Decidable.not_not.mp (fun q => h66 (hmob.1.mpr q))⟩
        · exact hok k (by omega)
      · refine xG_run 1 rfl (by repeat' (first | exact trivial | assumption | exact xob_b rfl | exact xal_b rfl | (apply And.intro) | decide)) ?_
        try dsimp only [xsto1, xsto2, xkill, xget, xset, gd_0, gd_s]
        refine r2_z rfl rfl (by first | decide | assumption) ?_
        refine ⟨?_, sFr_t fb sFr_j⟩
        rw [if_neg (fun q => (hmob.1.mp (Decidable.not_not.mp h66)) (q i hi).2)]
    · refine xG_run 1 rfl (by repeat' (first | exact trivial | assumption | exact xob_b rfl | exact xal_b rfl | (apply And.intro) | decide)) ?_
      try dsimp only [xsto1, xsto2, xkill, xget, xset, gd_0, gd_s]
      refine r2_z rfl rfl (by first | decide | assumption) ?_
      refine ⟨?_, sFr_t fa sFr_j⟩
      rw [if_neg (fun q => (hmoa.1.mp (Decidable.not_not.mp h66)) (q i hi).1)]
  · rintro X ⟨M2, x4, rfl, hF, hok⟩
    have hzM : gI M2 (142 + 3 * j) 3 = nI z := (hF.1 _ _ (by omega)).trans hz2
    refine xG_run 3 rfl (by repeat' (first | exact trivial | assumption | exact xob_b rfl | exact xal_b rfl | (apply And.intro) | decide)) ?_
    try dsimp only [xsto1, xsto2, xkill, xget, xset, gd_0, gd_s]
    refine xG_brT rfl (by rw [hzM]; exact Int32.le_refl _) ?_
    refine xG_run 1 rfl (by repeat' (first | exact trivial | assumption | exact xob_b rfl | exact xal_b rfl | (apply And.intro) | decide)) ?_
    try dsimp only [xsto1, xsto2, xkill, xget, xset, gd_0, gd_s]
    refine r2_z rfl rfl (by first | decide | assumption) ?_
    exact ⟨by rw [if_pos hok], hF⟩
