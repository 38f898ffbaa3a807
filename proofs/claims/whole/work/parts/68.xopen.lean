def opF (M M' : xM) : Prop := (∀ x k, ¬ ((x = 136 ∧ (k = 3 ∨ k = 4)) ∨ x = 138 ∨ x = 139) → gI M' x k = gI M x k) ∧ (∀ x k, gJ M' x k = gJ M x k) ∧ ∀ x k, ¬ x = 137 → gP M' x k = gP M x k
theorem opF_t {M M' M2 : xM} (h : opF M M') (h2 : opF M' M2) : opF M M2 := ⟨fun x k q => (h2.1 x k q).trans (h.1 x k q), fun x k => (h2.2.1 x k).trans (h.2.1 x k), fun x k q => (h2.2.2 x k q).trans (h.2.2 x k q)⟩
theorem opF_i {M : xM} {a k : Nat} {v : Int32} (h : (a = 136 ∧ (k = 3 ∨ k = 4)) ∨ a = 138 ∨ a = 139) : opF M (sI M a k v) := ⟨fun x y q => gI_ne (by omega), fun _ _ => rfl, fun _ _ _ => rfl⟩
theorem opF_p {M : xM} {k : Nat} {v : Option Nat} : opF M (sP M 137 k v) := ⟨fun _ _ _ => rfl, fun _ _ => rfl, fun x y q => gP_ne (Or.inl q)⟩
/-- what is opened: rope r of the set stands at place bK U r -/
def opn (M0 M : xM) (U k : Nat) (t : Int32) : Prop := gI M 136 3 = nI (bK U k) ∧ gI M 136 4 = t ∧ ∀ r, r < k → U.testBit r = true → gP M 137 (bK U r) = some (43 + r) ∧ gI M 138 (bK U r) = nI r ∧ gI M 139 (bK U r) = gI M0 (43 + r) 4
theorem bK_mono (U : Nat) {a : Nat} : ∀ {b : Nat}, a ≤ b → bK U a ≤ bK U b
  | 0, h => by rw [Nat.le_zero.mp h]; exact Nat.le_refl _
  | b + 1, h => by
    by_cases c : a = b + 1
    · rw [c]; exact Nat.le_refl _
    · have := bK_mono U (a := a) (b := b) (by omega)
      exact Nat.le_trans this (Nat.le_add_right _ _)
theorem bK_s {U k : Nat} (h : U.testBit k = true) : bK U (k + 1) = bK U k + 1 := by
  show bK U k + (if U.testBit k = true then 1 else 0) = _
  rw [if_pos h]
theorem bK_z {U k : Nat} (h : ¬ U.testBit k = true) : bK U (k + 1) = bK U k := by
  show bK U k + (if U.testBit k = true then 1 else 0) = _
  rw [if_neg h, Nat.add_zero]
theorem bK_lt {U a b : Nat} (h : U.testBit a = true) (hab : a < b) : bK U a < bK U b := by
  have := bK_mono U (a := a + 1) (b := b) (by omega)
  rw [bK_s h] at this
  omega
set_option maxRecDepth 4000 in
theorem e_setMarks {κ : xKK} {d : Nat} {M : xM} {a b : Int32} : xE2 κ mX4_setMarks d [.ref 136, .int a, .int b] M (fun v M' => v = none ∧ M' = sI (sI M 136 5 a) 136 6 b) := by
  refine xE2_of ci_X4_setMarks cl_X4_setMarks cw_X4_setMarks rfl (L := [some (.ref 136), some (.int a), some (.int b)]) rfl ?_
  refine xG_run 6 rfl (by repeat' (first | exact trivial | assumption | exact xob_b rfl | exact xal_b rfl | (apply And.intro) | decide)) ?_
  try dsimp only [xsto1, xsto2, xkill, xget, xset, gd_0, gd_s]
  refine r2_v rfl rfl ?_
  exact ⟨rfl, rfl⟩
set_option maxRecDepth 4000 in
theorem e_xopen4 {κ : xKK} {d : Nat} {M : xM} {nr U : Nat} {t : Int32} (hr : gI M 28 3 = nI nr) (hr2 : nr ≤ 12) (hU : bK U nr ≤ 6) : xE2 κ mX4_open d [.ref 136, .ref 28, .int (nI U), .int t] M (fun v M' => v = none ∧ opF M M' ∧ opn M M' U nr t) := by
  refine xE2_of ci_X4_open cl_X4_open cw_X4_open rfl (L := [some (.ref 136), some (.ref 28), some (.int (nI U)), some (.int t), none]) rfl ?_
  refine xG_run 8 rfl (by repeat' (first | exact trivial | assumption | exact xob_b rfl | exact xal_b rfl | (apply And.intro) | decide)) ?_
  try dsimp only [xsto1, xsto2, xkill, xget, xset, gd_0, gd_s]
  have lp := xG_upP (κ := κ) (m := mX4_open) (r := (d, 0, 0)) (YS := xRet mX4_open false (fun v M' n' => n' = 182 ∧ (v = none ∧ opF M M' ∧ opn M M' U nr t))) (fun k X => ∃ M2 : xM, X = (13, [some (.ref 136), some (.ref 28), some (.int (nI U)), some (.int t), some (.int (nI k))], [], M2, z2) ∧ opF M M2 ∧ opn M M2 U k t) nr ?_ ?_ 0 (Nat.zero_le _)
  · exact lp _ ⟨_, rfl, opF_t (opF_i (Or.inl ⟨rfl, Or.inr rfl⟩)) (opF_i (Or.inl ⟨rfl, Or.inl rfl⟩)), gI_self _ _ _ _, (gI_ne (Or.inr (by decide))).trans (gI_self _ _ _ _), fun r hr9 => absurd hr9 (Nat.not_lt_zero _)⟩
  · rintro k X hk ⟨M2, rfl, hF, hO⟩ ih
    have hn3 : gI M2 28 3 = nI nr := (hF.1 _ _ (by omega)).trans hr
    have hcn := hO.1
    have hbt := xbd_nI (S := U) (i := k) (by omega)
    have hk1 : (nI k).toNatClampNeg = k := nI_cl (by omega)
    have hc6 : bK U k < 6 ∨ ¬ U.testBit k = true := by
      by_cases c : U.testBit k = true
      · have := bK_lt c hk
        exact Or.inl (by omega)
      · exact Or.inr c
    have hc9 := bK_le U k
    have hcc : (nI (bK U k)).toNatClampNeg = bK U k := nI_cl (by omega)
    refine xG_run 3 rfl (by repeat' (first | exact trivial | assumption | exact xob_b rfl | exact xal_b rfl | (apply And.intro) | decide)) ?_
    try dsimp only [xsto1, xsto2, xkill, xget, xset, gd_0, gd_s]
    refine xG_brF rfl (by rw [hn3]; exact nI_ge hk (by omega)) ?_
    refine xG_run 6 rfl (by repeat' (first | exact trivial | assumption | exact xob_b rfl | exact xal_b rfl | (apply And.intro) | decide)) ?_
    try dsimp only [xsto1, xsto2, xkill, xget, xset, gd_0, gd_s]
    refine xG_br rfl (fun h29 => ?_) (fun h29 => ?_)
    · have hb : ¬ U.testBit k = true := fun z => h29 (hbt.mpr z)
      refine xG_run 2 rfl (by repeat' (first | exact trivial | assumption | exact xob_b rfl | exact xal_b rfl | (apply And.intro) | decide)) ?_
      try dsimp only [xsto1, xsto2, xkill, xget, xset, gd_0, gd_s]
      rw [nI_1]
      refine ih _ ⟨M2, rfl, hF, (bK_z hb ▸ hO.1 : _), hO.2.1, fun r hr9 hb9 => ?_⟩
      by_cases e : r = k
      · subst e; exact absurd hb9 hb
      · exact hO.2.2 r (by omega) hb9
    · have hb : U.testBit k = true := hbt.mp (Decidable.not_not.mp h29)
      have h6 : bK U k < 6 := hc6.resolve_right (fun q => q hb)
      have hxa : xob (43 + (nI k).toNatClampNeg) 5 182 := by rw [hk1]; exact xob_r28 (by omega)
      have hqa : xqr 30 182 (nI k) := xqr_n rfl 12 rfl (by omega) (by omega)
      have hqb : xqr 137 182 (nI (bK U k)) := xqr_n rfl 6 rfl (by omega) (by omega)
      have hs7 : xar 137 4 182 (nI (bK U k)) := xar_n rfl 6 rfl (by omega) (by omega)
      have hs8 : xar 138 0 182 (nI (bK U k)) := xar_n rfl 6 rfl (by omega) (by omega)
      have hs9 : xar 139 0 182 (nI (bK U k)) := xar_n rfl 6 rfl (by omega) (by omega)
      have hcn2 : ∀ j1 v, gI (sP M2 137 j1 v) 136 3 = nI (bK U k) := fun _ _ => hcn
      have hcn3 : ∀ j1 v j2 v2, gI (sI (sP M2 137 j1 v) 138 j2 v2) 136 3 = nI (bK U k) := fun _ _ _ _ => (gI_ne (Or.inl (by decide))).trans hcn
      have hcn4 : ∀ j1 v j2 v2 j3 v3, gI (sI (sI (sP M2 137 j1 v) 138 j2 v2) 139 j3 v3) 136 3 = nI (bK U k) := fun _ _ _ _ _ _ => (gI_ne (Or.inl (by decide))).trans ((gI_ne (Or.inl (by decide))).trans hcn)
      have hrt : ∀ j1 v j2 v2, gI (sI (sP M2 137 j1 v) 138 j2 v2) (43 + (nI k).toNatClampNeg) 4 = gI M (43 + k) 4 := fun _ _ _ _ => by rw [hk1]; exact (gI_ne (Or.inl (by omega))).trans (hF.1 _ _ (by omega))
      refine xG_run 2 rfl (by repeat' (first | exact trivial | assumption | exact xob_b rfl | exact xal_b rfl | (apply And.intro) | decide)) ?_
      try dsimp only [xsto1, xsto2, xkill, xget, xset, gd_0, gd_s]
      rw [hcn]
      refine xG_run 1 rfl (by repeat' (first | exact trivial | assumption | exact xob_b rfl | exact xal_b rfl | (apply And.intro) | decide)) ?_
      try dsimp only [xsto1, xsto2, xkill, xget, xset, gd_0, gd_s]
      refine xG_br rfl (fun h38 => ?_) (fun h38 => ?_)
      · refine xG_run 2 rfl (by repeat' (first | exact trivial | assumption | exact xob_b rfl | exact xal_b rfl | (apply And.intro) | decide)) ?_
        try dsimp only [xsto1, xsto2, xkill, xget, xset, gd_0, gd_s]
        exact absurd (show nI 6 ≤ nI (bK U k) from h38) (fun q => by have := (nI_leI (a := 6) (b := bK U k) (by omega) (by omega)).mp q; omega)
      · refine xG_run 4 rfl (by repeat' (first | exact trivial | assumption | exact xob_b rfl | exact xal_b rfl | (apply And.intro) | decide)) ?_
        try dsimp only [xsto1, xsto2, xkill, xget, xset, gd_0, gd_s]
        rw [hcn]
        refine xG_run 8 rfl (by repeat' (first | exact trivial | assumption | exact xob_b rfl | exact xal_b rfl | (apply And.intro) | decide)) ?_
        try dsimp only [xsto1, xsto2, xkill, xget, xset, gd_0, gd_s]
        refine xG_run 1 rfl (by repeat' (first | exact trivial | assumption | exact xob_b rfl | exact xal_b rfl | (apply And.intro) | decide)) ?_
        try dsimp only [xsto1, xsto2, xkill, xget, xset, gd_0, gd_s]
        rw [hcn2]
        refine xG_run 6 rfl (by repeat' (first | exact trivial | assumption | exact xob_b rfl | exact xal_b rfl | (apply And.intro) | decide)) ?_
        try dsimp only [xsto1, xsto2, xkill, xget, xset, gd_0, gd_s]
        rw [hcn3]
        refine xG_run 5 rfl (by repeat' (first | exact trivial | assumption | exact xob_b rfl | exact xal_b rfl | (apply And.intro) | decide)) ?_
        try dsimp only [xsto1, xsto2, xkill, xget, xset, gd_0, gd_s]
        rw [hrt]
        refine xG_run 4 rfl (by repeat' (first | exact trivial | assumption | exact xob_b rfl | exact xal_b rfl | (apply And.intro) | decide)) ?_
        try dsimp only [xsto1, xsto2, xkill, xget, xset, gd_0, gd_s]
        rw [hcn4]
        refine xG_run 5 rfl (by repeat' (first | exact trivial | assumption | exact xob_b rfl | exact xal_b rfl | (apply And.intro) | decide)) ?_
        try dsimp only [xsto1, xsto2, xkill, xget, xset, gd_0, gd_s]
        rw [nI_1, nI_1, hcc, hk1, ← bK_s hb]
        refine ih _ ⟨_, rfl, opF_t hF (opF_t opF_p (opF_t (opF_i (Or.inr (Or.inl rfl))) (opF_t (opF_i (Or.inr (Or.inr rfl))) (opF_i (Or.inl ⟨rfl, Or.inl rfl⟩))))), gI_self _ _ _ _, (gI_ne (Or.inr (by decide))).trans ((gI_ne (Or.inl (by decide))).trans ((gI_ne (Or.inl (by decide))).trans hO.2.1)), fun r hr9 hb9 => ?_⟩
        by_cases e : r = k
        · subst e
          exact ⟨gP_self _ _ _ _, (gI_ne (Or.inl (by decide))).trans ((gI_ne (Or.inl (by decide))).trans (gI_self _ _ _ _)), (gI_ne (Or.inl (by decide))).trans (gI_self _ _ _ _)⟩
        · have hlt := bK_lt hb9 (show r < k by omega)
          obtain ⟨a1, a2, a3⟩ := hO.2.2 r (by omega) hb9
          exact ⟨(gP_ne (Or.inr (by omega))).trans a1, (gI_ne (Or.inl (by decide))).trans ((gI_ne (Or.inl (by decide))).trans ((gI_ne (Or.inr (by omega))).trans a2)), (gI_ne (Or.inl (by decide))).trans ((gI_ne (Or.inr (by omega))).trans ((gI_ne (Or.inl (by decide))).trans a3))⟩
  · rintro X ⟨M2, rfl, hF, hO⟩
    have hn3 : gI M2 28 3 = nI nr := (hF.1 _ _ (by omega)).trans hr
    refine xG_run 3 rfl (by repeat' (first | exact trivial | assumption | exact xob_b rfl | exact xal_b rfl | (apply And.intro) | decide)) ?_
    try dsimp only [xsto1, xsto2, xkill, xget, xset, gd_0, gd_s]
    refine xG_brT rfl (by rw [hn3]; exact Int32.le_refl _) ?_
    refine r2_v rfl rfl ?_
    exact ⟨rfl, hF, hO⟩
