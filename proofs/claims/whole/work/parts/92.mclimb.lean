/-! ===== breachOf, breach, climb of the reference ===== -/
def brF (M M' : xM) : Prop := (∀ x k, ¬ (x = 166 ∧ (12 ≤ k ∧ k ≤ 14 ∨ k = 16 ∨ k = 24)) → gI M' x k = gI M x k) ∧ (∀ x k, gJ M' x k = gJ M x k) ∧ ∀ x k, ¬ x = 166 → gP M' x k = gP M x k
theorem brF_r {M : xM} : brF M M := ⟨fun _ _ _ => rfl, fun _ _ => rfl, fun _ _ _ => rfl⟩
theorem brF_t {M M' M2 : xM} (h : brF M M') (h2 : brF M' M2) : brF M M2 := ⟨fun x k q => (h2.1 x k q).trans (h.1 x k q), fun x k => (h2.2.1 x k).trans (h.2.1 x k), fun x k q => (h2.2.2 x k q).trans (h.2.2 x k q)⟩
theorem brF_i {M : xM} {k : Nat} {v : Int32} (h : 12 ≤ k ∧ k ≤ 14 ∨ k = 16 ∨ k = 24) : brF M (sI M 166 k v) := ⟨fun x y q => gI_ne (by omega), fun _ _ => rfl, fun _ _ _ => rfl⟩
theorem brF_p {M : xM} {k : Nat} {v : Option Nat} : brF M (sP M 166 k v) := ⟨fun _ _ _ => rfl, fun _ _ => rfl, fun x y q => gP_ne (Or.inl q)⟩
theorem brF_P {M M' : xM} (h : rdP M M') : brF M M' := ⟨fun x k q => h.1 x k (by omega), h.2.1, fun x k _ => h.2.2 x k⟩
theorem rkF_b {M M' : xM} (h : brF M M') : rkF M M' := ⟨fun x k q => h.1 x k (by omega), h.1 _ _ (by omega), h.2.1 _ _, fun x k q => ⟨h.2.1 x k, h.2.2 x k (by omega)⟩⟩
theorem mR_b {C M M' : xM} {np nr ng : Nat} (h : mR C 1 M 167 np nr ng) (f : rkF M M') : mR C 1 M' 167 np nr ng := mR_R h (fun k => f.1 _ _ (by omega))
theorem ruR_b {C M M' : xM} {nu : Nat} (h : ruR C 55 M 167 nu) (f : rkF M M') : ruR C 55 M' 167 nu := by
  have e : ∀ k, gI M' 167 k = gI M 167 k := fun k => f.1 _ _ (by omega)
  unfold ruR at h ⊢
  simp only [e]
  exact h
theorem hlP_c {M M' : xM} {φ : Nat → Int32} (h : ∀ k, gI M' 167 k = gI M 167 k) (i : Nat) : hlP M' φ i = hlP M φ i := by
  unfold hlP ruT ruZ
  simp only [h]
theorem hlV_c {M M' : xM} {φ : Nat → Int32} {nu : Nat} (h : ∀ k, gI M' 167 k = gI M 167 k) : hlV M' φ nu = hlV M φ nu := by
  unfold hlV
  rw [show hlP M' φ = hlP M φ from funext (hlP_c h)]
set_option maxRecDepth 4000 in
theorem e_breachOf {κ : xKK} {d : Nat} {M : xM} {np nr ng : Nat} {C : xM} (hm : mR C 1 M 167 np nr ng) {nu : Nat} (hu : ruR C 55 M 167 nu) {p : Nat} {hour : Int32} (hp : p < np) (h27 : gI M 166 27 = rSt M np nr) (hd : 180 ≤ d) : xE2 κ mX12_breachOf d [.ref 166, .int (nI p), .int hour] M (fun v M' => v = some (.int (hlV M (fct M np nr p hour) nu)) ∧ rkF M M' ∧ gI M' 166 27 = gI M 166 27) := by
  refine xE2_of ci_X12_breachOf cl_X12_breachOf cw_X12_breachOf rfl (L := [some (.ref 166), some (.int (nI p)), some (.int hour), none]) rfl ?_
  have hn := hm.2.1.2
  have hn2 := hm.1.1
  have hr := hm.2.2.1.2
  have hr2 := hm.1.2.1
  have hw := rPw hm
  have hh := rQh hm
  have hnu := hu.1
  have hc46 : (1646 : Int32).toNatClampNeg = 1646 := rfl
  have hs46 : xar 167 0 182 1646 := xar_n (j := 1646) rfl 1651 rfl (by omega) (by omega)
  refine xG_run 8 rfl (by repeat' (first | exact trivial | assumption | exact xob_b rfl | exact xal_b rfl | (apply And.intro) | decide)) ?_
  try dsimp only [xsto1, xsto2, xkill, xget, xset, gd_0, gd_s]
  try rw [hc46]
  have hMB : rkF M (sI (sI M 166 25 (nI p)) 166 26 hour) := rkF_t (rkF_i (Or.inl ⟨rfl, by decide⟩)) (rkF_i (Or.inl ⟨rfl, by decide⟩))
  have lp := xG_upP (κ := κ) (m := mX12_breachOf) (r := (d, 0, 0)) (YS := xRet mX12_breachOf false (fun v M' n' => n' = 182 ∧ (v = some (.int (hlV M (fct M np nr p hour) nu)) ∧ rkF M M' ∧ gI M' 166 27 = gI M 166 27))) (fun k X => ∃ M2 : xM, X = (12, [some (.ref 166), some (.int (nI p)), some (.int hour), some (.int (nI k))], [], M2, z2) ∧ brF (sI (sI M 166 25 (nI p)) 166 26 hour) M2 ∧ ∀ i, i < k → hlP M (fct M np nr p hour) i = false) nu ?_ ?_ 0 (Nat.zero_le _)
  · exact lp _ ⟨_, rfl, brF_r, fun i hi => absurd hi (Nat.not_lt_zero i)⟩
  · rintro k X hk ⟨M2, rfl, hB, hno⟩ ih
    have hk46 : gI M2 167 1646 = nI nu := (hB.1 _ _ (by omega)).trans ((gI_ne (by omega)).trans ((gI_ne (by omega)).trans hu.2.1.2))
    have e67 : ∀ j, gI M2 167 j = gI M 167 j := fun j => (hB.1 _ _ (by omega)).trans ((gI_ne (by omega)).trans (gI_ne (by omega)))
    obtain ⟨z, h1, ⟨-, h3⟩, ⟨-, h5⟩, -, h7⟩ := hu.2.2 k hk
    have hz9 : ruZ M k = z := hl_z (C := M) (nu := 0) h1 h3
    have hi1 : (179 : Int32) + 122 * nI k = nI (179 + 122 * k) := ix179 k
    have hxa : xar 167 0 182 (nI (179 + 122 * k)) := xar_n rfl 1651 rfl (by omega) (by omega)
    have hxb : xar 167 0 182 (nI (179 + 122 * k + 1)) := xar_n rfl 1651 rfl (by omega) (by omega)
    have ht9 : gI M2 167 (nI (179 + 122 * k)).toNatClampNeg = gI M 167 (179 + 122 * k) := by rw [nI_cl (by omega)]; exact e67 _
    have hi2 : nI (179 + 122 * k) + 2 = nI (181 + 122 * k) := by show nI (179 + 122 * k) + nI 2 = _; rw [nI_add, show 179 + 122 * k + 2 = 181 + 122 * k by omega]
    have hz8 : gI M2 167 (nI (179 + 122 * k + 1)).toNatClampNeg = nI z := by rw [nI_cl (by omega), show 179 + 122 * k + 1 = 180 + 122 * k by omega, e67]; exact h3
    have hB3 : brF (sI (sI M 166 25 (nI p)) 166 26 hour) (sI (sI (sI (sP M2 166 16 (some 167)) 166 13 (nI (181 + 122 * k))) 166 14 (nI z)) 166 12 0) := brF_t hB (brF_t brF_p (brF_t (brF_i (by omega)) (brF_t (brF_i (by omega)) (brF_i (by omega)))))
    have hT3 : rT (sI (sI (sI (sP M2 166 16 (some 167)) 166 13 (nI (181 + 122 * k))) 166 14 (nI z)) 166 12 0) 167 (181 + 122 * k) z (ruT M k) := ⟨(gI_ne (by omega)).trans ((gI_ne (by omega)).trans (gI_self _ _ _ _)), (gI_ne (by omega)).trans (gI_self _ _ _ _), rfl, fun q hq => by
      unfold ruT
      rw [hz9, tx_k hq]
      exact (hB3.1 _ _ (by omega)).trans ((gI_ne (by omega)).trans (gI_ne (by omega))), h1, Or.inr ⟨rfl, by omega⟩⟩
    have hok : okR (ruT M k) z := by
      unfold ruT
      rw [hz9]
      exact h7
    obtain ⟨ho1, ho2⟩ := okR_f (fct M np nr p hour) hok
    have hFO : ∀ (d2 : Nat) (M4 : xM) (c : Int32), isFd c → rdP (sI (sI (sI (sP M2 166 16 (some 167)) 166 13 (nI (181 + 122 * k))) 166 14 (nI z)) 166 12 0) M4 → 8 ≤ d2 → xE2 κ mX12_fieldOf d2 [.ref 166, .int c] M4 (fun v M' => v = some (.int ((fct M np nr p hour) (fdX c))) ∧ M' = M4) := fun d2 M4 c hc hP h8 => by
      have hB4 := brF_t hB3 (brF_P hP)
      have e4 : ∀ j, gI M4 167 j = gI M 167 j := fun j => (hB4.1 _ _ (by omega)).trans ((gI_ne (by omega)).trans (gI_ne (by omega)))
      have ej : gJ M4 166 18 = gJ M 166 18 := hB4.2.1 _ _
      have h9 := e_fieldOf2 (κ := κ) (d := d2) (M := M4) (mR_R hm e4) (p := p) (hour := hour) (c := c) ((hB4.1 _ _ (by omega)).trans ((gI_ne (by omega)).trans (gI_self _ _ _ _))) ((hB4.1 _ _ (by omega)).trans (gI_self _ _ _ _)) ((hB4.1 _ _ (by omega)).trans ((gI_ne (by omega)).trans ((gI_ne (by omega)).trans (h27.trans (rSt_c e4 ej).symm)))) hp hc h8
      rw [fct_c e4 ej] at h9
      exact h9
    have hp3 : gI (sI (sI (sI (sP M2 166 16 (some 167)) 166 13 (nI (181 + 122 * k))) 166 14 (nI z)) 166 12 0) 166 12 = nI 0 := gI_self _ _ _ _
    have hnd : ¬ dgP (chr (ruT M k) z (RX (ruT M k) z (fct M np nr p hour) 2 0 0).2.1) := by rw [ho2, chr_ge (Nat.lt_irrefl z)]; exact dg_m
    refine xG_run 5 rfl (by repeat' (first | exact trivial | assumption | exact xob_b rfl | exact xal_b rfl | (apply And.intro) | decide)) ?_
    try dsimp only [xsto1, xsto2, xkill, xget, xset, gd_0, gd_s]
    try rw [hc46]
    try rw [hc46]
    rw [hk46]
    refine xG_brF rfl (nI_ge hk (by omega)) ?_
    refine xG_run 7 rfl (by repeat' (first | exact trivial | assumption | exact xob_b rfl | exact xal_b rfl | (apply And.intro) | decide)) ?_
    try dsimp only [xsto1, xsto2, xkill, xget, xset, gd_0, gd_s]
    try rw [hc46]
    rw [hi1]
    refine xG_run 1 rfl (by repeat' (first | exact trivial | assumption | exact xob_b rfl | exact xal_b rfl | (apply And.intro) | decide)) ?_
    try dsimp only [xsto1, xsto2, xkill, xget, xset, gd_0, gd_s]
    try rw [hc46]
    rw [ht9]
    refine xG_br rfl (fun h37 => ?_) (fun h37 => ?_)
    · refine xG_run 8 rfl (by repeat' (first | exact trivial | assumption | exact xob_b rfl | exact xal_b rfl | (apply And.intro) | decide)) ?_
      try dsimp only [xsto1, xsto2, xkill, xget, xset, gd_0, gd_s]
      try rw [hc46]
      refine xG_run 2 rfl (by repeat' (first | exact trivial | assumption | exact xob_b rfl | exact xal_b rfl | (apply And.intro) | decide)) ?_
      try dsimp only [xsto1, xsto2, xkill, xget, xset, gd_0, gd_s]
      try rw [hc46]
      rw [hi1]
      refine xG_run 2 rfl (by repeat' (first | exact trivial | assumption | exact xob_b rfl | exact xal_b rfl | (apply And.intro) | decide)) ?_
      try dsimp only [xsto1, xsto2, xkill, xget, xset, gd_0, gd_s]
      try rw [hc46]
      rw [hi2]
      refine xG_run 8 rfl (by repeat' (first | exact trivial | assumption | exact xob_b rfl | exact xal_b rfl | (apply And.intro) | decide)) ?_
      try dsimp only [xsto1, xsto2, xkill, xget, xset, gd_0, gd_s]
      try rw [hc46]
      refine xG_run 3 rfl (by repeat' (first | exact trivial | assumption | exact xob_b rfl | exact xal_b rfl | (apply And.intro) | decide)) ?_
      try dsimp only [xsto1, xsto2, xkill, xget, xset, gd_0, gd_s]
      try rw [hc46]
      rw [hi1, nI_1]
      refine xG_run 1 rfl (by repeat' (first | exact trivial | assumption | exact xob_b rfl | exact xal_b rfl | (apply And.intro) | decide)) ?_
      try dsimp only [xsto1, xsto2, xkill, xget, xset, gd_0, gd_s]
      try rw [hc46]
      rw [show ∀ v w, gI (sI (sP M2 166 16 v) 166 13 w) 167 (nI (179 + 122 * k + 1)).toNatClampNeg = nI z from fun v w => (gI_ne (Or.inl (by decide))).trans hz8]
      refine xG_run 5 rfl (by repeat' (first | exact trivial | assumption | exact xob_b rfl | exact xal_b rfl | (apply And.intro) | decide)) ?_
      try dsimp only [xsto1, xsto2, xkill, xget, xset, gd_0, gd_s]
      try rw [hc46]
      refine xG_c2 0 rfl (by repeat' (first | exact trivial | assumption | exact xob_b rfl | exact xal_b rfl | (apply And.intro) | decide)) rfl rfl (by decide) cw_X12_or (d' := d - 1) (e_evals (M0 := (sI (sI (sI (sP M2 166 16 (some 167)) 166 13 (nI (181 + 122 * k))) 166 14 (nI z)) 166 12 0)) hFO (3 * (z - 0) + 2) 2 0 0 (d - 1) _ rfl (by omega) (Nat.zero_le z) (by omega) hT3 hp3 rdP_r ho1 hnd (by omega)) (by omega) ?_
      rintro v M5 ⟨rfl, k5, hF5⟩
      dsimp only [Option.toList, List.cons_append, List.nil_append]
      refine xG_br rfl (fun h93 => ?_) (fun h93 => ?_)
      · refine xG_run 2 rfl (by repeat' (first | exact trivial | assumption | exact xob_b rfl | exact xal_b rfl | (apply And.intro) | decide)) ?_
        try dsimp only [xsto1, xsto2, xkill, xget, xset, gd_0, gd_s]
        try rw [hc46]
        rw [nI_1]
        refine ih _ ⟨M5, rfl, brF_t hB3 (brF_P hF5), fun i hi => ?_⟩
        by_cases e : i = k
        · subst e
          rw [hlP_1 h37, hz9]
          exact bl_0.mp h93
        · exact hno i (by omega)
      · refine xG_run 1 rfl (by repeat' (first | exact trivial | assumption | exact xob_b rfl | exact xal_b rfl | (apply And.intro) | decide)) ?_
        try dsimp only [xsto1, xsto2, xkill, xget, xset, gd_0, gd_s]
        try rw [hc46]
        refine r2_i rfl rfl ?_
        refine ⟨by rw [hl_at hno (by rw [hlP_1 h37, hz9]; exact bl_n.mp h93) hk], rkF_t hMB (rkF_b (brF_t hB3 (brF_P hF5))), ?_⟩
        exact ((brF_t hB3 (brF_P hF5)).1 _ _ (by omega)).trans ((gI_ne (by omega)).trans (gI_ne (by omega)))
    · refine xG_run 3 rfl (by repeat' (first | exact trivial | assumption | exact xob_b rfl | exact xal_b rfl | (apply And.intro) | decide)) ?_
      try dsimp only [xsto1, xsto2, xkill, xget, xset, gd_0, gd_s]
      try rw [hc46]
      rw [nI_1]
      refine ih _ ⟨M2, rfl, hB, fun i hi => ?_⟩
      by_cases e : i = k
      · subst e; exact hlP_0 (Decidable.not_not.mp h37)
      · exact hno i (by omega)
  · rintro X ⟨M2, rfl, hB, hno⟩
    have hk46 : gI M2 167 1646 = nI nu := (hB.1 _ _ (by omega)).trans ((gI_ne (by omega)).trans ((gI_ne (by omega)).trans hu.2.1.2))
    have e67 : ∀ j, gI M2 167 j = gI M 167 j := fun j => (hB.1 _ _ (by omega)).trans ((gI_ne (by omega)).trans (gI_ne (by omega)))
    refine xG_run 5 rfl (by repeat' (first | exact trivial | assumption | exact xob_b rfl | exact xal_b rfl | (apply And.intro) | decide)) ?_
    try dsimp only [xsto1, xsto2, xkill, xget, xset, gd_0, gd_s]
    try rw [hc46]
    try rw [hc46]
    rw [hk46]
    refine xG_brT rfl (Int32.le_refl _) ?_
    refine xG_run 1 rfl (by repeat' (first | exact trivial | assumption | exact xob_b rfl | exact xal_b rfl | (apply And.intro) | decide)) ?_
    try dsimp only [xsto1, xsto2, xkill, xget, xset, gd_0, gd_s]
    try rw [hc46]
    refine r2_i rfl rfl ?_
    exact ⟨by rw [hl_no hno], rkF_t hMB (rkF_b hB), (hB.1 _ _ (by omega)).trans ((gI_ne (by omega)).trans (gI_ne (by omega)))⟩
