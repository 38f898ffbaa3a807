/-! ===== the class reads rules: atoms, sums ===== -/
def uC (M : xM) (t n : Nat) (T : Nat → Int32) : Prop := gP M 130 1 = some t ∧ gI M 130 2 = nI n ∧ n ≤ 120 ∧ (∀ k, k < n → gI M t k = T k) ∧ shp[t]? = some (.inr (0, 120)) ∧ (t < 130 ∨ 135 < t) ∧ t < 182
def uF (M M' : xM) : Prop := (∀ x k, ¬ (x = 130 ∧ (k = 3 ∨ k = 4)) → gI M' x k = gI M x k) ∧ (∀ x k, gJ M' x k = gJ M x k) ∧ ∀ x k, gP M' x k = gP M x k
theorem uF_r {M : xM} : uF M M := ⟨fun _ _ _ => rfl, fun _ _ => rfl, fun _ _ => rfl⟩
theorem uF_t {M M' M2 : xM} (h : uF M M') (h2 : uF M' M2) : uF M M2 := ⟨fun x k q => (h2.1 x k q).trans (h.1 x k q), fun x k => (h2.2.1 x k).trans (h.2.1 x k), fun x k => (h2.2.2 x k).trans (h.2.2 x k)⟩
theorem uF_i {M : xM} {k : Nat} {v : Int32} (h : k = 3 ∨ k = 4) : uF M (sI M 130 k v) := ⟨fun x y q => gI_ne (by omega), fun _ _ => rfl, fun _ _ => rfl⟩
theorem uC_F {M M' : xM} {t n : Nat} {T : Nat → Int32} (h : uC M t n T) (f : uF M M') : uC M' t n T := ⟨(f.2.2 _ _).trans h.1, (f.1 _ _ (by omega)).trans h.2.1, h.2.2.1, fun k hk => (f.1 _ _ (by have := h.2.2.2.2.2.1; omega)).trans (h.2.2.2.1 k hk), h.2.2.2.2⟩
theorem atX_c {T : Nat → Int32} {n p : Nat} {φ ψ : Nat → Int32} (h : ∀ i, φ i = ψ i) : atX T n φ p = atX T n ψ p := by rw [show φ = ψ from funext h]
theorem n4_s (T : Nat → Int32) (n p : Nat) : (∀ j, j < n4 T n p → dgP (chr T n (p + j))) ∧ (n4 T n p = 0 → ¬ dgP (chr T n p)) ∧ (¬ n4 T n p = 0 → chr T n p = 48 → n4 T n p = 1) ∧ (¬ n4 T n p = 0 → ¬ chr T n p = 48 → n4 T n p < 4 → ¬ dgP (chr T n (p + n4 T n p))) := by
  unfold n4
  by_cases c : dgP (chr T n p)
  · rw [if_neg (fun q => q c)]
    by_cases c2 : chr T n p = 48
    · rw [if_pos c2]
      exact ⟨fun j hj => by rw [show j = 0 by omega]; exact c, fun q => absurd q (by decide), fun _ _ => rfl, fun _ q => absurd c2 q⟩
    · rw [if_neg c2]
      by_cases c3 : dgP (chr T n (p + 1))
      · rw [if_neg (fun q => q c3)]
        by_cases c4 : dgP (chr T n (p + 2))
        · rw [if_neg (fun q => q c4)]
          by_cases c5 : dgP (chr T n (p + 3))
          · rw [if_neg (fun q => q c5)]
            refine ⟨fun j hj => ?_, fun q => absurd q (by decide), fun _ q => absurd q c2, fun _ _ q => absurd q (by omega)⟩
            rcases (show j = 0 ∨ j = 1 ∨ j = 2 ∨ j = 3 by omega) with rfl | rfl | rfl | rfl
            · exact c
            · exact c3
            · exact c4
            · exact c5
          · rw [if_pos c5]
            refine ⟨fun j hj => ?_, fun q => absurd q (by decide), fun _ q => absurd q c2, fun _ _ _ => c5⟩
            rcases (show j = 0 ∨ j = 1 ∨ j = 2 by omega) with rfl | rfl | rfl
            · exact c
            · exact c3
            · exact c4
        · rw [if_pos c4]
          refine ⟨fun j hj => ?_, fun q => absurd q (by decide), fun _ q => absurd q c2, fun _ _ _ => c4⟩
          rcases (show j = 0 ∨ j = 1 by omega) with rfl | rfl
          · exact c
          · exact c3
      · rw [if_pos c3]
        exact ⟨fun j hj => by rw [show j = 0 by omega]; exact c, fun q => absurd q (by decide), fun _ q => absurd q c2, fun _ _ _ => c3⟩
  · rw [if_pos c]
    exact ⟨fun j hj => absurd hj (Nat.not_lt_zero _), fun _ => c, fun q => absurd rfl q, fun q => absurd rfl q⟩
theorem dg_48 {c : Int32} (h : dgP c) : c.toInt = 48 ↔ c = 48 := ⟨fun q => Int32.toInt_inj.mp q, fun q => by rw [q]; rfl⟩
theorem dV_b {T : Nat → Int32} {n p : Nat} : ∀ {j : Nat}, j ≤ 4 → (∀ i, i < j → dgP (chr T n (p + i))) → 0 ≤ (dV T n p j).toInt ∧ (dV T n p j).toInt < ((10 ^ j : Nat) : Int) ∧ (1 ≤ j → ¬ chr T n p = 48 → 1 ≤ (dV T n p j).toInt)
  | 0, _, _ => ⟨(show (0 : Int) ≤ (0 : Int32).toInt from by decide), (show (0 : Int32).toInt < ((10 ^ 0 : Nat) : Int) from by decide), fun q => absurd q (by omega)⟩
  | j + 1, hj, h => by
    obtain ⟨a1, a2, a3⟩ := dV_b (j := j) (by omega) (fun i hi => h i (by omega))
    have hd := h j (by omega)
    obtain ⟨d1, d2, d3⟩ := dg_ti hd
    have h10 : 10 ^ j ≤ 10 ^ 3 := Nat.pow_le_pow_right (by omega) (by omega)
    have e2 : (10 : Int32).toInt = 10 := by decide
    have e1 : (48 : Int32).toInt = 48 := by decide
    have a : (10 * dV T n p j).toInt = 10 * (dV T n p j).toInt := by rw [fb_mulI (by rw [e2]; omega) (by rw [e2]; omega), e2]
    have b : (10 * dV T n p j + chr T n (p + j)).toInt = 10 * (dV T n p j).toInt + (chr T n (p + j)).toInt := by rw [fb_addI (by omega) (by omega), a]
    have e : (dV T n p (j + 1)).toInt = 10 * (dV T n p j).toInt + (chr T n (p + j)).toInt - 48 := by
      show (10 * dV T n p j + chr T n (p + j) - 48).toInt = _
      rw [fb_subI (by omega) (by omega), b, e1]
    rw [e, Nat.pow_succ]
    refine ⟨by omega, by omega, fun _ hn => ?_⟩
    by_cases c : j = 0
    · subst c
      have h48 : ¬ (chr T n (p + 0)).toInt = 48 := fun q => hn ((dg_48 hd).mp q)
      omega
    · have := a3 (by omega) hn
      omega
def ct4 (T : Nat → Int32) (n p j : Nat) : Int32 := if j = 0 then 0 else if chr T n p = 48 then 4 else nI j
theorem ct_s1 {T : Nat → Int32} {n p j : Nat} (hj : j < n4 T n p) (hz : ¬ dV T n p (j + 1) = 0) : ct4 T n p j + 1 = ct4 T n p (j + 1) := by
  obtain ⟨w1, w2, w3, w4⟩ := n4_s T n p
  have h4 := n4_4 (T := T) (n := n) p
  unfold ct4
  rw [if_neg (show ¬ j + 1 = 0 by omega)]
  by_cases c : j = 0
  · subst c
    rw [if_pos rfl]
    by_cases c2 : chr T n p = 48
    · exact absurd (show 10 * (0 : Int32) + chr T n (p + 0) - 48 = 0 by rw [Nat.add_zero, c2]; decide) hz
    · rw [if_neg c2]; rfl
  · have c2 : ¬ chr T n p = 48 := fun q => by have := w3 (by omega) q; omega
    rw [if_neg c, if_neg c2, if_neg c2, nI_1]
theorem ct_s0 {T : Nat → Int32} {n p j : Nat} (hj : j < n4 T n p) (hz : dV T n p (j + 1) = 0) : 4 = ct4 T n p (j + 1) := by
  obtain ⟨w1, w2, w3, w4⟩ := n4_s T n p
  have h4 := n4_4 (T := T) (n := n) p
  unfold ct4
  rw [if_neg (show ¬ j + 1 = 0 by omega)]
  by_cases c2 : chr T n p = 48
  · rw [if_pos c2]
  · have h := (dV_b (T := T) (n := n) (p := p) (j := j + 1) (by omega) (fun i hi => w1 i (by omega))).2.2 (by omega) c2
    rw [hz] at h
    exact absurd h (by decide)
theorem ct_0 {T : Nat → Int32} {n p : Nat} : ct4 T n p (n4 T n p) = 0 ↔ n4 T n p = 0 := by
  have h4 := n4_4 (T := T) (n := n) p
  unfold ct4
  constructor
  · intro h
    by_cases c : n4 T n p = 0
    · exact c
    · rw [if_neg c] at h
      by_cases c2 : chr T n p = 48
      · rw [if_pos c2] at h; exact absurd h (by decide)
      · rw [if_neg c2] at h
        exact nI_injb (a := n4 T n p) (b := 0) (by omega) (by omega) h.symm
  · intro h
    rw [if_pos h]
theorem ct_e {T : Nat → Int32} {n p : Nat} (h : ¬ 4 ≤ ct4 T n p (n4 T n p)) : ¬ dgP (chr T n (p + n4 T n p)) := by
  obtain ⟨w1, w2, w3, w4⟩ := n4_s T n p
  have h4 := n4_4 (T := T) (n := n) p
  by_cases c : n4 T n p = 0
  · rw [c]; exact w2 c
  · unfold ct4 at h
    rw [if_neg c] at h
    by_cases c2 : chr T n p = 48
    · rw [if_pos c2] at h; exact absurd (by decide) h
    · rw [if_neg c2] at h
      refine w4 c c2 (Nat.lt_of_le_of_ne h4 (fun q => h ?_))
      rw [q]; decide
theorem fdX_lt (c : Int32) : fdX c < 8 := by
  unfold fdX
  repeat' split
  all_goals omega
set_option maxRecDepth 4000 in
theorem e_ufieldOf {κ : xKK} {d : Nat} {M : xM} {c : Int32} : xE2 κ mX6_fieldOf d [.int c] M (fun v M' => ((isFd c ∧ v = some (.int (nI (fdX c)))) ∨ (¬ isFd c ∧ v = some (.int (-1)))) ∧ M' = M) := by
  refine xE2_of ci_X6_fieldOf cl_X6_fieldOf cw_X6_fieldOf rfl (L := [some (.int c)]) rfl ?_
  refine xG_run 1 rfl (by repeat' (first | exact trivial | assumption | exact xob_b rfl | exact xal_b rfl | (apply And.intro) | decide)) ?_
  try dsimp only [xsto1, xsto2, xkill, xget, xset, gd_0, gd_s]
  by_cases q99 : c = 99
  · refine xG_swI 90 0 rfl (by rw [q99]; decide) (by decide) rfl (by decide) ?_
    refine xG_run 1 rfl (by repeat' (first | exact trivial | assumption | exact xob_b rfl | exact xal_b rfl | (apply And.intro) | decide)) ?_
    try dsimp only [xsto1, xsto2, xkill, xget, xset, gd_0, gd_s]
    refine r2_i rfl rfl ?_
    exact ⟨Or.inl ⟨by rw [q99]; decide, by rw [q99]; rfl⟩, rfl⟩
  by_cases q100 : c = 100
  · refine xG_swI 102 1 rfl (by rw [q100]; decide) (by decide) rfl (by decide) ?_
    refine xG_run 1 rfl (by repeat' (first | exact trivial | assumption | exact xob_b rfl | exact xal_b rfl | (apply And.intro) | decide)) ?_
    try dsimp only [xsto1, xsto2, xkill, xget, xset, gd_0, gd_s]
    refine r2_i rfl rfl ?_
    exact ⟨Or.inr ⟨by rw [q100]; decide, rfl⟩, rfl⟩
  by_cases q101 : c = 101
  · refine xG_swI 102 2 rfl (by rw [q101]; decide) (by decide) rfl (by decide) ?_
    refine xG_run 1 rfl (by repeat' (first | exact trivial | assumption | exact xob_b rfl | exact xal_b rfl | (apply And.intro) | decide)) ?_
    try dsimp only [xsto1, xsto2, xkill, xget, xset, gd_0, gd_s]
    refine r2_i rfl rfl ?_
    exact ⟨Or.inr ⟨by rw [q101]; decide, rfl⟩, rfl⟩
  by_cases q102 : c = 102
  · refine xG_swI 102 3 rfl (by rw [q102]; decide) (by decide) rfl (by decide) ?_
    refine xG_run 1 rfl (by repeat' (first | exact trivial | assumption | exact xob_b rfl | exact xal_b rfl | (apply And.intro) | decide)) ?_
    try dsimp only [xsto1, xsto2, xkill, xget, xset, gd_0, gd_s]
    refine r2_i rfl rfl ?_
    exact ⟨Or.inr ⟨by rw [q102]; decide, rfl⟩, rfl⟩
  by_cases q103 : c = 103
  · refine xG_swI 102 4 rfl (by rw [q103]; decide) (by decide) rfl (by decide) ?_
    refine xG_run 1 rfl (by repeat' (first | exact trivial | assumption | exact xob_b rfl | exact xal_b rfl | (apply And.intro) | decide)) ?_
    try dsimp only [xsto1, xsto2, xkill, xget, xset, gd_0, gd_s]
    refine r2_i rfl rfl ?_
    exact ⟨Or.inr ⟨by rw [q103]; decide, rfl⟩, rfl⟩
  by_cases q104 : c = 104
  · refine xG_swI 94 5 rfl (by rw [q104]; decide) (by decide) rfl (by decide) ?_
    refine xG_run 1 rfl (by repeat' (first | exact trivial | assumption | exact xob_b rfl | exact xal_b rfl | (apply And.intro) | decide)) ?_
    try dsimp only [xsto1, xsto2, xkill, xget, xset, gd_0, gd_s]
    refine r2_i rfl rfl ?_
    exact ⟨Or.inl ⟨by rw [q104]; decide, by rw [q104]; rfl⟩, rfl⟩
  by_cases q105 : c = 105
  · refine xG_swI 88 6 rfl (by rw [q105]; decide) (by decide) rfl (by decide) ?_
    refine xG_run 1 rfl (by repeat' (first | exact trivial | assumption | exact xob_b rfl | exact xal_b rfl | (apply And.intro) | decide)) ?_
    try dsimp only [xsto1, xsto2, xkill, xget, xset, gd_0, gd_s]
    refine r2_i rfl rfl ?_
    exact ⟨Or.inl ⟨by rw [q105]; decide, by rw [q105]; rfl⟩, rfl⟩
  by_cases q106 : c = 106
  · refine xG_swI 102 7 rfl (by rw [q106]; decide) (by decide) rfl (by decide) ?_
    refine xG_run 1 rfl (by repeat' (first | exact trivial | assumption | exact xob_b rfl | exact xal_b rfl | (apply And.intro) | decide)) ?_
    try dsimp only [xsto1, xsto2, xkill, xget, xset, gd_0, gd_s]
    refine r2_i rfl rfl ?_
    exact ⟨Or.inr ⟨by rw [q106]; decide, rfl⟩, rfl⟩
  by_cases q107 : c = 107
  · refine xG_swI 99 8 rfl (by rw [q107]; decide) (by decide) rfl (by decide) ?_
    refine xG_run 1 rfl (by repeat' (first | exact trivial | assumption | exact xob_b rfl | exact xal_b rfl | (apply And.intro) | decide)) ?_
    try dsimp only [xsto1, xsto2, xkill, xget, xset, gd_0, gd_s]
    refine r2_i rfl rfl ?_
    exact ⟨Or.inl ⟨by rw [q107]; decide, by rw [q107]; rfl⟩, rfl⟩
  by_cases q108 : c = 108
  · refine xG_swI 86 9 rfl (by rw [q108]; decide) (by decide) rfl (by decide) ?_
    refine xG_run 1 rfl (by repeat' (first | exact trivial | assumption | exact xob_b rfl | exact xal_b rfl | (apply And.intro) | decide)) ?_
    try dsimp only [xsto1, xsto2, xkill, xget, xset, gd_0, gd_s]
    refine r2_i rfl rfl ?_
    exact ⟨Or.inl ⟨by rw [q108]; decide, by rw [q108]; rfl⟩, rfl⟩
  by_cases q109 : c = 109
  · refine xG_swI 102 10 rfl (by rw [q109]; decide) (by decide) rfl (by decide) ?_
    refine xG_run 1 rfl (by repeat' (first | exact trivial | assumption | exact xob_b rfl | exact xal_b rfl | (apply And.intro) | decide)) ?_
    try dsimp only [xsto1, xsto2, xkill, xget, xset, gd_0, gd_s]
    refine r2_i rfl rfl ?_
    exact ⟨Or.inr ⟨by rw [q109]; decide, rfl⟩, rfl⟩
  by_cases q110 : c = 110
  · refine xG_swI 102 11 rfl (by rw [q110]; decide) (by decide) rfl (by decide) ?_
    refine xG_run 1 rfl (by repeat' (first | exact trivial | assumption | exact xob_b rfl | exact xal_b rfl | (apply And.intro) | decide)) ?_
    try dsimp only [xsto1, xsto2, xkill, xget, xset, gd_0, gd_s]
    refine r2_i rfl rfl ?_
    exact ⟨Or.inr ⟨by rw [q110]; decide, rfl⟩, rfl⟩
  by_cases q111 : c = 111
  · refine xG_swI 92 12 rfl (by rw [q111]; decide) (by decide) rfl (by decide) ?_
    refine xG_run 1 rfl (by repeat' (first | exact trivial | assumption | exact xob_b rfl | exact xal_b rfl | (apply And.intro) | decide)) ?_
    try dsimp only [xsto1, xsto2, xkill, xget, xset, gd_0, gd_s]
    refine r2_i rfl rfl ?_
    exact ⟨Or.inl ⟨by rw [q111]; decide, by rw [q111]; rfl⟩, rfl⟩
  by_cases q112 : c = 112
  · refine xG_swI 96 13 rfl (by rw [q112]; decide) (by decide) rfl (by decide) ?_
    refine xG_run 1 rfl (by repeat' (first | exact trivial | assumption | exact xob_b rfl | exact xal_b rfl | (apply And.intro) | decide)) ?_
    try dsimp only [xsto1, xsto2, xkill, xget, xset, gd_0, gd_s]
    refine r2_i rfl rfl ?_
    exact ⟨Or.inl ⟨by rw [q112]; decide, by rw [q112]; rfl⟩, rfl⟩
  by_cases q113 : c = 113
  · refine xG_swI 102 14 rfl (by rw [q113]; decide) (by decide) rfl (by decide) ?_
    refine xG_run 1 rfl (by repeat' (first | exact trivial | assumption | exact xob_b rfl | exact xal_b rfl | (apply And.intro) | decide)) ?_
    try dsimp only [xsto1, xsto2, xkill, xget, xset, gd_0, gd_s]
    refine r2_i rfl rfl ?_
    exact ⟨Or.inr ⟨by rw [q113]; decide, rfl⟩, rfl⟩
  by_cases q114 : c = 114
  · refine xG_swI 102 15 rfl (by rw [q114]; decide) (by decide) rfl (by decide) ?_
    refine xG_run 1 rfl (by repeat' (first | exact trivial | assumption | exact xob_b rfl | exact xal_b rfl | (apply And.intro) | decide)) ?_
    try dsimp only [xsto1, xsto2, xkill, xget, xset, gd_0, gd_s]
    refine r2_i rfl rfl ?_
    exact ⟨Or.inr ⟨by rw [q114]; decide, rfl⟩, rfl⟩
  by_cases q115 : c = 115
  · refine xG_swI 84 16 rfl (by rw [q115]; decide) (by decide) rfl (by decide) ?_
    refine xG_run 1 rfl (by repeat' (first | exact trivial | assumption | exact xob_b rfl | exact xal_b rfl | (apply And.intro) | decide)) ?_
    try dsimp only [xsto1, xsto2, xkill, xget, xset, gd_0, gd_s]
    refine r2_i rfl rfl ?_
    exact ⟨Or.inl ⟨by rw [q115]; decide, by rw [q115]; rfl⟩, rfl⟩
  refine xG_swO 102 rfl (by have := lv_neT q99 (a := 99) (by decide); have := lv_neT q100 (a := 100) (by decide); have := lv_neT q101 (a := 101) (by decide); have := lv_neT q102 (a := 102) (by decide); have := lv_neT q103 (a := 103) (by decide); have := lv_neT q104 (a := 104) (by decide); have := lv_neT q105 (a := 105) (by decide); have := lv_neT q106 (a := 106) (by decide); have := lv_neT q107 (a := 107) (by decide); have := lv_neT q108 (a := 108) (by decide); have := lv_neT q109 (a := 109) (by decide); have := lv_neT q110 (a := 110) (by decide); have := lv_neT q111 (a := 111) (by decide); have := lv_neT q112 (a := 112) (by decide); have := lv_neT q113 (a := 113) (by decide); have := lv_neT q114 (a := 114) (by decide); have := lv_neT q115 (a := 115) (by decide); omega) (by decide) ?_
  refine xG_run 1 rfl (by repeat' (first | exact trivial | assumption | exact xob_b rfl | exact xal_b rfl | (apply And.intro) | decide)) ?_
  try dsimp only [xsto1, xsto2, xkill, xget, xset, gd_0, gd_s]
  refine r2_i rfl rfl ?_
  exact ⟨Or.inr ⟨fun q => by rcases q with q | q | q | q | q | q | q | q <;> contradiction, rfl⟩, rfl⟩
def uM (M : xM) (p j : Nat) : xM := if j = 0 then M else sI M 130 3 (nI (p + j))
theorem uM_3 {M : xM} {p j : Nat} (h : gI M 130 3 = nI p) : gI (uM M p j) 130 3 = nI (p + j) := by
  unfold uM
  by_cases c : j = 0
  · rw [if_pos c, c]; exact h
  · rw [if_neg c]; exact gI_self _ _ _ _
theorem uM_o {M : xM} {p j x k : Nat} (h : ¬ (x = 130 ∧ k = 3)) : gI (uM M p j) x k = gI M x k := by
  unfold uM
  by_cases c : j = 0
  · rw [if_pos c]
  · rw [if_neg c]; exact gI_ne (by omega)
theorem uM_p {M : xM} {p j x k : Nat} : gP (uM M p j) x k = gP M x k := by
  unfold uM
  by_cases c : j = 0
  · rw [if_pos c]
  · rw [if_neg c]; rfl
theorem uM_s {M : xM} {p j : Nat} : sI (uM M p j) 130 3 (nI (p + j + 1)) = uM M p (j + 1) := by
  unfold uM
  rw [if_neg (show ¬ j + 1 = 0 by omega), Nat.add_assoc]
  by_cases c : j = 0
  · rw [if_pos c]
  · rw [if_neg c, sI_sI]
theorem uM_F {M : xM} {p j : Nat} : uF M (uM M p j) := by
  unfold uM
  by_cases c : j = 0
  · rw [if_pos c]; exact uF_r
  · rw [if_neg c]; exact uF_i (Or.inl rfl)
set_option maxRecDepth 4000 in
theorem e_readAtom {κ : xKK} {d : Nat} {M : xM} {t n p : Nat} {T : Nat → Int32} (hC : uC M t n T) (r3 : gI M 130 3 = nI p) (hp : p ≤ n) (r4 : gI M 130 4 = 0) (hd : 2 ≤ d) : xE2 κ mX6_readAtom d [.ref 130] M (fun v M' => v = some (.int (atX T n (fun i => gI M 131 i) p).2.2) ∧ gI M' 130 3 = nI (atX T n (fun i => gI M 131 i) p).2.1 ∧ gI M' 130 4 = (if (atX T n (fun i => gI M 131 i) p).1 = true then 0 else 1) ∧ uF M M') := by
  refine xE2_of ci_X6_readAtom cl_X6_readAtom cw_X6_readAtom rfl (L := [some (.ref 130), none, none, none]) rfl ?_
  have hC9 := hC
  obtain ⟨c1, s2, hn2, hT, hsh, ht1, ht2⟩ := hC
  have hb0 : xrf (xpr z2.2.1 M 130 1) = .ref t := by show xrf (gP M 130 1) = _; rw [c1]; rfl
  have har : ∀ k, k < n → xar t 0 182 (nI k) := fun k hk => ⟨120, hsh, ht2, by rw [nI_ti (by omega)]; omega, by rw [nI_ti (by omega)]; omega⟩
  have hch : ∀ k, k < n → gI M t (nI k).toNatClampNeg = chr T n k := fun k hk => by rw [nI_cl (by omega), chr_lt hk]; exact hT k hk
  obtain ⟨w1, w2, w3, w4⟩ := n4_s T n p
  have hw4 := n4_4 (T := T) (n := n) p
  refine xG_run 2 rfl (by repeat' (first | exact trivial | assumption | exact xob_b rfl | exact xal_b rfl | (apply And.intro) | decide)) ?_
  try dsimp only [xsto1, xsto2, xkill, xget, xset, gd_0, gd_s]
  try simp (disch := omega) only [gI_self, g_ne, sI_sI, s2, r3, r4, nI_1]
  refine xG_brF rfl (fun q => q rfl) ?_
  refine xG_run 4 rfl (by repeat' (first | exact trivial | assumption | exact xob_b rfl | exact xal_b rfl | (apply And.intro) | decide)) ?_
  try dsimp only [xsto1, xsto2, xkill, xget, xset, gd_0, gd_s]
  try simp (disch := omega) only [gI_self, g_ne, sI_sI, s2, r3, r4, nI_1]
  refine xG_br rfl (fun h15 => ?_) (fun h15 => ?_)
  · have hlt : p < n := nI_lt9 (by omega) (by omega) (Int32.not_le.mpr h15)
    have ha := har p hlt
    have hc := hch p hlt
    refine xG_run 2 rfl (by repeat' (first | exact trivial | assumption | exact xob_b rfl | exact xal_b rfl | (apply And.intro) | decide)) ?_
    try dsimp only [xsto1, xsto2, xkill, xget, xset, gd_0, gd_s]
    try simp (disch := omega) only [gI_self, g_ne, sI_sI, s2, r3, r4, nI_1]
    first | rw [hb0] | rw [hb]
    refine xG_run 2 rfl (by repeat' (first | exact trivial | assumption | exact xob_b rfl | exact xal_b rfl | (apply And.intro) | decide)) ?_
    try dsimp only [xsto1, xsto2, xkill, xget, xset, gd_0, gd_s]
    try simp (disch := omega) only [gI_self, g_ne, sI_sI, s2, r3, r4, nI_1]
    try simp (disch := omega) only [gI_self, g_ne, sI_sI, s2, r3, r4, nI_1]
    refine xG_run 1 rfl (by repeat' (first | exact trivial | assumption | exact xob_b rfl | exact xal_b rfl | (apply And.intro) | decide)) ?_
    try dsimp only [xsto1, xsto2, xkill, xget, xset, gd_0, gd_s]
    try simp (disch := omega) only [gI_self, g_ne, sI_sI, s2, r3, r4, nI_1]
    rw [hc]
    refine xG_c2 1 rfl (by repeat' (first | exact trivial | assumption | exact xob_b rfl | exact xal_b rfl | (apply And.intro) | decide)) rfl rfl (by decide) cw_X6_fieldOf (d' := d - 1) e_ufieldOf (by omega) ?_
    rintro v M1 ⟨⟨hf, rfl⟩ | ⟨hf, rfl⟩, hM⟩ <;> subst M1
    · dsimp only [Option.toList, List.cons_append, List.nil_append]
      have hf7 := fdX_lt (chr T n p)
      have hf8 : gI M 131 (nI (fdX (chr T n p))).toNatClampNeg = gI M 131 (fdX (chr T n p)) := by rw [nI_cl (by omega)]
      have hxf : xar 131 0 182 (nI (fdX (chr T n p))) := xar_n rfl 8 rfl hf7 (by omega)
      refine xG_run 2 rfl (by repeat' (first | exact trivial | assumption | exact xob_b rfl | exact xal_b rfl | (apply And.intro) | decide)) ?_
      try dsimp only [xsto1, xsto2, xkill, xget, xset, gd_0, gd_s]
      try simp (disch := omega) only [gI_self, g_ne, sI_sI, s2, r3, r4, nI_1]
      refine xG_brF rfl (Int32.not_lt.mpr (nI_le (a := 0) (Nat.zero_le _) (by omega))) ?_
      refine xG_run 8 rfl (by repeat' (first | exact trivial | assumption | exact xob_b rfl | exact xal_b rfl | (apply And.intro) | decide)) ?_
      try dsimp only [xsto1, xsto2, xkill, xget, xset, gd_0, gd_s]
      try simp (disch := omega) only [gI_self, g_ne, sI_sI, s2, r3, r4, nI_1]
      refine xG_run 1 rfl (by repeat' (first | exact trivial | assumption | exact xob_b rfl | exact xal_b rfl | (apply And.intro) | decide)) ?_
      try dsimp only [xsto1, xsto2, xkill, xget, xset, gd_0, gd_s]
      try simp (disch := omega) only [gI_self, g_ne, sI_sI, s2, r3, r4, nI_1]
      try simp (disch := omega) only [gI_self, g_ne, sI_sI, s2, r3, r4, nI_1]
      refine xG_run 1 rfl (by repeat' (first | exact trivial | assumption | exact xob_b rfl | exact xal_b rfl | (apply And.intro) | decide)) ?_
      try dsimp only [xsto1, xsto2, xkill, xget, xset, gd_0, gd_s]
      try simp (disch := omega) only [gI_self, g_ne, sI_sI, s2, r3, r4, nI_1]
      rw [hf8]
      refine r2_i rfl rfl ?_
      rw [show atX T n (fun i => gI M 131 i) p = (true, p + 1, gI M 131 (fdX (chr T n p))) from if_pos hf]
      exact ⟨rfl, gI_self _ _ _ _, (gI_ne (by omega)).trans r4, uF_i (Or.inl rfl)⟩
    · dsimp only [Option.toList, List.cons_append, List.nil_append]
      refine xG_run 2 rfl (by repeat' (first | exact trivial | assumption | exact xob_b rfl | exact xal_b rfl | (apply And.intro) | decide)) ?_
      try dsimp only [xsto1, xsto2, xkill, xget, xset, gd_0, gd_s]
      try simp (disch := omega) only [gI_self, g_ne, sI_sI, s2, r3, r4, nI_1]
      refine xG_brT rfl (by decide) ?_
      refine xG_run 4 rfl (by repeat' (first | exact trivial | assumption | exact xob_b rfl | exact xal_b rfl | (apply And.intro) | decide)) ?_
      try dsimp only [xsto1, xsto2, xkill, xget, xset, gd_0, gd_s]
      try simp (disch := omega) only [gI_self, g_ne, sI_sI, s2, r3, r4, nI_1]
      have hnf := hf
      have lp := xG_upP (κ := κ) (m := mX6_readAtom) (r := (d, 0, 0)) (YS := xRet mX6_readAtom false (fun v M' n' => n' = 182 ∧ (v = some (.int (atX T n (fun i => gI M 131 i) p).2.2) ∧ gI M' 130 3 = nI (atX T n (fun i => gI M 131 i) p).2.1 ∧ gI M' 130 4 = (if (atX T n (fun i => gI M 131 i) p).1 = true then 0 else 1) ∧ uF M M'))) (fun j X => X = (60, [some (.ref 130), some (.int (-1)), some (.int (dV T n p j)), some (.int (ct4 T n p j))], [], uM M p j, z2)) (n4 T n p) ?_ ?_ 0 (Nat.zero_le _)
      · exact lp _ rfl
      · rintro j X hj rfl ih
        have hlt : p + j < n := dg_lt (w1 j hj)
        have hdg := w1 j hj
        have ha := har (p + j) hlt
        have hgt : gI (uM M p j) t (nI (p + j)).toNatClampNeg = chr T n (p + j) := (uM_o (by omega)).trans (hch (p + j) hlt)
        have hct : ct4 T n p j < 4 := by
          unfold ct4
          by_cases c : j = 0
          · rw [if_pos c]; decide
          · rw [if_neg c, if_neg (fun q => by have := w3 (by omega) q; omega)]
            exact nI_lt (b := 4) (by omega) (by omega)
        have m3 := uM_3 (j := j) r3
        have m4 : gI (uM M p j) 130 4 = 0 := (uM_o (by omega)).trans r4
        have m2 : gI (uM M p j) 130 2 = nI n := (uM_o (by omega)).trans s2
        have hb : xrf (xpr z2.2.1 (uM M p j) 130 1) = .ref t := by show xrf (gP (uM M p j) 130 1) = _; rw [uM_p, c1]; rfl
        refine xG_run 2 rfl (by repeat' (first | exact trivial | assumption | exact xob_b rfl | exact xal_b rfl | (apply And.intro) | decide)) ?_
        try dsimp only [xsto1, xsto2, xkill, xget, xset, gd_0, gd_s]
        try simp (disch := omega) only [gI_self, g_ne, sI_sI, m2, m3, m4, nI_1, uM_s]
        refine xG_brF rfl (Int32.not_le.mpr hct) ?_
        refine xG_run 2 rfl (by repeat' (first | exact trivial | assumption | exact xob_b rfl | exact xal_b rfl | (apply And.intro) | decide)) ?_
        try dsimp only [xsto1, xsto2, xkill, xget, xset, gd_0, gd_s]
        try simp (disch := omega) only [gI_self, g_ne, sI_sI, m2, m3, m4, nI_1, uM_s]
        refine xG_brF rfl (fun q => q rfl) ?_
        refine xG_run 4 rfl (by repeat' (first | exact trivial | assumption | exact xob_b rfl | exact xal_b rfl | (apply And.intro) | decide)) ?_
        try dsimp only [xsto1, xsto2, xkill, xget, xset, gd_0, gd_s]
        try simp (disch := omega) only [gI_self, g_ne, sI_sI, m2, m3, m4, nI_1, uM_s]
        refine xG_brF rfl (nI_ge hlt (by omega)) ?_
        refine xG_run 2 rfl (by repeat' (first | exact trivial | assumption | exact xob_b rfl | exact xal_b rfl | (apply And.intro) | decide)) ?_
        try dsimp only [xsto1, xsto2, xkill, xget, xset, gd_0, gd_s]
        try simp (disch := omega) only [gI_self, g_ne, sI_sI, m2, m3, m4, nI_1, uM_s]
        rw [hb]
        refine xG_run 2 rfl (by repeat' (first | exact trivial | assumption | exact xob_b rfl | exact xal_b rfl | (apply And.intro) | decide)) ?_
        try dsimp only [xsto1, xsto2, xkill, xget, xset, gd_0, gd_s]
        try simp (disch := omega) only [gI_self, g_ne, sI_sI, m2, m3, m4, nI_1, uM_s]
        try simp only [m3]
        refine xG_run 1 rfl (by repeat' (first | exact trivial | assumption | exact xob_b rfl | exact xal_b rfl | (apply And.intro) | decide)) ?_
        try dsimp only [xsto1, xsto2, xkill, xget, xset, gd_0, gd_s]
        try simp (disch := omega) only [gI_self, g_ne, sI_sI, m2, m3, m4, nI_1, uM_s]
        try simp only [m3]
        rw [hgt]
        refine xG_c2 1 rfl (by repeat' (first | exact trivial | assumption | exact xob_b rfl | exact xal_b rfl | (apply And.intro) | decide)) rfl rfl (by decide) cw_X10_isDigit (d' := d - 1) e_isDigit (by omega) ?_
        rintro v M' ⟨rfl, hM⟩
        subst M'
        dsimp only [Option.toList, List.cons_append, List.nil_append]
        refine xG_brF rfl (by rw [if_pos hdg]; decide) ?_
        refine xG_run 5 rfl (by repeat' (first | exact trivial | assumption | exact xob_b rfl | exact xal_b rfl | (apply And.intro) | decide)) ?_
        try dsimp only [xsto1, xsto2, xkill, xget, xset, gd_0, gd_s]
        try simp (disch := omega) only [gI_self, g_ne, sI_sI, m2, m3, m4, nI_1, uM_s]
        rw [hb]
        refine xG_run 2 rfl (by repeat' (first | exact trivial | assumption | exact xob_b rfl | exact xal_b rfl | (apply And.intro) | decide)) ?_
        try dsimp only [xsto1, xsto2, xkill, xget, xset, gd_0, gd_s]
        try simp (disch := omega) only [gI_self, g_ne, sI_sI, m2, m3, m4, nI_1, uM_s]
        try simp only [m3]
        refine xG_run 1 rfl (by repeat' (first | exact trivial | assumption | exact xob_b rfl | exact xal_b rfl | (apply And.intro) | decide)) ?_
        try dsimp only [xsto1, xsto2, xkill, xget, xset, gd_0, gd_s]
        try simp (disch := omega) only [gI_self, g_ne, sI_sI, m2, m3, m4, nI_1, uM_s]
        try simp only [m3]
        rw [hgt]
        refine xG_run 8 rfl (by repeat' (first | exact trivial | assumption | exact xob_b rfl | exact xal_b rfl | (apply And.intro) | decide)) ?_
        try dsimp only [xsto1, xsto2, xkill, xget, xset, gd_0, gd_s]
        try simp (disch := omega) only [gI_self, g_ne, sI_sI, m2, m3, m4, nI_1, uM_s]
        refine xG_run 3 rfl (by repeat' (first | exact trivial | assumption | exact xob_b rfl | exact xal_b rfl | (apply And.intro) | decide)) ?_
        try dsimp only [xsto1, xsto2, xkill, xget, xset, gd_0, gd_s]
        try simp (disch := omega) only [gI_self, g_ne, sI_sI, m2, m3, m4, nI_1, uM_s]
        refine xG_br rfl (fun h127 => ?_) (fun h127 => ?_)
        · refine xG_run 5 rfl (by repeat' (first | exact trivial | assumption | exact xob_b rfl | exact xal_b rfl | (apply And.intro) | decide)) ?_
          try dsimp only [xsto1, xsto2, xkill, xget, xset, gd_0, gd_s]
          try simp (disch := omega) only [gI_self, g_ne, sI_sI, m2, m3, m4, nI_1, uM_s]
          rw [ct_s1 hj h127]
          exact ih _ rfl
        · refine xG_run 4 rfl (by repeat' (first | exact trivial | assumption | exact xob_b rfl | exact xal_b rfl | (apply And.intro) | decide)) ?_
          try dsimp only [xsto1, xsto2, xkill, xget, xset, gd_0, gd_s]
          try simp (disch := omega) only [gI_self, g_ne, sI_sI, m2, m3, m4, nI_1, uM_s]
          rw [ct_s0 hj (Decidable.not_not.mp h127)]
          exact ih _ rfl
      · rintro X rfl
        have m3 := uM_3 (j := n4 T n p) r3
        have m4 : gI (uM M p (n4 T n p)) 130 4 = 0 := (uM_o (by omega)).trans r4
        have m2 : gI (uM M p (n4 T n p)) 130 2 = nI n := (uM_o (by omega)).trans s2
        have hb : xrf (xpr z2.2.1 (uM M p (n4 T n p)) 130 1) = .ref t := by show xrf (gP (uM M p (n4 T n p)) 130 1) = _; rw [uM_p, c1]; rfl
        refine xG_run 2 rfl (by repeat' (first | exact trivial | assumption | exact xob_b rfl | exact xal_b rfl | (apply And.intro) | decide)) ?_
        try dsimp only [xsto1, xsto2, xkill, xget, xset, gd_0, gd_s]
        try simp (disch := omega) only [gI_self, g_ne, sI_sI, m2, m3, m4, nI_1]
        refine xG_br rfl (fun h62 => ?_) (fun h62 => ?_)
        · refine xG_run 3 rfl (by repeat' (first | exact trivial | assumption | exact xob_b rfl | exact xal_b rfl | (apply And.intro) | decide)) ?_
          try dsimp only [xsto1, xsto2, xkill, xget, xset, gd_0, gd_s]
          try simp (disch := omega) only [gI_self, g_ne, sI_sI, m2, m3, m4, nI_1]
          refine xG_brF rfl (fun q => q rfl) ?_
          refine xG_run 1 rfl (by repeat' (first | exact trivial | assumption | exact xob_b rfl | exact xal_b rfl | (apply And.intro) | decide)) ?_
          try dsimp only [xsto1, xsto2, xkill, xget, xset, gd_0, gd_s]
          try simp (disch := omega) only [gI_self, g_ne, sI_sI, m2, m3, m4, nI_1]
          refine xG_br rfl (fun h150 => ?_) (fun h150 => ?_)
          · refine xG_run 3 rfl (by repeat' (first | exact trivial | assumption | exact xob_b rfl | exact xal_b rfl | (apply And.intro) | decide)) ?_
            try dsimp only [xsto1, xsto2, xkill, xget, xset, gd_0, gd_s]
            try simp (disch := omega) only [gI_self, g_ne, sI_sI, m2, m3, m4, nI_1]
            refine r2_i rfl rfl ?_
            rw [show atX T n (fun i => gI M 131 i) p = if n4 T n p = 0 then (false, p, 0) else (true, p + n4 T n p, dV T n p (n4 T n p)) from if_neg hnf]
            have h0 : ¬ n4 T n p = 0 := fun q => h150 (ct_0.mpr q)
            rw [if_neg h0]
            exact ⟨rfl, (gI_ne (by omega)).trans m3, gI_self _ _ _ _, uF_t uM_F (uF_i (Or.inr rfl))⟩
          · refine xG_run 4 rfl (by repeat' (first | exact trivial | assumption | exact xob_b rfl | exact xal_b rfl | (apply And.intro) | decide)) ?_
            try dsimp only [xsto1, xsto2, xkill, xget, xset, gd_0, gd_s]
            try simp (disch := omega) only [gI_self, g_ne, sI_sI, m2, m3, m4, nI_1]
            refine r2_i rfl rfl ?_
            rw [show atX T n (fun i => gI M 131 i) p = if n4 T n p = 0 then (false, p, 0) else (true, p + n4 T n p, dV T n p (n4 T n p)) from if_neg hnf]
            have h0 : n4 T n p = 0 := ct_0.mp (Decidable.not_not.mp h150)
            rw [if_pos h0]
            refine ⟨by rw [h0]; rfl, ?_, gI_self _ _ _ _, uF_t uM_F (uF_i (Or.inr rfl))⟩
            rw [gI_ne (by omega), m3, h0]; rfl
        · refine xG_run 2 rfl (by repeat' (first | exact trivial | assumption | exact xob_b rfl | exact xal_b rfl | (apply And.intro) | decide)) ?_
          try dsimp only [xsto1, xsto2, xkill, xget, xset, gd_0, gd_s]
          try simp (disch := omega) only [gI_self, g_ne, sI_sI, m2, m3, m4, nI_1]
          refine xG_brF rfl (fun q => q rfl) ?_
          refine xG_run 4 rfl (by repeat' (first | exact trivial | assumption | exact xob_b rfl | exact xal_b rfl | (apply And.intro) | decide)) ?_
          try dsimp only [xsto1, xsto2, xkill, xget, xset, gd_0, gd_s]
          try simp (disch := omega) only [gI_self, g_ne, sI_sI, m2, m3, m4, nI_1]
          refine xG_br rfl (fun h80 => ?_) (fun h80 => ?_)
          · refine xG_run 3 rfl (by repeat' (first | exact trivial | assumption | exact xob_b rfl | exact xal_b rfl | (apply And.intro) | decide)) ?_
            try dsimp only [xsto1, xsto2, xkill, xget, xset, gd_0, gd_s]
            try simp (disch := omega) only [gI_self, g_ne, sI_sI, m2, m3, m4, nI_1]
            refine xG_brF rfl (fun q => q rfl) ?_
            refine xG_run 1 rfl (by repeat' (first | exact trivial | assumption | exact xob_b rfl | exact xal_b rfl | (apply And.intro) | decide)) ?_
            try dsimp only [xsto1, xsto2, xkill, xget, xset, gd_0, gd_s]
            try simp (disch := omega) only [gI_self, g_ne, sI_sI, m2, m3, m4, nI_1]
            refine xG_br rfl (fun h150 => ?_) (fun h150 => ?_)
            · refine xG_run 3 rfl (by repeat' (first | exact trivial | assumption | exact xob_b rfl | exact xal_b rfl | (apply And.intro) | decide)) ?_
              try dsimp only [xsto1, xsto2, xkill, xget, xset, gd_0, gd_s]
              try simp (disch := omega) only [gI_self, g_ne, sI_sI, m2, m3, m4, nI_1]
              refine r2_i rfl rfl ?_
              rw [show atX T n (fun i => gI M 131 i) p = if n4 T n p = 0 then (false, p, 0) else (true, p + n4 T n p, dV T n p (n4 T n p)) from if_neg hnf]
              have h0 : ¬ n4 T n p = 0 := fun q => h150 (ct_0.mpr q)
              rw [if_neg h0]
              exact ⟨rfl, (gI_ne (by omega)).trans m3, gI_self _ _ _ _, uF_t uM_F (uF_i (Or.inr rfl))⟩
            · refine xG_run 4 rfl (by repeat' (first | exact trivial | assumption | exact xob_b rfl | exact xal_b rfl | (apply And.intro) | decide)) ?_
              try dsimp only [xsto1, xsto2, xkill, xget, xset, gd_0, gd_s]
              try simp (disch := omega) only [gI_self, g_ne, sI_sI, m2, m3, m4, nI_1]
              refine r2_i rfl rfl ?_
              rw [show atX T n (fun i => gI M 131 i) p = if n4 T n p = 0 then (false, p, 0) else (true, p + n4 T n p, dV T n p (n4 T n p)) from if_neg hnf]
              have h0 : n4 T n p = 0 := ct_0.mp (Decidable.not_not.mp h150)
              rw [if_pos h0]
              refine ⟨by rw [h0]; rfl, ?_, gI_self _ _ _ _, uF_t uM_F (uF_i (Or.inr rfl))⟩
              rw [gI_ne (by omega), m3, h0]; rfl
          · have hlt : p + n4 T n p < n := nI_lt9 (by omega) (by omega) h80
            have ha := har _ hlt
            have hgt : gI (uM M p (n4 T n p)) t (nI (p + n4 T n p)).toNatClampNeg = chr T n (p + n4 T n p) := (uM_o (by omega)).trans (hch _ hlt)
            refine xG_run 2 rfl (by repeat' (first | exact trivial | assumption | exact xob_b rfl | exact xal_b rfl | (apply And.intro) | decide)) ?_
            try dsimp only [xsto1, xsto2, xkill, xget, xset, gd_0, gd_s]
            try simp (disch := omega) only [gI_self, g_ne, sI_sI, m2, m3, m4, nI_1]
            rw [hb]
            refine xG_run 2 rfl (by repeat' (first | exact trivial | assumption | exact xob_b rfl | exact xal_b rfl | (apply And.intro) | decide)) ?_
            try dsimp only [xsto1, xsto2, xkill, xget, xset, gd_0, gd_s]
            try simp (disch := omega) only [gI_self, g_ne, sI_sI, m2, m3, m4, nI_1]
            try simp only [m3]
            refine xG_run 1 rfl (by repeat' (first | exact trivial | assumption | exact xob_b rfl | exact xal_b rfl | (apply And.intro) | decide)) ?_
            try dsimp only [xsto1, xsto2, xkill, xget, xset, gd_0, gd_s]
            try simp (disch := omega) only [gI_self, g_ne, sI_sI, m2, m3, m4, nI_1]
            try simp only [m3]
            rw [hgt]
            refine xG_c2 1 rfl (by repeat' (first | exact trivial | assumption | exact xob_b rfl | exact xal_b rfl | (apply And.intro) | decide)) rfl rfl (by decide) cw_X10_isDigit (d' := d - 1) e_isDigit (by omega) ?_
            rintro v M' ⟨rfl, hM⟩
            subst M'
            dsimp only [Option.toList, List.cons_append, List.nil_append]
            refine xG_br rfl (fun h95 => ?_) (fun h95 => ?_)
            · have b95 := z0.mp h95
              first
                | (exfalso; exact ct_e h62 b95)
                | (refine xG_run 3 rfl (by repeat' (first | exact trivial | assumption | exact xob_b rfl | exact xal_b rfl | (apply And.intro) | decide)) ?_
                   try dsimp only [xsto1, xsto2, xkill, xget, xset, gd_0, gd_s]
                   try simp (disch := omega) only [gI_self, g_ne, sI_sI, m2, m3, m4, nI_1]
                   refine xG_brF rfl (fun q => q rfl) ?_
                   refine xG_run 1 rfl (by repeat' (first | exact trivial | assumption | exact xob_b rfl | exact xal_b rfl | (apply And.intro) | decide)) ?_
                   try dsimp only [xsto1, xsto2, xkill, xget, xset, gd_0, gd_s]
                   try simp (disch := omega) only [gI_self, g_ne, sI_sI, m2, m3, m4, nI_1]
                   refine xG_br rfl (fun h150 => ?_) (fun h150 => ?_)
                   · refine xG_run 3 rfl (by repeat' (first | exact trivial | assumption | exact xob_b rfl | exact xal_b rfl | (apply And.intro) | decide)) ?_
                     try dsimp only [xsto1, xsto2, xkill, xget, xset, gd_0, gd_s]
                     try simp (disch := omega) only [gI_self, g_ne, sI_sI, m2, m3, m4, nI_1]
                     refine r2_i rfl rfl ?_
                     rw [show atX T n (fun i => gI M 131 i) p = if n4 T n p = 0 then (false, p, 0) else (true, p + n4 T n p, dV T n p (n4 T n p)) from if_neg hnf]
                     have h0 : ¬ n4 T n p = 0 := fun q => h150 (ct_0.mpr q)
                     rw [if_neg h0]
                     exact ⟨rfl, (gI_ne (by omega)).trans m3, gI_self _ _ _ _, uF_t uM_F (uF_i (Or.inr rfl))⟩
                   · refine xG_run 4 rfl (by repeat' (first | exact trivial | assumption | exact xob_b rfl | exact xal_b rfl | (apply And.intro) | decide)) ?_
                     try dsimp only [xsto1, xsto2, xkill, xget, xset, gd_0, gd_s]
                     try simp (disch := omega) only [gI_self, g_ne, sI_sI, m2, m3, m4, nI_1]
                     refine r2_i rfl rfl ?_
                     rw [show atX T n (fun i => gI M 131 i) p = if n4 T n p = 0 then (false, p, 0) else (true, p + n4 T n p, dV T n p (n4 T n p)) from if_neg hnf]
                     have h0 : n4 T n p = 0 := ct_0.mp (Decidable.not_not.mp h150)
                     rw [if_pos h0]
                     refine ⟨by rw [h0]; rfl, ?_, gI_self _ _ _ _, uF_t uM_F (uF_i (Or.inr rfl))⟩
                     rw [gI_ne (by omega), m3, h0]; rfl)
            · have b95 := z1.mp h95
              first
                | (exfalso; exact ct_e h62 b95)
                | (refine xG_run 5 rfl (by repeat' (first | exact trivial | assumption | exact xob_b rfl | exact xal_b rfl | (apply And.intro) | decide)) ?_
                   try dsimp only [xsto1, xsto2, xkill, xget, xset, gd_0, gd_s]
                   try simp (disch := omega) only [gI_self, g_ne, sI_sI, m2, m3, m4, nI_1]
                   rw [hb]
                   refine xG_run 2 rfl (by repeat' (first | exact trivial | assumption | exact xob_b rfl | exact xal_b rfl | (apply And.intro) | decide)) ?_
                   try dsimp only [xsto1, xsto2, xkill, xget, xset, gd_0, gd_s]
                   try simp (disch := omega) only [gI_self, g_ne, sI_sI, m2, m3, m4, nI_1]
                   try simp only [m3]
                   refine xG_run 8 rfl (by repeat' (first | exact trivial | assumption | exact xob_b rfl | exact xal_b rfl | (apply And.intro) | decide)) ?_
                   try dsimp only [xsto1, xsto2, xkill, xget, xset, gd_0, gd_s]
                   try simp (disch := omega) only [gI_self, g_ne, sI_sI, m2, m3, m4, nI_1]
                   refine xG_run 4 rfl (by repeat' (first | exact trivial | assumption | exact xob_b rfl | exact xal_b rfl | (apply And.intro) | decide)) ?_
                   try dsimp only [xsto1, xsto2, xkill, xget, xset, gd_0, gd_s]
                   try simp (disch := omega) only [gI_self, g_ne, sI_sI, m2, m3, m4, nI_1]
                   refine xG_br rfl (fun h127 => ?_) (fun h127 => ?_)
                   · refine xG_run 5 rfl (by repeat' (first | exact trivial | assumption | exact xob_b rfl | exact xal_b rfl | (apply And.intro) | decide)) ?_
                     try dsimp only [xsto1, xsto2, xkill, xget, xset, gd_0, gd_s]
                     try simp (disch := omega) only [gI_self, g_ne, sI_sI, m2, m3, m4, nI_1]
                     done
                   · refine xG_run 4 rfl (by repeat' (first | exact trivial | assumption | exact xob_b rfl | exact xal_b rfl | (apply And.intro) | decide)) ?_
                     try dsimp only [xsto1, xsto2, xkill, xget, xset, gd_0, gd_s]
                     try simp (disch := omega) only [gI_self, g_ne, sI_sI, m2, m3, m4, nI_1]
                     done)
  · have hge : ¬ p < n := fun z => h15 (nI_lt z (by omega))
    refine xG_run 4 rfl (by repeat' (first | exact trivial | assumption | exact xob_b rfl | exact xal_b rfl | (apply And.intro) | decide)) ?_
    try dsimp only [xsto1, xsto2, xkill, xget, xset, gd_0, gd_s]
    try simp (disch := omega) only [gI_self, g_ne, sI_sI, s2, r3, r4, nI_1]
    refine xG_brT rfl (by decide) ?_
    refine xG_run 4 rfl (by repeat' (first | exact trivial | assumption | exact xob_b rfl | exact xal_b rfl | (apply And.intro) | decide)) ?_
    try dsimp only [xsto1, xsto2, xkill, xget, xset, gd_0, gd_s]
    try simp (disch := omega) only [gI_self, g_ne, sI_sI, s2, r3, r4, nI_1]
    have hnf : ¬ isFd (chr T n p) := by rw [chr_ge hge]; decide
    have lp := xG_upP (κ := κ) (m := mX6_readAtom) (r := (d, 0, 0)) (YS := xRet mX6_readAtom false (fun v M' n' => n' = 182 ∧ (v = some (.int (atX T n (fun i => gI M 131 i) p).2.2) ∧ gI M' 130 3 = nI (atX T n (fun i => gI M 131 i) p).2.1 ∧ gI M' 130 4 = (if (atX T n (fun i => gI M 131 i) p).1 = true then 0 else 1) ∧ uF M M'))) (fun j X => X = (60, [some (.ref 130), some (.int (-1)), some (.int (dV T n p j)), some (.int (ct4 T n p j))], [], uM M p j, z2)) (n4 T n p) ?_ ?_ 0 (Nat.zero_le _)
    · exact lp _ rfl
    · rintro j X hj rfl ih
      have hlt : p + j < n := dg_lt (w1 j hj)
      have hdg := w1 j hj
      have ha := har (p + j) hlt
      have hgt : gI (uM M p j) t (nI (p + j)).toNatClampNeg = chr T n (p + j) := (uM_o (by omega)).trans (hch (p + j) hlt)
      have hct : ct4 T n p j < 4 := by
        unfold ct4
        by_cases c : j = 0
        · rw [if_pos c]; decide
        · rw [if_neg c, if_neg (fun q => by have := w3 (by omega) q; omega)]
          exact nI_lt (b := 4) (by omega) (by omega)
      have m3 := uM_3 (j := j) r3
      have m4 : gI (uM M p j) 130 4 = 0 := (uM_o (by omega)).trans r4
      have m2 : gI (uM M p j) 130 2 = nI n := (uM_o (by omega)).trans s2
      have hb : xrf (xpr z2.2.1 (uM M p j) 130 1) = .ref t := by show xrf (gP (uM M p j) 130 1) = _; rw [uM_p, c1]; rfl
      refine xG_run 2 rfl (by repeat' (first | exact trivial | assumption | exact xob_b rfl | exact xal_b rfl | (apply And.intro) | decide)) ?_
      try dsimp only [xsto1, xsto2, xkill, xget, xset, gd_0, gd_s]
      try simp (disch := omega) only [gI_self, g_ne, sI_sI, m2, m3, m4, nI_1, uM_s]
      refine xG_brF rfl (Int32.not_le.mpr hct) ?_
      refine xG_run 2 rfl (by repeat' (first | exact trivial | assumption | exact xob_b rfl | exact xal_b rfl | (apply And.intro) | decide)) ?_
      try dsimp only [xsto1, xsto2, xkill, xget, xset, gd_0, gd_s]
      try simp (disch := omega) only [gI_self, g_ne, sI_sI, m2, m3, m4, nI_1, uM_s]
      refine xG_brF rfl (fun q => q rfl) ?_
      refine xG_run 4 rfl (by repeat' (first | exact trivial | assumption | exact xob_b rfl | exact xal_b rfl | (apply And.intro) | decide)) ?_
      try dsimp only [xsto1, xsto2, xkill, xget, xset, gd_0, gd_s]
      try simp (disch := omega) only [gI_self, g_ne, sI_sI, m2, m3, m4, nI_1, uM_s]
      refine xG_brF rfl (nI_ge hlt (by omega)) ?_
      refine xG_run 2 rfl (by repeat' (first | exact trivial | assumption | exact xob_b rfl | exact xal_b rfl | (apply And.intro) | decide)) ?_
      try dsimp only [xsto1, xsto2, xkill, xget, xset, gd_0, gd_s]
      try simp (disch := omega) only [gI_self, g_ne, sI_sI, m2, m3, m4, nI_1, uM_s]
      rw [hb]
      refine xG_run 2 rfl (by repeat' (first | exact trivial | assumption | exact xob_b rfl | exact xal_b rfl | (apply And.intro) | decide)) ?_
      try dsimp only [xsto1, xsto2, xkill, xget, xset, gd_0, gd_s]
      try simp (disch := omega) only [gI_self, g_ne, sI_sI, m2, m3, m4, nI_1, uM_s]
      try simp only [m3]
      refine xG_run 1 rfl (by repeat' (first | exact trivial | assumption | exact xob_b rfl | exact xal_b rfl | (apply And.intro) | decide)) ?_
      try dsimp only [xsto1, xsto2, xkill, xget, xset, gd_0, gd_s]
      try simp (disch := omega) only [gI_self, g_ne, sI_sI, m2, m3, m4, nI_1, uM_s]
      try simp only [m3]
      rw [hgt]
      refine xG_c2 1 rfl (by repeat' (first | exact trivial | assumption | exact xob_b rfl | exact xal_b rfl | (apply And.intro) | decide)) rfl rfl (by decide) cw_X10_isDigit (d' := d - 1) e_isDigit (by omega) ?_
      rintro v M' ⟨rfl, hM⟩
      subst M'
      dsimp only [Option.toList, List.cons_append, List.nil_append]
      refine xG_brF rfl (by rw [if_pos hdg]; decide) ?_
      refine xG_run 5 rfl (by repeat' (first | exact trivial | assumption | exact xob_b rfl | exact xal_b rfl | (apply And.intro) | decide)) ?_
      try dsimp only [xsto1, xsto2, xkill, xget, xset, gd_0, gd_s]
      try simp (disch := omega) only [gI_self, g_ne, sI_sI, m2, m3, m4, nI_1, uM_s]
      rw [hb]
      refine xG_run 2 rfl (by repeat' (first | exact trivial | assumption | exact xob_b rfl | exact xal_b rfl | (apply And.intro) | decide)) ?_
      try dsimp only [xsto1, xsto2, xkill, xget, xset, gd_0, gd_s]
      try simp (disch := omega) only [gI_self, g_ne, sI_sI, m2, m3, m4, nI_1, uM_s]
      try simp only [m3]
      refine xG_run 1 rfl (by repeat' (first | exact trivial | assumption | exact xob_b rfl | exact xal_b rfl | (apply And.intro) | decide)) ?_
      try dsimp only [xsto1, xsto2, xkill, xget, xset, gd_0, gd_s]
      try simp (disch := omega) only [gI_self, g_ne, sI_sI, m2, m3, m4, nI_1, uM_s]
      try simp only [m3]
      rw [hgt]
      refine xG_run 8 rfl (by repeat' (first | exact trivial | assumption | exact xob_b rfl | exact xal_b rfl | (apply And.intro) | decide)) ?_
      try dsimp only [xsto1, xsto2, xkill, xget, xset, gd_0, gd_s]
      try simp (disch := omega) only [gI_self, g_ne, sI_sI, m2, m3, m4, nI_1, uM_s]
      refine xG_run 3 rfl (by repeat' (first | exact trivial | assumption | exact xob_b rfl | exact xal_b rfl | (apply And.intro) | decide)) ?_
      try dsimp only [xsto1, xsto2, xkill, xget, xset, gd_0, gd_s]
      try simp (disch := omega) only [gI_self, g_ne, sI_sI, m2, m3, m4, nI_1, uM_s]
      refine xG_br rfl (fun h127 => ?_) (fun h127 => ?_)
      · refine xG_run 5 rfl (by repeat' (first | exact trivial | assumption | exact xob_b rfl | exact xal_b rfl | (apply And.intro) | decide)) ?_
        try dsimp only [xsto1, xsto2, xkill, xget, xset, gd_0, gd_s]
        try simp (disch := omega) only [gI_self, g_ne, sI_sI, m2, m3, m4, nI_1, uM_s]
        rw [ct_s1 hj h127]
        exact ih _ rfl
      · refine xG_run 4 rfl (by repeat' (first | exact trivial | assumption | exact xob_b rfl | exact xal_b rfl | (apply And.intro) | decide)) ?_
        try dsimp only [xsto1, xsto2, xkill, xget, xset, gd_0, gd_s]
        try simp (disch := omega) only [gI_self, g_ne, sI_sI, m2, m3, m4, nI_1, uM_s]
        rw [ct_s0 hj (Decidable.not_not.mp h127)]
        exact ih _ rfl
    · rintro X rfl
      have m3 := uM_3 (j := n4 T n p) r3
      have m4 : gI (uM M p (n4 T n p)) 130 4 = 0 := (uM_o (by omega)).trans r4
      have m2 : gI (uM M p (n4 T n p)) 130 2 = nI n := (uM_o (by omega)).trans s2
      have hb : xrf (xpr z2.2.1 (uM M p (n4 T n p)) 130 1) = .ref t := by show xrf (gP (uM M p (n4 T n p)) 130 1) = _; rw [uM_p, c1]; rfl
      refine xG_run 2 rfl (by repeat' (first | exact trivial | assumption | exact xob_b rfl | exact xal_b rfl | (apply And.intro) | decide)) ?_
      try dsimp only [xsto1, xsto2, xkill, xget, xset, gd_0, gd_s]
      try simp (disch := omega) only [gI_self, g_ne, sI_sI, m2, m3, m4, nI_1]
      refine xG_br rfl (fun h62 => ?_) (fun h62 => ?_)
      · refine xG_run 3 rfl (by repeat' (first | exact trivial | assumption | exact xob_b rfl | exact xal_b rfl | (apply And.intro) | decide)) ?_
        try dsimp only [xsto1, xsto2, xkill, xget, xset, gd_0, gd_s]
        try simp (disch := omega) only [gI_self, g_ne, sI_sI, m2, m3, m4, nI_1]
        refine xG_brF rfl (fun q => q rfl) ?_
        refine xG_run 1 rfl (by repeat' (first | exact trivial | assumption | exact xob_b rfl | exact xal_b rfl | (apply And.intro) | decide)) ?_
        try dsimp only [xsto1, xsto2, xkill, xget, xset, gd_0, gd_s]
        try simp (disch := omega) only [gI_self, g_ne, sI_sI, m2, m3, m4, nI_1]
        refine xG_br rfl (fun h150 => ?_) (fun h150 => ?_)
        · refine xG_run 3 rfl (by repeat' (first | exact trivial | assumption | exact xob_b rfl | exact xal_b rfl | (apply And.intro) | decide)) ?_
          try dsimp only [xsto1, xsto2, xkill, xget, xset, gd_0, gd_s]
          try simp (disch := omega) only [gI_self, g_ne, sI_sI, m2, m3, m4, nI_1]
          refine r2_i rfl rfl ?_
          rw [show atX T n (fun i => gI M 131 i) p = if n4 T n p = 0 then (false, p, 0) else (true, p + n4 T n p, dV T n p (n4 T n p)) from if_neg hnf]
          have h0 : ¬ n4 T n p = 0 := fun q => h150 (ct_0.mpr q)
          rw [if_neg h0]
          exact ⟨rfl, (gI_ne (by omega)).trans m3, gI_self _ _ _ _, uF_t uM_F (uF_i (Or.inr rfl))⟩
        · refine xG_run 4 rfl (by repeat' (first | exact trivial | assumption | exact xob_b rfl | exact xal_b rfl | (apply And.intro) | decide)) ?_
          try dsimp only [xsto1, xsto2, xkill, xget, xset, gd_0, gd_s]
          try simp (disch := omega) only [gI_self, g_ne, sI_sI, m2, m3, m4, nI_1]
          refine r2_i rfl rfl ?_
          rw [show atX T n (fun i => gI M 131 i) p = if n4 T n p = 0 then (false, p, 0) else (true, p + n4 T n p, dV T n p (n4 T n p)) from if_neg hnf]
          have h0 : n4 T n p = 0 := ct_0.mp (Decidable.not_not.mp h150)
          rw [if_pos h0]
          refine ⟨by rw [h0]; rfl, ?_, gI_self _ _ _ _, uF_t uM_F (uF_i (Or.inr rfl))⟩
          rw [gI_ne (by omega), m3, h0]; rfl
      · refine xG_run 2 rfl (by repeat' (first | exact trivial | assumption | exact xob_b rfl | exact xal_b rfl | (apply And.intro) | decide)) ?_
        try dsimp only [xsto1, xsto2, xkill, xget, xset, gd_0, gd_s]
        try simp (disch := omega) only [gI_self, g_ne, sI_sI, m2, m3, m4, nI_1]
        refine xG_brF rfl (fun q => q rfl) ?_
        refine xG_run 4 rfl (by repeat' (first | exact trivial | assumption | exact xob_b rfl | exact xal_b rfl | (apply And.intro) | decide)) ?_
        try dsimp only [xsto1, xsto2, xkill, xget, xset, gd_0, gd_s]
        try simp (disch := omega) only [gI_self, g_ne, sI_sI, m2, m3, m4, nI_1]
        refine xG_br rfl (fun h80 => ?_) (fun h80 => ?_)
        · refine xG_run 3 rfl (by repeat' (first | exact trivial | assumption | exact xob_b rfl | exact xal_b rfl | (apply And.intro) | decide)) ?_
          try dsimp only [xsto1, xsto2, xkill, xget, xset, gd_0, gd_s]
          try simp (disch := omega) only [gI_self, g_ne, sI_sI, m2, m3, m4, nI_1]
          refine xG_brF rfl (fun q => q rfl) ?_
          refine xG_run 1 rfl (by repeat' (first | exact trivial | assumption | exact xob_b rfl | exact xal_b rfl | (apply And.intro) | decide)) ?_
          try dsimp only [xsto1, xsto2, xkill, xget, xset, gd_0, gd_s]
          try simp (disch := omega) only [gI_self, g_ne, sI_sI, m2, m3, m4, nI_1]
          refine xG_br rfl (fun h150 => ?_) (fun h150 => ?_)
          · refine xG_run 3 rfl (by repeat' (first | exact trivial | assumption | exact xob_b rfl | exact xal_b rfl | (apply And.intro) | decide)) ?_
            try dsimp only [xsto1, xsto2, xkill, xget, xset, gd_0, gd_s]
            try simp (disch := omega) only [gI_self, g_ne, sI_sI, m2, m3, m4, nI_1]
            refine r2_i rfl rfl ?_
            rw [show atX T n (fun i => gI M 131 i) p = if n4 T n p = 0 then (false, p, 0) else (true, p + n4 T n p, dV T n p (n4 T n p)) from if_neg hnf]
            have h0 : ¬ n4 T n p = 0 := fun q => h150 (ct_0.mpr q)
            rw [if_neg h0]
            exact ⟨rfl, (gI_ne (by omega)).trans m3, gI_self _ _ _ _, uF_t uM_F (uF_i (Or.inr rfl))⟩
          · refine xG_run 4 rfl (by repeat' (first | exact trivial | assumption | exact xob_b rfl | exact xal_b rfl | (apply And.intro) | decide)) ?_
            try dsimp only [xsto1, xsto2, xkill, xget, xset, gd_0, gd_s]
            try simp (disch := omega) only [gI_self, g_ne, sI_sI, m2, m3, m4, nI_1]
            refine r2_i rfl rfl ?_
            rw [show atX T n (fun i => gI M 131 i) p = if n4 T n p = 0 then (false, p, 0) else (true, p + n4 T n p, dV T n p (n4 T n p)) from if_neg hnf]
            have h0 : n4 T n p = 0 := ct_0.mp (Decidable.not_not.mp h150)
            rw [if_pos h0]
            refine ⟨by rw [h0]; rfl, ?_, gI_self _ _ _ _, uF_t uM_F (uF_i (Or.inr rfl))⟩
            rw [gI_ne (by omega), m3, h0]; rfl
        · have hlt : p + n4 T n p < n := nI_lt9 (by omega) (by omega) h80
          have ha := har _ hlt
          have hgt : gI (uM M p (n4 T n p)) t (nI (p + n4 T n p)).toNatClampNeg = chr T n (p + n4 T n p) := (uM_o (by omega)).trans (hch _ hlt)
          refine xG_run 2 rfl (by repeat' (first | exact trivial | assumption | exact xob_b rfl | exact xal_b rfl | (apply And.intro) | decide)) ?_
          try dsimp only [xsto1, xsto2, xkill, xget, xset, gd_0, gd_s]
          try simp (disch := omega) only [gI_self, g_ne, sI_sI, m2, m3, m4, nI_1]
          rw [hb]
          refine xG_run 2 rfl (by repeat' (first | exact trivial | assumption | exact xob_b rfl | exact xal_b rfl | (apply And.intro) | decide)) ?_
          try dsimp only [xsto1, xsto2, xkill, xget, xset, gd_0, gd_s]
          try simp (disch := omega) only [gI_self, g_ne, sI_sI, m2, m3, m4, nI_1]
          try simp only [m3]
          refine xG_run 1 rfl (by repeat' (first | exact trivial | assumption | exact xob_b rfl | exact xal_b rfl | (apply And.intro) | decide)) ?_
          try dsimp only [xsto1, xsto2, xkill, xget, xset, gd_0, gd_s]
          try simp (disch := omega) only [gI_self, g_ne, sI_sI, m2, m3, m4, nI_1]
          try simp only [m3]
          rw [hgt]
          refine xG_c2 1 rfl (by repeat' (first | exact trivial | assumption | exact xob_b rfl | exact xal_b rfl | (apply And.intro) | decide)) rfl rfl (by decide) cw_X10_isDigit (d' := d - 1) e_isDigit (by omega) ?_
          rintro v M' ⟨rfl, hM⟩
          subst M'
          dsimp only [Option.toList, List.cons_append, List.nil_append]
          refine xG_br rfl (fun h95 => ?_) (fun h95 => ?_)
          · have b95 := z0.mp h95
            first
              | (exfalso; exact ct_e h62 b95)
              | (refine xG_run 3 rfl (by repeat' (first | exact trivial | assumption | exact xob_b rfl | exact xal_b rfl | (apply And.intro) | decide)) ?_
                 try dsimp only [xsto1, xsto2, xkill, xget, xset, gd_0, gd_s]
                 try simp (disch := omega) only [gI_self, g_ne, sI_sI, m2, m3, m4, nI_1]
                 refine xG_brF rfl (fun q => q rfl) ?_
                 refine xG_run 1 rfl (by repeat' (first | exact trivial | assumption | exact xob_b rfl | exact xal_b rfl | (apply And.intro) | decide)) ?_
                 try dsimp only [xsto1, xsto2, xkill, xget, xset, gd_0, gd_s]
                 try simp (disch := omega) only [gI_self, g_ne, sI_sI, m2, m3, m4, nI_1]
                 refine xG_br rfl (fun h150 => ?_) (fun h150 => ?_)
                 · refine xG_run 3 rfl (by repeat' (first | exact trivial | assumption | exact xob_b rfl | exact xal_b rfl | (apply And.intro) | decide)) ?_
                   try dsimp only [xsto1, xsto2, xkill, xget, xset, gd_0, gd_s]
                   try simp (disch := omega) only [gI_self, g_ne, sI_sI, m2, m3, m4, nI_1]
                   refine r2_i rfl rfl ?_
                   rw [show atX T n (fun i => gI M 131 i) p = if n4 T n p = 0 then (false, p, 0) else (true, p + n4 T n p, dV T n p (n4 T n p)) from if_neg hnf]
                   have h0 : ¬ n4 T n p = 0 := fun q => h150 (ct_0.mpr q)
                   rw [if_neg h0]
                   exact ⟨rfl, (gI_ne (by omega)).trans m3, gI_self _ _ _ _, uF_t uM_F (uF_i (Or.inr rfl))⟩
                 · refine xG_run 4 rfl (by repeat' (first | exact trivial | assumption | exact xob_b rfl | exact xal_b rfl | (apply And.intro) | decide)) ?_
                   try dsimp only [xsto1, xsto2, xkill, xget, xset, gd_0, gd_s]
                   try simp (disch := omega) only [gI_self, g_ne, sI_sI, m2, m3, m4, nI_1]
                   refine r2_i rfl rfl ?_
                   rw [show atX T n (fun i => gI M 131 i) p = if n4 T n p = 0 then (false, p, 0) else (true, p + n4 T n p, dV T n p (n4 T n p)) from if_neg hnf]
                   have h0 : n4 T n p = 0 := ct_0.mp (Decidable.not_not.mp h150)
                   rw [if_pos h0]
                   refine ⟨by rw [h0]; rfl, ?_, gI_self _ _ _ _, uF_t uM_F (uF_i (Or.inr rfl))⟩
                   rw [gI_ne (by omega), m3, h0]; rfl)
          · have b95 := z1.mp h95
            first
              | (exfalso; exact ct_e h62 b95)
              | (refine xG_run 5 rfl (by repeat' (first | exact trivial | assumption | exact xob_b rfl | exact xal_b rfl | (apply And.intro) | decide)) ?_
                 try dsimp only [xsto1, xsto2, xkill, xget, xset, gd_0, gd_s]
                 try simp (disch := omega) only [gI_self, g_ne, sI_sI, m2, m3, m4, nI_1]
                 rw [hb]
                 refine xG_run 2 rfl (by repeat' (first | exact trivial | assumption | exact xob_b rfl | exact xal_b rfl | (apply And.intro) | decide)) ?_
                 try dsimp only [xsto1, xsto2, xkill, xget, xset, gd_0, gd_s]
                 try simp (disch := omega) only [gI_self, g_ne, sI_sI, m2, m3, m4, nI_1]
                 try simp only [m3]
                 refine xG_run 8 rfl (by repeat' (first | exact trivial | assumption | exact xob_b rfl | exact xal_b rfl | (apply And.intro) | decide)) ?_
                 try dsimp only [xsto1, xsto2, xkill, xget, xset, gd_0, gd_s]
                 try simp (disch := omega) only [gI_self, g_ne, sI_sI, m2, m3, m4, nI_1]
                 refine xG_run 4 rfl (by repeat' (first | exact trivial | assumption | exact xob_b rfl | exact xal_b rfl | (apply And.intro) | decide)) ?_
                 try dsimp only [xsto1, xsto2, xkill, xget, xset, gd_0, gd_s]
                 try simp (disch := omega) only [gI_self, g_ne, sI_sI, m2, m3, m4, nI_1]
                 refine xG_br rfl (fun h127 => ?_) (fun h127 => ?_)
                 · refine xG_run 5 rfl (by repeat' (first | exact trivial | assumption | exact xob_b rfl | exact xal_b rfl | (apply And.intro) | decide)) ?_
                   try dsimp only [xsto1, xsto2, xkill, xget, xset, gd_0, gd_s]
                   try simp (disch := omega) only [gI_self, g_ne, sI_sI, m2, m3, m4, nI_1]
                   done
                 · refine xG_run 4 rfl (by repeat' (first | exact trivial | assumption | exact xob_b rfl | exact xal_b rfl | (apply And.intro) | decide)) ?_
                   try dsimp only [xsto1, xsto2, xkill, xget, xset, gd_0, gd_s]
                   try simp (disch := omega) only [gI_self, g_ne, sI_sI, m2, m3, m4, nI_1]
                   done)
