/-! ===== the reference asks rules: atoms, sums ===== -/
theorem cm_nd {c : Int32} (h : isCm c) : ¬ dgP c := by rcases h with h | h | h <;> (rw [h]; decide)
theorem pm_nd {c : Int32} (h : c = 43 ∨ c = 45) : ¬ dgP c := by rcases h with h | h <;> (rw [h]; decide)
theorem fd_nd {c : Int32} (h : isFd c) : ¬ dgP c := by rcases h with h | h | h | h | h | h | h | h <;> (rw [h]; decide)
set_option maxRecDepth 4000 in
theorem e_eatom {κ : xKK} {d : Nat} {M : xM} {a b n p : Nat} {T : Nat → Int32} {φ : Nat → Int32} (hT : rT M a b n T) (hp : gI M 166 12 = nI p) (hpn : p ≤ n) {M0 : xM} (hFO : ∀ (d2 : Nat) (M2 : xM) (c : Int32), isFd c → rdP M0 M2 → 8 ≤ d2 → xE2 κ mX12_fieldOf d2 [.ref 166, .int c] M2 (fun v M' => v = some (.int (φ (fdX c))) ∧ M' = M2)) (hM0 : rdP M0 M) (hok : (atX T n φ p).1 = true) (hnd : ¬ dgP (chr T n (atX T n φ p).2.1)) (hd : 10 ≤ d) : xE2 κ mX12_atom d [.ref 166] M (fun v M' => v = some (.int (atX T n φ p).2.2) ∧ gI M' 166 12 = nI (atX T n φ p).2.1 ∧ rdP M M') := by
  refine xE2_of ci_X12_atom cl_X12_atom cw_X12_atom rfl (L := [some (.ref 166), none, none]) rfl ?_
  have hn9 := hT.2.2.2.2.1
  refine xG_run 1 rfl (by repeat' (first | exact trivial | assumption | exact xob_b rfl | exact xal_b rfl | (apply And.intro) | decide)) ?_
  try dsimp only [xsto1, xsto2, xkill, xget, xset, gd_0, gd_s]
  try simp (disch := omega) only [hp, nI_1]
  refine xG_c2 0 rfl (by repeat' (first | exact trivial | assumption | exact xob_b rfl | exact xal_b rfl | (apply And.intro) | decide)) rfl rfl (by decide) cw_X12_sign (d' := d - 1) (e_sign hT hp (by omega)) (by omega) ?_
  rintro v M' ⟨rfl, hM⟩
  subst M'
  dsimp only [Option.toList, List.cons_append, List.nil_append]
  refine xG_run 2 rfl (by repeat' (first | exact trivial | assumption | exact xob_b rfl | exact xal_b rfl | (apply And.intro) | decide)) ?_
  try dsimp only [xsto1, xsto2, xkill, xget, xset, gd_0, gd_s]
  try simp (disch := omega) only [hp, nI_1]
  refine xG_c2 1 rfl (by repeat' (first | exact trivial | assumption | exact xob_b rfl | exact xal_b rfl | (apply And.intro) | decide)) rfl rfl (by decide) cw_X12_isDigit (d' := d - 1) e_isDigit2 (by omega) ?_
  rintro v M' ⟨rfl, hM⟩
  subst M'
  dsimp only [Option.toList, List.cons_append, List.nil_append]
  refine xG_br rfl (fun h9 => ?_) (fun h9 => ?_)
  · have b9 := z1.mp h9
    refine xG_run 2 rfl (by repeat' (first | exact trivial | assumption | exact xob_b rfl | exact xal_b rfl | (apply And.intro) | decide)) ?_
    try dsimp only [xsto1, xsto2, xkill, xget, xset, gd_0, gd_s]
    try simp (disch := omega) only [hp, nI_1]
    have hnf : ¬ isFd (chr T n p) := fun z => fd_nd z b9
    obtain ⟨a1, a2, a3⟩ := atX_1 (φ := φ) hnf b9
    have a5 : (atX T n φ p).2.2 = dV T n p (n4 T n p) := by
      unfold atX
      rw [if_neg hnf, if_neg a3]
    obtain ⟨w1, w2, w3, w4⟩ := n4_s T n p
    have lp := xG_upP (κ := κ) (m := mX12_atom) (r := (d, 0, 0)) (YS := xRet mX12_atom false (fun v M' n' => n' = 182 ∧ (v = some (.int (atX T n φ p).2.2) ∧ gI M' 166 12 = nI (atX T n φ p).2.1 ∧ rdP M M'))) (fun j X => ∃ M2, X = (30, [some (.ref 166), some (.int (chr T n p)), some (.int (dV T n p j))], [], M2, z2) ∧ gI M2 166 12 = nI (p + j) ∧ rdP M M2) (n4 T n p) ?_ ?_ 0 (Nat.zero_le _)
    · exact lp _ ⟨M, rfl, hp, rdP_r⟩
    · rintro j X hj ⟨M2, rfl, m3, hF⟩ ih
      have hTj := rT_P hT hF
      have hpl := n4_n (T := T) (n := n) hpn
      refine xG_run 1 rfl (by repeat' (first | exact trivial | assumption | exact xob_b rfl | exact xal_b rfl | (apply And.intro) | decide)) ?_
      try dsimp only [xsto1, xsto2, xkill, xget, xset, gd_0, gd_s]
      try simp (disch := omega) only [m3, nI_1]
      refine xG_c2 0 rfl (by repeat' (first | exact trivial | assumption | exact xob_b rfl | exact xal_b rfl | (apply And.intro) | decide)) rfl rfl (by decide) cw_X12_sign (d' := d - 1) (e_sign hTj m3 (by omega)) (by omega) ?_
      rintro v M' ⟨rfl, hM⟩
      subst M'
      dsimp only [Option.toList, List.cons_append, List.nil_append]
      refine xG_c2 1 rfl (by repeat' (first | exact trivial | assumption | exact xob_b rfl | exact xal_b rfl | (apply And.intro) | decide)) rfl rfl (by decide) cw_X12_isDigit (d' := d - 1) e_isDigit2 (by omega) ?_
      rintro v M' ⟨rfl, hM⟩
      subst M'
      dsimp only [Option.toList, List.cons_append, List.nil_append]
      refine xG_brF rfl (by rw [if_pos (w1 j hj)]; decide) ?_
      refine xG_run 4 rfl (by repeat' (first | exact trivial | assumption | exact xob_b rfl | exact xal_b rfl | (apply And.intro) | decide)) ?_
      try dsimp only [xsto1, xsto2, xkill, xget, xset, gd_0, gd_s]
      try simp (disch := omega) only [m3, nI_1]
      refine xG_c2 0 rfl (by repeat' (first | exact trivial | assumption | exact xob_b rfl | exact xal_b rfl | (apply And.intro) | decide)) rfl rfl (by decide) cw_X12_sign (d' := d - 1) (e_sign hTj m3 (by omega)) (by omega) ?_
      rintro v M' ⟨rfl, hM⟩
      subst M'
      dsimp only [Option.toList, List.cons_append, List.nil_append]
      refine xG_run 8 rfl (by repeat' (first | exact trivial | assumption | exact xob_b rfl | exact xal_b rfl | (apply And.intro) | decide)) ?_
      try dsimp only [xsto1, xsto2, xkill, xget, xset, gd_0, gd_s]
      try simp (disch := omega) only [m3, nI_1]
      refine xG_run 3 rfl (by repeat' (first | exact trivial | assumption | exact xob_b rfl | exact xal_b rfl | (apply And.intro) | decide)) ?_
      try dsimp only [xsto1, xsto2, xkill, xget, xset, gd_0, gd_s]
      try simp (disch := omega) only [m3, nI_1]
      exact ih _ ⟨_, rfl, gI_self _ _ _ _, rdP_t hF (rdP_i (Or.inl rfl))⟩
    · rintro X ⟨M2, rfl, m3, hF⟩
      have hTj := rT_P hT hF
      have hpl := n4_n (T := T) (n := n) hpn
      refine xG_run 1 rfl (by repeat' (first | exact trivial | assumption | exact xob_b rfl | exact xal_b rfl | (apply And.intro) | decide)) ?_
      try dsimp only [xsto1, xsto2, xkill, xget, xset, gd_0, gd_s]
      try simp (disch := omega) only [m3, nI_1]
      refine xG_c2 0 rfl (by repeat' (first | exact trivial | assumption | exact xob_b rfl | exact xal_b rfl | (apply And.intro) | decide)) rfl rfl (by decide) cw_X12_sign (d' := d - 1) (e_sign hTj m3 (by omega)) (by omega) ?_
      rintro v M' ⟨rfl, hM⟩
      subst M'
      dsimp only [Option.toList, List.cons_append, List.nil_append]
      refine xG_c2 1 rfl (by repeat' (first | exact trivial | assumption | exact xob_b rfl | exact xal_b rfl | (apply And.intro) | decide)) rfl rfl (by decide) cw_X12_isDigit (d' := d - 1) e_isDigit2 (by omega) ?_
      rintro v M' ⟨rfl, hM⟩
      subst M'
      dsimp only [Option.toList, List.cons_append, List.nil_append]
      refine xG_brT rfl (by rw [if_neg (by rw [← a2]; exact hnd)]) ?_
      refine xG_run 1 rfl (by repeat' (first | exact trivial | assumption | exact xob_b rfl | exact xal_b rfl | (apply And.intro) | decide)) ?_
      try dsimp only [xsto1, xsto2, xkill, xget, xset, gd_0, gd_s]
      try simp (disch := omega) only [m3, nI_1]
      refine r2_i rfl rfl ?_
      refine ⟨by rw [a5], by rw [a2]; exact m3, hF⟩
  · have b9 := z0.mp (Decidable.not_not.mp h9)
    have hf : isFd (chr T n p) := by
      by_cases c : isFd (chr T n p)
      · exact c
      · have z := (atX_0 (φ := φ) c b9).1
        rw [hok] at z
        cases z
    refine xG_run 8 rfl (by repeat' (first | exact trivial | assumption | exact xob_b rfl | exact xal_b rfl | (apply And.intro) | decide)) ?_
    try dsimp only [xsto1, xsto2, xkill, xget, xset, gd_0, gd_s]
    try simp (disch := omega) only [hp, nI_1]
    refine xG_c2 1 rfl (by repeat' (first | exact trivial | assumption | exact xob_b rfl | exact xal_b rfl | (apply And.intro) | decide)) rfl rfl (by decide) cw_X12_fieldOf (d' := d - 1) (hFO _ _ _ hf (rdP_t hM0 (rdP_i (Or.inl rfl))) (by omega)) (by omega) ?_
    rintro v M' ⟨rfl, hM⟩
    subst M'
    dsimp only [Option.toList, List.cons_append, List.nil_append]
    refine r2_i rfl rfl ?_
    rw [show (atX T n φ p) = (true, p + 1, φ (fdX (chr T n p))) from if_pos hf]
    exact ⟨rfl, gI_self _ _ _ _, rdP_i (Or.inl rfl)⟩
set_option maxRecDepth 4000 in
theorem e_esum {κ : xKK} {d : Nat} {M : xM} {a b n p : Nat} {T : Nat → Int32} {φ : Nat → Int32} (hT : rT M a b n T) (hp : gI M 166 12 = nI p) (hpn : p ≤ n) {M0 : xM} (hFO : ∀ (d2 : Nat) (M2 : xM) (c : Int32), isFd c → rdP M0 M2 → 8 ≤ d2 → xE2 κ mX12_fieldOf d2 [.ref 166, .int c] M2 (fun v M' => v = some (.int (φ (fdX c))) ∧ M' = M2)) (hM0 : rdP M0 M) (hok : (suX T n φ p).1 = true) (hnd : ¬ dgP (chr T n (suX T n φ p).2.1)) (hd : 12 ≤ d) : xE2 κ mX12_sum d [.ref 166] M (fun v M' => v = some (.int (suX T n φ p).2.2) ∧ gI M' 166 12 = nI (suX T n φ p).2.1 ∧ rdP M M') := by
  refine xE2_of ci_X12_sum cl_X12_sum cw_X12_sum rfl (L := [some (.ref 166), none, none, none]) rfl ?_
  have hn9 := hT.2.2.2.2.1
  have ha : (atX T n φ p).1 = true := by
    by_cases c : (atX T n φ p).1 = true
    · exact c
    · rw [show (suX T n φ p) = (false, (atX T n φ p).2.1, 0) from if_neg c] at hok
      exact absurd (show false = true from hok) (by decide)
  have e3 : (suX T n φ p) = smX T n φ (atX T n φ p).2.2 (atX T n φ p).2.1 := if_pos ha
  obtain ⟨y1, y2, y3⟩ := atX_b (T := T) (n := n) (φ := φ) hpn
  have hna : ¬ dgP (chr T n (atX T n φ p).2.1) := by
    by_cases c : chr T n (atX T n φ p).2.1 = 43 ∨ chr T n (atX T n φ p).2.1 = 45
    · exact pm_nd c
    · have e4 := e3.trans ((smX_eq y2).trans (if_neg c))
      rw [e4] at hnd
      exact hnd
  have SL : ∀ (r q : Nat) (ac : Int32) (x2 x3 : Option Value) (M2 : xM), n - q = r → q ≤ n → gI M2 166 12 = nI q → rdP M M2 → (suX T n φ p) = smX T n φ ac q → xG κ mX12_sum (d, 0, 0) (5, [some (.ref 166), some (.int ac), x2, x3], [], M2, z2) (xRet mX12_sum false (fun v M' n' => n' = 182 ∧ (v = some (.int (suX T n φ p).2.2) ∧ gI M' 166 12 = nI (suX T n φ p).2.1 ∧ rdP M M'))) := by
    intro r
    induction r using Nat.strongRecOn with
    | ind r IH =>
      rintro q ac x2 x3 M2 rfl hq m3 hF hE
      refine xG_run 1 rfl (by repeat' (first | exact trivial | assumption | exact xob_b rfl | exact xal_b rfl | (apply And.intro) | decide)) ?_
      try dsimp only [xsto1, xsto2, xkill, xget, xset, gd_0, gd_s]
      try simp (disch := omega) only [m3, nI_1]
      refine xG_c2 0 rfl (by repeat' (first | exact trivial | assumption | exact xob_b rfl | exact xal_b rfl | (apply And.intro) | decide)) rfl rfl (by decide) cw_X12_sign (d' := d - 1) (e_sign (rT_P hT hF) m3 (by omega)) (by omega) ?_
      rintro v M' ⟨rfl, hM⟩
      subst M'
      dsimp only [Option.toList, List.cons_append, List.nil_append]
      refine xG_run 1 rfl (by repeat' (first | exact trivial | assumption | exact xob_b rfl | exact xal_b rfl | (apply And.intro) | decide)) ?_
      try dsimp only [xsto1, xsto2, xkill, xget, xset, gd_0, gd_s]
      try simp (disch := omega) only [m3, nI_1]
      refine xG_br rfl (fun h11 => ?_) (fun h11 => ?_)
      · have hpm : chr T n q = 43 ∨ chr T n q = 45 := Or.inl h11
        have hqn : q < n := pm_lt hpm
        have e3 := hE.trans ((smX_eq hq).trans (if_pos hpm))
        have hok3 : (atX T n φ (q + 1)).1 = true := by
          by_cases c : (atX T n φ (q + 1)).1 = true
          · exact c
          · rw [if_neg c] at e3
            rw [e3] at hok
            exact absurd (show false = true from hok) (by decide)
        rw [if_pos hok3] at e3
        obtain ⟨y1, y2, y3⟩ := atX_b (T := T) (n := n) (φ := φ) (p := q + 1) hqn
        have hnd3 : ¬ dgP (chr T n (atX T n φ (q + 1)).2.1) := by
          by_cases c : chr T n (atX T n φ (q + 1)).2.1 = 43 ∨ chr T n (atX T n φ (q + 1)).2.1 = 45
          · exact pm_nd c
          · have e4 := e3.trans ((smX_eq y2).trans (if_neg c))
            rw [e4] at hnd
            exact hnd
        have hTq := rT_P (rT_P hT hF) (rdP_i (M := M2) (k := 12) (v := nI (q + 1)) (Or.inl rfl))
        refine xG_run 1 rfl (by repeat' (first | exact trivial | assumption | exact xob_b rfl | exact xal_b rfl | (apply And.intro) | decide)) ?_
        try dsimp only [xsto1, xsto2, xkill, xget, xset, gd_0, gd_s]
        try simp (disch := omega) only [m3, nI_1]
        refine xG_c2 0 rfl (by repeat' (first | exact trivial | assumption | exact xob_b rfl | exact xal_b rfl | (apply And.intro) | decide)) rfl rfl (by decide) cw_X12_sign (d' := d - 1) (e_sign (rT_P hT hF) m3 (by omega)) (by omega) ?_
        rintro v M' ⟨rfl, hM⟩
        subst M'
        dsimp only [Option.toList, List.cons_append, List.nil_append]
        refine xG_run 8 rfl (by repeat' (first | exact trivial | assumption | exact xob_b rfl | exact xal_b rfl | (apply And.intro) | decide)) ?_
        try dsimp only [xsto1, xsto2, xkill, xget, xset, gd_0, gd_s]
        try simp (disch := omega) only [m3, nI_1]
        refine xG_c2 0 rfl (by repeat' (first | exact trivial | assumption | exact xob_b rfl | exact xal_b rfl | (apply And.intro) | decide)) rfl rfl (by decide) cw_X12_atom (d' := d - 1) (e_eatom (p := q + 1) hTq (gI_self _ _ _ _) hqn hFO (rdP_t hM0 (rdP_t hF (rdP_i (Or.inl rfl)))) hok3 hnd3 (by omega)) (by omega) ?_
        rintro v M3 ⟨rfl, k3, hF3⟩
        dsimp only [Option.toList, List.cons_append, List.nil_append]
        refine xG_run 4 rfl (by repeat' (first | exact trivial | assumption | exact xob_b rfl | exact xal_b rfl | (apply And.intro) | decide)) ?_
        try dsimp only [xsto1, xsto2, xkill, xget, xset, gd_0, gd_s]
        try simp (disch := omega) only [m3, nI_1]
        refine xG_br rfl (fun h47 => ?_) (fun h47 => ?_)
        · first
            | (exfalso; first | exact h47 h11 | exact h11 (Decidable.not_not.mp h47))
            | (refine xG_run 5 rfl (by repeat' (first | exact trivial | assumption | exact xob_b rfl | exact xal_b rfl | (apply And.intro) | decide)) ?_
               try dsimp only [xsto1, xsto2, xkill, xget, xset, gd_0, gd_s]
               try simp (disch := omega) only [m3, nI_1]
               exact IH _ (by have := y3 hok3; omega) _ _ _ _ M3 rfl y2 k3 (rdP_t hF (rdP_t (rdP_i (Or.inl rfl)) hF3)) (e3.trans (by rw [if_neg h47])))
        · first
            | (exfalso; first | exact h47 h11 | exact h11 (Decidable.not_not.mp h47))
            | (refine xG_run 5 rfl (by repeat' (first | exact trivial | assumption | exact xob_b rfl | exact xal_b rfl | (apply And.intro) | decide)) ?_
               try dsimp only [xsto1, xsto2, xkill, xget, xset, gd_0, gd_s]
               try simp (disch := omega) only [m3, nI_1]
               exact IH _ (by have := y3 hok3; omega) _ _ _ _ M3 rfl y2 k3 (rdP_t hF (rdP_t (rdP_i (Or.inl rfl)) hF3)) (e3.trans (by rw [if_pos (Decidable.not_not.mp h47)])))
      · refine xG_run 1 rfl (by repeat' (first | exact trivial | assumption | exact xob_b rfl | exact xal_b rfl | (apply And.intro) | decide)) ?_
        try dsimp only [xsto1, xsto2, xkill, xget, xset, gd_0, gd_s]
        try simp (disch := omega) only [m3, nI_1]
        refine xG_c2 0 rfl (by repeat' (first | exact trivial | assumption | exact xob_b rfl | exact xal_b rfl | (apply And.intro) | decide)) rfl rfl (by decide) cw_X12_sign (d' := d - 1) (e_sign (rT_P hT hF) m3 (by omega)) (by omega) ?_
        rintro v M' ⟨rfl, hM⟩
        subst M'
        dsimp only [Option.toList, List.cons_append, List.nil_append]
        refine xG_run 1 rfl (by repeat' (first | exact trivial | assumption | exact xob_b rfl | exact xal_b rfl | (apply And.intro) | decide)) ?_
        try dsimp only [xsto1, xsto2, xkill, xget, xset, gd_0, gd_s]
        try simp (disch := omega) only [m3, nI_1]
        refine xG_br rfl (fun h20 => ?_) (fun h20 => ?_)
        · refine xG_run 1 rfl (by repeat' (first | exact trivial | assumption | exact xob_b rfl | exact xal_b rfl | (apply And.intro) | decide)) ?_
          try dsimp only [xsto1, xsto2, xkill, xget, xset, gd_0, gd_s]
          try simp (disch := omega) only [m3, nI_1]
          refine r2_i rfl rfl ?_
          have e4 := hE.trans ((smX_eq hq).trans (if_neg (fun z => z.elim h11 h20)))
          rw [e4]
          exact ⟨rfl, m3, hF⟩
        · have hpm : chr T n q = 43 ∨ chr T n q = 45 := Or.inr (Decidable.not_not.mp h20)
          have hqn : q < n := pm_lt hpm
          have e3 := hE.trans ((smX_eq hq).trans (if_pos hpm))
          have hok3 : (atX T n φ (q + 1)).1 = true := by
            by_cases c : (atX T n φ (q + 1)).1 = true
            · exact c
            · rw [if_neg c] at e3
              rw [e3] at hok
              exact absurd (show false = true from hok) (by decide)
          rw [if_pos hok3] at e3
          obtain ⟨y1, y2, y3⟩ := atX_b (T := T) (n := n) (φ := φ) (p := q + 1) hqn
          have hnd3 : ¬ dgP (chr T n (atX T n φ (q + 1)).2.1) := by
            by_cases c : chr T n (atX T n φ (q + 1)).2.1 = 43 ∨ chr T n (atX T n φ (q + 1)).2.1 = 45
            · exact pm_nd c
            · have e4 := e3.trans ((smX_eq y2).trans (if_neg c))
              rw [e4] at hnd
              exact hnd
          have hTq := rT_P (rT_P hT hF) (rdP_i (M := M2) (k := 12) (v := nI (q + 1)) (Or.inl rfl))
          refine xG_run 1 rfl (by repeat' (first | exact trivial | assumption | exact xob_b rfl | exact xal_b rfl | (apply And.intro) | decide)) ?_
          try dsimp only [xsto1, xsto2, xkill, xget, xset, gd_0, gd_s]
          try simp (disch := omega) only [m3, nI_1]
          refine xG_c2 0 rfl (by repeat' (first | exact trivial | assumption | exact xob_b rfl | exact xal_b rfl | (apply And.intro) | decide)) rfl rfl (by decide) cw_X12_sign (d' := d - 1) (e_sign (rT_P hT hF) m3 (by omega)) (by omega) ?_
          rintro v M' ⟨rfl, hM⟩
          subst M'
          dsimp only [Option.toList, List.cons_append, List.nil_append]
          refine xG_run 8 rfl (by repeat' (first | exact trivial | assumption | exact xob_b rfl | exact xal_b rfl | (apply And.intro) | decide)) ?_
          try dsimp only [xsto1, xsto2, xkill, xget, xset, gd_0, gd_s]
          try simp (disch := omega) only [m3, nI_1]
          refine xG_c2 0 rfl (by repeat' (first | exact trivial | assumption | exact xob_b rfl | exact xal_b rfl | (apply And.intro) | decide)) rfl rfl (by decide) cw_X12_atom (d' := d - 1) (e_eatom (p := q + 1) hTq (gI_self _ _ _ _) hqn hFO (rdP_t hM0 (rdP_t hF (rdP_i (Or.inl rfl)))) hok3 hnd3 (by omega)) (by omega) ?_
          rintro v M3 ⟨rfl, k3, hF3⟩
          dsimp only [Option.toList, List.cons_append, List.nil_append]
          refine xG_run 4 rfl (by repeat' (first | exact trivial | assumption | exact xob_b rfl | exact xal_b rfl | (apply And.intro) | decide)) ?_
          try dsimp only [xsto1, xsto2, xkill, xget, xset, gd_0, gd_s]
          try simp (disch := omega) only [m3, nI_1]
          refine xG_br rfl (fun h47 => ?_) (fun h47 => ?_)
          · first
              | (exfalso; first | exact h47 h11 | exact h11 (Decidable.not_not.mp h47))
              | (refine xG_run 5 rfl (by repeat' (first | exact trivial | assumption | exact xob_b rfl | exact xal_b rfl | (apply And.intro) | decide)) ?_
                 try dsimp only [xsto1, xsto2, xkill, xget, xset, gd_0, gd_s]
                 try simp (disch := omega) only [m3, nI_1]
                 exact IH _ (by have := y3 hok3; omega) _ _ _ _ M3 rfl y2 k3 (rdP_t hF (rdP_t (rdP_i (Or.inl rfl)) hF3)) (e3.trans (by rw [if_neg h47])))
          · first
              | (exfalso; first | exact h47 h11 | exact h11 (Decidable.not_not.mp h47))
              | (refine xG_run 5 rfl (by repeat' (first | exact trivial | assumption | exact xob_b rfl | exact xal_b rfl | (apply And.intro) | decide)) ?_
                 try dsimp only [xsto1, xsto2, xkill, xget, xset, gd_0, gd_s]
                 try simp (disch := omega) only [m3, nI_1]
                 exact IH _ (by have := y3 hok3; omega) _ _ _ _ M3 rfl y2 k3 (rdP_t hF (rdP_t (rdP_i (Or.inl rfl)) hF3)) (e3.trans (by rw [if_pos (Decidable.not_not.mp h47)])))
  refine xG_run 1 rfl (by repeat' (first | exact trivial | assumption | exact xob_b rfl | exact xal_b rfl | (apply And.intro) | decide)) ?_
  try dsimp only [xsto1, xsto2, xkill, xget, xset, gd_0, gd_s]
  refine xG_c2 0 rfl (by repeat' (first | exact trivial | assumption | exact xob_b rfl | exact xal_b rfl | (apply And.intro) | decide)) rfl rfl (by decide) cw_X12_atom (d' := d - 1) (e_eatom hT hp hpn hFO hM0 ha hna (by omega)) (by omega) ?_
  rintro v M3 ⟨rfl, k3, hF3⟩
  dsimp only [Option.toList, List.cons_append, List.nil_append]
  refine xG_run 1 rfl (by repeat' (first | exact trivial | assumption | exact xob_b rfl | exact xal_b rfl | (apply And.intro) | decide)) ?_
  try dsimp only [xsto1, xsto2, xkill, xget, xset, gd_0, gd_s]
  exact SL _ _ _ _ _ M3 rfl y2 k3 hF3 e3
