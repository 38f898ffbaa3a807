set_option maxRecDepth 4000 in
theorem e_ucompares {κ : xKK} {d : Nat} {M : xM} {t n p : Nat} {T : Nat → Int32} (hC : uC M t n T) (r3 : gI M 130 3 = nI p) (hp : p ≤ n) (r4 : gI M 130 4 = 0) (hd : 4 ≤ d) : xE2 κ mX6_compares d [.ref 130] M (fun v M' => ∃ b, v = some (.int (bl2 b)) ∧ ((cpX T n (fun i => gI M 131 i) p).1 = true → b = (cpX T n (fun i => gI M 131 i) p).2.2) ∧ gI M' 130 3 = nI (cpX T n (fun i => gI M 131 i) p).2.1 ∧ gI M' 130 4 = (if (cpX T n (fun i => gI M 131 i) p).1 = true then 0 else 1) ∧ uF M M') := by
  refine xE2_of ci_X6_compares cl_X6_compares cw_X6_compares rfl (L := [some (.ref 130), none, none, none]) rfl ?_
  have hC9 := hC
  obtain ⟨c1, s2, hn2, hT, hsh, ht1, ht2⟩ := hC
  have hb0 : xrf (xpr z2.2.1 M 130 1) = .ref t := by show xrf (gP M 130 1) = _; rw [c1]; rfl
  have har : ∀ k, k < n → xar t 0 182 (nI k) := fun k hk => ⟨120, hsh, ht2, by rw [nI_ti (by omega)]; omega, by rw [nI_ti (by omega)]; omega⟩
  have hch : ∀ k, k < n → gI M t (nI k).toNatClampNeg = chr T n k := fun k hk => by rw [nI_cl (by omega), chr_lt hk]; exact hT k hk
  refine xG_run 1 rfl (by repeat' (first | exact trivial | assumption | exact xob_b rfl | exact xal_b rfl | (apply And.intro) | decide)) ?_
  try dsimp only [xsto1, xsto2, xkill, xget, xset, gd_0, gd_s]
  try simp (disch := omega) only [gI_self, g_ne, sI_sI, m2, m3, m4, nI_1]
  refine xG_c2 0 rfl (by repeat' (first | exact trivial | assumption | exact xob_b rfl | exact xal_b rfl | (apply And.intro) | decide)) rfl rfl (by decide) cw_X6_readSum (d' := d - 1) (e_ureadSum hC9 r3 hp r4 (by omega)) (by omega) ?_
  rintro v M1 ⟨w1, rfl, hw1, m3, m4, hF1⟩
  obtain ⟨y1, y2, y3⟩ := suX_b (T := T) (n := n) (φ := (fun i => gI M 131 i)) hp
  have m2 : gI M1 130 2 = nI n := (hF1.1 _ _ (by omega)).trans s2
  have hbq : xrf (xpr z2.2.1 M1 130 1) = .ref t := by show xrf (gP M1 130 1) = _; rw [hF1.2.2, c1]; rfl
  rcases Bool.eq_false_or_eq_true (suX T n (fun i => gI M 131 i) p).1 with hok | hok
  all_goals rw [hok] at m4 hw1
  all_goals simp only [reduceCtorEq, if_true, if_false] at m4
  · dsimp only [Option.toList, List.cons_append, List.nil_append]
    refine xG_run 1 rfl (by repeat' (first | exact trivial | assumption | exact xob_b rfl | exact xal_b rfl | (apply And.intro) | decide)) ?_
    try dsimp only [xsto1, xsto2, xkill, xget, xset, gd_0, gd_s]
    try simp (disch := omega) only [gI_self, g_ne, sI_sI, m2, m3, m4, nI_1]
    try simp only [m3]
    refine xG_run 2 rfl (by repeat' (first | exact trivial | assumption | exact xob_b rfl | exact xal_b rfl | (apply And.intro) | decide)) ?_
    try dsimp only [xsto1, xsto2, xkill, xget, xset, gd_0, gd_s]
    try simp (disch := omega) only [gI_self, g_ne, sI_sI, m2, m3, m4, nI_1]
    try simp only [m3]
    refine xG_run 2 rfl (by repeat' (first | exact trivial | assumption | exact xob_b rfl | exact xal_b rfl | (apply And.intro) | decide)) ?_
    try dsimp only [xsto1, xsto2, xkill, xget, xset, gd_0, gd_s]
    try simp (disch := omega) only [gI_self, g_ne, sI_sI, m2, m3, m4, nI_1]
    try simp only [m2, m3]
    refine xG_br rfl (fun h13 => ?_) (fun h13 => ?_)
    · have hge : ¬ (suX T n (fun i => gI M 131 i) p).2.1 < n := fun z => nI_nlt9 z (by omega) h13
      refine xG_run 4 rfl (by repeat' (first | exact trivial | assumption | exact xob_b rfl | exact xal_b rfl | (apply And.intro) | decide)) ?_
      try dsimp only [xsto1, xsto2, xkill, xget, xset, gd_0, gd_s]
      try simp (disch := omega) only [gI_self, g_ne, sI_sI, m2, m3, m4, nI_1]
      try simp only [m4]
      refine xG_brF rfl (fun z => z rfl) ?_
      refine xG_run 2 rfl (by repeat' (first | exact trivial | assumption | exact xob_b rfl | exact xal_b rfl | (apply And.intro) | decide)) ?_
      try dsimp only [xsto1, xsto2, xkill, xget, xset, gd_0, gd_s]
      try simp (disch := omega) only [gI_self, g_ne, sI_sI, m2, m3, m4, nI_1]
      refine xG_brF rfl (by decide) ?_
      refine xG_run 2 rfl (by repeat' (first | exact trivial | assumption | exact xob_b rfl | exact xal_b rfl | (apply And.intro) | decide)) ?_
      try dsimp only [xsto1, xsto2, xkill, xget, xset, gd_0, gd_s]
      try simp (disch := omega) only [gI_self, g_ne, sI_sI, m2, m3, m4, nI_1]
      refine xG_brF rfl (by decide) ?_
      refine xG_run 2 rfl (by repeat' (first | exact trivial | assumption | exact xob_b rfl | exact xal_b rfl | (apply And.intro) | decide)) ?_
      try dsimp only [xsto1, xsto2, xkill, xget, xset, gd_0, gd_s]
      try simp (disch := omega) only [gI_self, g_ne, sI_sI, m2, m3, m4, nI_1]
      refine xG_brF rfl (by decide) ?_
      refine xG_run 4 rfl (by repeat' (first | exact trivial | assumption | exact xob_b rfl | exact xal_b rfl | (apply And.intro) | decide)) ?_
      try dsimp only [xsto1, xsto2, xkill, xget, xset, gd_0, gd_s]
      try simp (disch := omega) only [gI_self, g_ne, sI_sI, m2, m3, m4, nI_1]
      refine r2_z rfl rfl (by first | decide | assumption) ?_
      rw [cpX_f1 (fun z => hge (cm_lt z.2))]
      exact ⟨false, rfl, fun z => absurd (show false = true from z) (by decide), (gI_ne (by omega)).trans m3, gI_self _ _ _ _, uF_t hF1 (uF_i (Or.inr rfl))⟩
    · have hlt : (suX T n (fun i => gI M 131 i) p).2.1 < n := nI_lt9 (by omega) (by omega) h13
      have ha := har _ hlt
      have hgt : gI M1 t (nI (suX T n (fun i => gI M 131 i) p).2.1).toNatClampNeg = chr T n (suX T n (fun i => gI M 131 i) p).2.1 := (hF1.1 _ _ (by omega)).trans (hch _ hlt)
      refine xG_run 2 rfl (by repeat' (first | exact trivial | assumption | exact xob_b rfl | exact xal_b rfl | (apply And.intro) | decide)) ?_
      try dsimp only [xsto1, xsto2, xkill, xget, xset, gd_0, gd_s]
      try simp (disch := omega) only [gI_self, g_ne, sI_sI, m2, m3, m4, nI_1]
      rw [hbq]
      refine xG_run 2 rfl (by repeat' (first | exact trivial | assumption | exact xob_b rfl | exact xal_b rfl | (apply And.intro) | decide)) ?_
      try dsimp only [xsto1, xsto2, xkill, xget, xset, gd_0, gd_s]
      try simp (disch := omega) only [gI_self, g_ne, sI_sI, m2, m3, m4, nI_1]
      try simp only [m3]
      refine xG_run 1 rfl (by repeat' (first | exact trivial | assumption | exact xob_b rfl | exact xal_b rfl | (apply And.intro) | decide)) ?_
      try dsimp only [xsto1, xsto2, xkill, xget, xset, gd_0, gd_s]
      try simp (disch := omega) only [gI_self, g_ne, sI_sI, m2, m3, m4, nI_1]
      rw [hgt]
      refine xG_run 4 rfl (by repeat' (first | exact trivial | assumption | exact xob_b rfl | exact xal_b rfl | (apply And.intro) | decide)) ?_
      try dsimp only [xsto1, xsto2, xkill, xget, xset, gd_0, gd_s]
      try simp (disch := omega) only [gI_self, g_ne, sI_sI, m2, m3, m4, nI_1]
      try simp only [m4]
      refine xG_brF rfl (fun z => z rfl) ?_
      refine xG_run 2 rfl (by repeat' (first | exact trivial | assumption | exact xob_b rfl | exact xal_b rfl | (apply And.intro) | decide)) ?_
      try dsimp only [xsto1, xsto2, xkill, xget, xset, gd_0, gd_s]
      try simp (disch := omega) only [gI_self, g_ne, sI_sI, m2, m3, m4, nI_1]
      refine xG_br rfl (fun h40 => ?_) (fun h40 => ?_)
      · have hcm : isCm (chr T n (suX T n (fun i => gI M 131 i) p).2.1) := Or.inl h40
        refine xG_run 7 rfl (by repeat' (first | exact trivial | assumption | exact xob_b rfl | exact xal_b rfl | (apply And.intro) | decide)) ?_
        try dsimp only [xsto1, xsto2, xkill, xget, xset, gd_0, gd_s]
        try simp (disch := omega) only [gI_self, g_ne, sI_sI, m2, m3, m4, nI_1]
        refine xG_c2 0 rfl (by repeat' (first | exact trivial | assumption | exact xob_b rfl | exact xal_b rfl | (apply And.intro) | decide)) rfl rfl (by decide) cw_X6_readSum (d' := d - 1) (e_ureadSum (p := (suX T n (fun i => gI M 131 i) p).2.1 + 1) (uC_F (uC_F hC9 hF1) (uF_i (Or.inl rfl))) (gI_self _ _ _ _) (by omega) ((gI_ne (by omega)).trans m4) (by omega)) (by omega) ?_
        rintro v M3 ⟨w2, rfl, hw2, k3, k4, hF3⟩
        have hfx : ∀ i, gI (sI M1 130 3 (nI ((suX T n (fun i => gI M 131 i) p).2.1 + 1))) 131 i = gI M 131 i := fun i => (gI_ne (by omega)).trans (hF1.1 _ _ (by omega))
        rw [suX_c (ψ := (fun i => gI M 131 i)) hfx] at hw2 k3 k4
        have hF5 : uF M M3 := uF_t hF1 (uF_t (uF_i (Or.inl rfl)) hF3)
        have hcp := cpX_t1 (T := T) (n := n) (p := p) (φ := (fun i => gI M 131 i)) ⟨hok, hcm⟩
        dsimp only [Option.toList, List.cons_append, List.nil_append]
        refine xG_run 3 rfl (by repeat' (first | exact trivial | assumption | exact xob_b rfl | exact xal_b rfl | (apply And.intro) | decide)) ?_
        try dsimp only [xsto1, xsto2, xkill, xget, xset, gd_0, gd_s]
        try simp (disch := omega) only [gI_self, g_ne, sI_sI, m2, m3, m4, nI_1]
        refine xG_br rfl (fun h80 => ?_) (fun h80 => ?_)
        · first
            | (exfalso; first | exact absurd h40 (by rw [Decidable.not_not.mp h80]; decide) | exact absurd h46 (by rw [Decidable.not_not.mp h80]; decide) | exact h80 h52)
            | (refine xG_run 2 rfl (by repeat' (first | exact trivial | assumption | exact xob_b rfl | exact xal_b rfl | (apply And.intro) | decide)) ?_
               try dsimp only [xsto1, xsto2, xkill, xget, xset, gd_0, gd_s]
               try simp (disch := omega) only [gI_self, g_ne, sI_sI, m2, m3, m4, nI_1]
               refine xG_br rfl (fun h97 => ?_) (fun h97 => ?_)
               · first
                   | (exfalso; first | exact h97 h40 | exact absurd h46 (by rw [Decidable.not_not.mp h97]; decide) | exact absurd h52 (by rw [Decidable.not_not.mp h97]; decide))
                   | (refine xG_run 2 rfl (by repeat' (first | exact trivial | assumption | exact xob_b rfl | exact xal_b rfl | (apply And.intro) | decide)) ?_
                      try dsimp only [xsto1, xsto2, xkill, xget, xset, gd_0, gd_s]
                      try simp (disch := omega) only [gI_self, g_ne, sI_sI, m2, m3, m4, nI_1]
                      refine xG_br rfl (fun h115 => ?_) (fun h115 => ?_)
                      · refine xG_run 1 rfl (by repeat' (first | exact trivial | assumption | exact xob_b rfl | exact xal_b rfl | (apply And.intro) | decide)) ?_
                        try dsimp only [xsto1, xsto2, xkill, xget, xset, gd_0, gd_s]
                        try simp (disch := omega) only [gI_self, g_ne, sI_sI, m2, m3, m4, nI_1]
                        refine r2_z rfl rfl (by first | decide | assumption) ?_
                        refine ⟨cmX (chr T n (suX T n (fun i => gI M 131 i) p).2.1) w1 w2, (cm6 h80 h97 (Int32.not_lt.mpr h115)), ?_⟩
                        rw [hcp]
                        by_cases c9 : (suX T n (fun i => gI M 131 i) ((suX T n (fun i => gI M 131 i) p).2.1 + 1)).1 = true
                        · rw [if_pos c9]; rw [if_pos c9] at k4; exact ⟨fun _ => by rw [hw1 rfl, hw2 c9], k3, k4, hF5⟩
                        · rw [if_neg c9]; rw [if_neg c9] at k4; exact ⟨fun z => absurd (show false = true from z) (by decide), k3, k4, hF5⟩
                      · refine xG_run 2 rfl (by repeat' (first | exact trivial | assumption | exact xob_b rfl | exact xal_b rfl | (apply And.intro) | decide)) ?_
                        try dsimp only [xsto1, xsto2, xkill, xget, xset, gd_0, gd_s]
                        try simp (disch := omega) only [gI_self, g_ne, sI_sI, m2, m3, m4, nI_1]
                        refine r2_z rfl rfl (by first | decide | assumption) ?_
                        refine ⟨cmX (chr T n (suX T n (fun i => gI M 131 i) p).2.1) w1 w2, (cm5 h80 h97 (Int32.not_le.mp h115)), ?_⟩
                        rw [hcp]
                        by_cases c9 : (suX T n (fun i => gI M 131 i) ((suX T n (fun i => gI M 131 i) p).2.1 + 1)).1 = true
                        · rw [if_pos c9]; rw [if_pos c9] at k4; exact ⟨fun _ => by rw [hw1 rfl, hw2 c9], k3, k4, hF5⟩
                        · rw [if_neg c9]; rw [if_neg c9] at k4; exact ⟨fun z => absurd (show false = true from z) (by decide), k3, k4, hF5⟩)
               · first
                   | (exfalso; first | exact h97 h40 | exact absurd h46 (by rw [Decidable.not_not.mp h97]; decide) | exact absurd h52 (by rw [Decidable.not_not.mp h97]; decide))
                   | (refine xG_run 2 rfl (by repeat' (first | exact trivial | assumption | exact xob_b rfl | exact xal_b rfl | (apply And.intro) | decide)) ?_
                      try dsimp only [xsto1, xsto2, xkill, xget, xset, gd_0, gd_s]
                      try simp (disch := omega) only [gI_self, g_ne, sI_sI, m2, m3, m4, nI_1]
                      refine xG_br rfl (fun h102 => ?_) (fun h102 => ?_)
                      · refine xG_run 2 rfl (by repeat' (first | exact trivial | assumption | exact xob_b rfl | exact xal_b rfl | (apply And.intro) | decide)) ?_
                        try dsimp only [xsto1, xsto2, xkill, xget, xset, gd_0, gd_s]
                        try simp (disch := omega) only [gI_self, g_ne, sI_sI, m2, m3, m4, nI_1]
                        refine r2_z rfl rfl (by first | decide | assumption) ?_
                        refine ⟨cmX (chr T n (suX T n (fun i => gI M 131 i) p).2.1) w1 w2, (cm4 h80 (Decidable.not_not.mp h97) (Int32.not_lt.mpr h102)), ?_⟩
                        rw [hcp]
                        by_cases c9 : (suX T n (fun i => gI M 131 i) ((suX T n (fun i => gI M 131 i) p).2.1 + 1)).1 = true
                        · rw [if_pos c9]; rw [if_pos c9] at k4; exact ⟨fun _ => by rw [hw1 rfl, hw2 c9], k3, k4, hF5⟩
                        · rw [if_neg c9]; rw [if_neg c9] at k4; exact ⟨fun z => absurd (show false = true from z) (by decide), k3, k4, hF5⟩
                      · refine xG_run 2 rfl (by repeat' (first | exact trivial | assumption | exact xob_b rfl | exact xal_b rfl | (apply And.intro) | decide)) ?_
                        try dsimp only [xsto1, xsto2, xkill, xget, xset, gd_0, gd_s]
                        try simp (disch := omega) only [gI_self, g_ne, sI_sI, m2, m3, m4, nI_1]
                        refine r2_z rfl rfl (by first | decide | assumption) ?_
                        refine ⟨cmX (chr T n (suX T n (fun i => gI M 131 i) p).2.1) w1 w2, (cm3 h80 (Decidable.not_not.mp h97) (Int32.not_le.mp h102)), ?_⟩
                        rw [hcp]
                        by_cases c9 : (suX T n (fun i => gI M 131 i) ((suX T n (fun i => gI M 131 i) p).2.1 + 1)).1 = true
                        · rw [if_pos c9]; rw [if_pos c9] at k4; exact ⟨fun _ => by rw [hw1 rfl, hw2 c9], k3, k4, hF5⟩
                        · rw [if_neg c9]; rw [if_neg c9] at k4; exact ⟨fun z => absurd (show false = true from z) (by decide), k3, k4, hF5⟩))
        · first
            | (exfalso; first | exact absurd h40 (by rw [Decidable.not_not.mp h80]; decide) | exact absurd h46 (by rw [Decidable.not_not.mp h80]; decide) | exact h80 h52)
            | (refine xG_run 2 rfl (by repeat' (first | exact trivial | assumption | exact xob_b rfl | exact xal_b rfl | (apply And.intro) | decide)) ?_
               try dsimp only [xsto1, xsto2, xkill, xget, xset, gd_0, gd_s]
               try simp (disch := omega) only [gI_self, g_ne, sI_sI, m2, m3, m4, nI_1]
               refine xG_br rfl (fun h85 => ?_) (fun h85 => ?_)
               · refine xG_run 1 rfl (by repeat' (first | exact trivial | assumption | exact xob_b rfl | exact xal_b rfl | (apply And.intro) | decide)) ?_
                 try dsimp only [xsto1, xsto2, xkill, xget, xset, gd_0, gd_s]
                 try simp (disch := omega) only [gI_self, g_ne, sI_sI, m2, m3, m4, nI_1]
                 refine r2_z rfl rfl (by first | decide | assumption) ?_
                 refine ⟨cmX (chr T n (suX T n (fun i => gI M 131 i) p).2.1) w1 w2, (cm2 (Decidable.not_not.mp h80) h85), ?_⟩
                 rw [hcp]
                 by_cases c9 : (suX T n (fun i => gI M 131 i) ((suX T n (fun i => gI M 131 i) p).2.1 + 1)).1 = true
                 · rw [if_pos c9]; rw [if_pos c9] at k4; exact ⟨fun _ => by rw [hw1 rfl, hw2 c9], k3, k4, hF5⟩
                 · rw [if_neg c9]; rw [if_neg c9] at k4; exact ⟨fun z => absurd (show false = true from z) (by decide), k3, k4, hF5⟩
               · refine xG_run 2 rfl (by repeat' (first | exact trivial | assumption | exact xob_b rfl | exact xal_b rfl | (apply And.intro) | decide)) ?_
                 try dsimp only [xsto1, xsto2, xkill, xget, xset, gd_0, gd_s]
                 try simp (disch := omega) only [gI_self, g_ne, sI_sI, m2, m3, m4, nI_1]
                 refine r2_z rfl rfl (by first | decide | assumption) ?_
                 refine ⟨cmX (chr T n (suX T n (fun i => gI M 131 i) p).2.1) w1 w2, (cm1 (Decidable.not_not.mp h80) (Decidable.not_not.mp h85)), ?_⟩
                 rw [hcp]
                 by_cases c9 : (suX T n (fun i => gI M 131 i) ((suX T n (fun i => gI M 131 i) p).2.1 + 1)).1 = true
                 · rw [if_pos c9]; rw [if_pos c9] at k4; exact ⟨fun _ => by rw [hw1 rfl, hw2 c9], k3, k4, hF5⟩
                 · rw [if_neg c9]; rw [if_neg c9] at k4; exact ⟨fun z => absurd (show false = true from z) (by decide), k3, k4, hF5⟩)
      · refine xG_run 2 rfl (by repeat' (first | exact trivial | assumption | exact xob_b rfl | exact xal_b rfl | (apply And.intro) | decide)) ?_
        try dsimp only [xsto1, xsto2, xkill, xget, xset, gd_0, gd_s]
        try simp (disch := omega) only [gI_self, g_ne, sI_sI, m2, m3, m4, nI_1]
        refine xG_br rfl (fun h46 => ?_) (fun h46 => ?_)
        · have hcm : isCm (chr T n (suX T n (fun i => gI M 131 i) p).2.1) := Or.inr (Or.inl h46)
          refine xG_run 7 rfl (by repeat' (first | exact trivial | assumption | exact xob_b rfl | exact xal_b rfl | (apply And.intro) | decide)) ?_
          try dsimp only [xsto1, xsto2, xkill, xget, xset, gd_0, gd_s]
          try simp (disch := omega) only [gI_self, g_ne, sI_sI, m2, m3, m4, nI_1]
          refine xG_c2 0 rfl (by repeat' (first | exact trivial | assumption | exact xob_b rfl | exact xal_b rfl | (apply And.intro) | decide)) rfl rfl (by decide) cw_X6_readSum (d' := d - 1) (e_ureadSum (p := (suX T n (fun i => gI M 131 i) p).2.1 + 1) (uC_F (uC_F hC9 hF1) (uF_i (Or.inl rfl))) (gI_self _ _ _ _) (by omega) ((gI_ne (by omega)).trans m4) (by omega)) (by omega) ?_
          rintro v M3 ⟨w2, rfl, hw2, k3, k4, hF3⟩
          have hfx : ∀ i, gI (sI M1 130 3 (nI ((suX T n (fun i => gI M 131 i) p).2.1 + 1))) 131 i = gI M 131 i := fun i => (gI_ne (by omega)).trans (hF1.1 _ _ (by omega))
          rw [suX_c (ψ := (fun i => gI M 131 i)) hfx] at hw2 k3 k4
          have hF5 : uF M M3 := uF_t hF1 (uF_t (uF_i (Or.inl rfl)) hF3)
          have hcp := cpX_t1 (T := T) (n := n) (p := p) (φ := (fun i => gI M 131 i)) ⟨hok, hcm⟩
          dsimp only [Option.toList, List.cons_append, List.nil_append]
          refine xG_run 3 rfl (by repeat' (first | exact trivial | assumption | exact xob_b rfl | exact xal_b rfl | (apply And.intro) | decide)) ?_
          try dsimp only [xsto1, xsto2, xkill, xget, xset, gd_0, gd_s]
          try simp (disch := omega) only [gI_self, g_ne, sI_sI, m2, m3, m4, nI_1]
          refine xG_br rfl (fun h80 => ?_) (fun h80 => ?_)
          · first
              | (exfalso; first | exact absurd h40 (by rw [Decidable.not_not.mp h80]; decide) | exact absurd h46 (by rw [Decidable.not_not.mp h80]; decide) | exact h80 h52)
              | (refine xG_run 2 rfl (by repeat' (first | exact trivial | assumption | exact xob_b rfl | exact xal_b rfl | (apply And.intro) | decide)) ?_
                 try dsimp only [xsto1, xsto2, xkill, xget, xset, gd_0, gd_s]
                 try simp (disch := omega) only [gI_self, g_ne, sI_sI, m2, m3, m4, nI_1]
                 refine xG_br rfl (fun h97 => ?_) (fun h97 => ?_)
                 · first
                     | (exfalso; first | exact h97 h40 | exact absurd h46 (by rw [Decidable.not_not.mp h97]; decide) | exact absurd h52 (by rw [Decidable.not_not.mp h97]; decide))
                     | (refine xG_run 2 rfl (by repeat' (first | exact trivial | assumption | exact xob_b rfl | exact xal_b rfl | (apply And.intro) | decide)) ?_
                        try dsimp only [xsto1, xsto2, xkill, xget, xset, gd_0, gd_s]
                        try simp (disch := omega) only [gI_self, g_ne, sI_sI, m2, m3, m4, nI_1]
                        refine xG_br rfl (fun h115 => ?_) (fun h115 => ?_)
                        · refine xG_run 1 rfl (by repeat' (first | exact trivial | assumption | exact xob_b rfl | exact xal_b rfl | (apply And.intro) | decide)) ?_
                          try dsimp only [xsto1, xsto2, xkill, xget, xset, gd_0, gd_s]
                          try simp (disch := omega) only [gI_self, g_ne, sI_sI, m2, m3, m4, nI_1]
                          refine r2_z rfl rfl (by first | decide | assumption) ?_
                          refine ⟨cmX (chr T n (suX T n (fun i => gI M 131 i) p).2.1) w1 w2, (cm6 h80 h97 (Int32.not_lt.mpr h115)), ?_⟩
                          rw [hcp]
                          by_cases c9 : (suX T n (fun i => gI M 131 i) ((suX T n (fun i => gI M 131 i) p).2.1 + 1)).1 = true
                          · rw [if_pos c9]; rw [if_pos c9] at k4; exact ⟨fun _ => by rw [hw1 rfl, hw2 c9], k3, k4, hF5⟩
                          · rw [if_neg c9]; rw [if_neg c9] at k4; exact ⟨fun z => absurd (show false = true from z) (by decide), k3, k4, hF5⟩
                        · refine xG_run 2 rfl (by repeat' (first | exact trivial | assumption | exact xob_b rfl | exact xal_b rfl | (apply And.intro) | decide)) ?_
                          try dsimp only [xsto1, xsto2, xkill, xget, xset, gd_0, gd_s]
                          try simp (disch := omega) only [gI_self, g_ne, sI_sI, m2, m3, m4, nI_1]
                          refine r2_z rfl rfl (by first | decide | assumption) ?_
                          refine ⟨cmX (chr T n (suX T n (fun i => gI M 131 i) p).2.1) w1 w2, (cm5 h80 h97 (Int32.not_le.mp h115)), ?_⟩
                          rw [hcp]
                          by_cases c9 : (suX T n (fun i => gI M 131 i) ((suX T n (fun i => gI M 131 i) p).2.1 + 1)).1 = true
                          · rw [if_pos c9]; rw [if_pos c9] at k4; exact ⟨fun _ => by rw [hw1 rfl, hw2 c9], k3, k4, hF5⟩
                          · rw [if_neg c9]; rw [if_neg c9] at k4; exact ⟨fun z => absurd (show false = true from z) (by decide), k3, k4, hF5⟩)
                 · first
                     | (exfalso; first | exact h97 h40 | exact absurd h46 (by rw [Decidable.not_not.mp h97]; decide) | exact absurd h52 (by rw [Decidable.not_not.mp h97]; decide))
                     | (refine xG_run 2 rfl (by repeat' (first | exact trivial | assumption | exact xob_b rfl | exact xal_b rfl | (apply And.intro) | decide)) ?_
                        try dsimp only [xsto1, xsto2, xkill, xget, xset, gd_0, gd_s]
                        try simp (disch := omega) only [gI_self, g_ne, sI_sI, m2, m3, m4, nI_1]
                        refine xG_br rfl (fun h102 => ?_) (fun h102 => ?_)
                        · refine xG_run 2 rfl (by repeat' (first | exact trivial | assumption | exact xob_b rfl | exact xal_b rfl | (apply And.intro) | decide)) ?_
                          try dsimp only [xsto1, xsto2, xkill, xget, xset, gd_0, gd_s]
                          try simp (disch := omega) only [gI_self, g_ne, sI_sI, m2, m3, m4, nI_1]
                          refine r2_z rfl rfl (by first | decide | assumption) ?_
                          refine ⟨cmX (chr T n (suX T n (fun i => gI M 131 i) p).2.1) w1 w2, (cm4 h80 (Decidable.not_not.mp h97) (Int32.not_lt.mpr h102)), ?_⟩
                          rw [hcp]
                          by_cases c9 : (suX T n (fun i => gI M 131 i) ((suX T n (fun i => gI M 131 i) p).2.1 + 1)).1 = true
                          · rw [if_pos c9]; rw [if_pos c9] at k4; exact ⟨fun _ => by rw [hw1 rfl, hw2 c9], k3, k4, hF5⟩
                          · rw [if_neg c9]; rw [if_neg c9] at k4; exact ⟨fun z => absurd (show false = true from z) (by decide), k3, k4, hF5⟩
                        · refine xG_run 2 rfl (by repeat' (first | exact trivial | assumption | exact xob_b rfl | exact xal_b rfl | (apply And.intro) | decide)) ?_
                          try dsimp only [xsto1, xsto2, xkill, xget, xset, gd_0, gd_s]
                          try simp (disch := omega) only [gI_self, g_ne, sI_sI, m2, m3, m4, nI_1]
                          refine r2_z rfl rfl (by first | decide | assumption) ?_
                          refine ⟨cmX (chr T n (suX T n (fun i => gI M 131 i) p).2.1) w1 w2, (cm3 h80 (Decidable.not_not.mp h97) (Int32.not_le.mp h102)), ?_⟩
                          rw [hcp]
                          by_cases c9 : (suX T n (fun i => gI M 131 i) ((suX T n (fun i => gI M 131 i) p).2.1 + 1)).1 = true
                          · rw [if_pos c9]; rw [if_pos c9] at k4; exact ⟨fun _ => by rw [hw1 rfl, hw2 c9], k3, k4, hF5⟩
                          · rw [if_neg c9]; rw [if_neg c9] at k4; exact ⟨fun z => absurd (show false = true from z) (by decide), k3, k4, hF5⟩))
          · first
              | (exfalso; first | exact absurd h40 (by rw [Decidable.not_not.mp h80]; decide) | exact absurd h46 (by rw [Decidable.not_not.mp h80]; decide) | exact h80 h52)
              | (refine xG_run 2 rfl (by repeat' (first | exact trivial | assumption | exact xob_b rfl | exact xal_b rfl | (apply And.intro) | decide)) ?_
                 try dsimp only [xsto1, xsto2, xkill, xget, xset, gd_0, gd_s]
                 try simp (disch := omega) only [gI_self, g_ne, sI_sI, m2, m3, m4, nI_1]
                 refine xG_br rfl (fun h85 => ?_) (fun h85 => ?_)
                 · refine xG_run 1 rfl (by repeat' (first | exact trivial | assumption | exact xob_b rfl | exact xal_b rfl | (apply And.intro) | decide)) ?_
                   try dsimp only [xsto1, xsto2, xkill, xget, xset, gd_0, gd_s]
                   try simp (disch := omega) only [gI_self, g_ne, sI_sI, m2, m3, m4, nI_1]
                   refine r2_z rfl rfl (by first | decide | assumption) ?_
                   refine ⟨cmX (chr T n (suX T n (fun i => gI M 131 i) p).2.1) w1 w2, (cm2 (Decidable.not_not.mp h80) h85), ?_⟩
                   rw [hcp]
                   by_cases c9 : (suX T n (fun i => gI M 131 i) ((suX T n (fun i => gI M 131 i) p).2.1 + 1)).1 = true
                   · rw [if_pos c9]; rw [if_pos c9] at k4; exact ⟨fun _ => by rw [hw1 rfl, hw2 c9], k3, k4, hF5⟩
                   · rw [if_neg c9]; rw [if_neg c9] at k4; exact ⟨fun z => absurd (show false = true from z) (by decide), k3, k4, hF5⟩
                 · refine xG_run 2 rfl (by repeat' (first | exact trivial | assumption | exact xob_b rfl | exact xal_b rfl | (apply And.intro) | decide)) ?_
                   try dsimp only [xsto1, xsto2, xkill, xget, xset, gd_0, gd_s]
                   try simp (disch := omega) only [gI_self, g_ne, sI_sI, m2, m3, m4, nI_1]
                   refine r2_z rfl rfl (by first | decide | assumption) ?_
                   refine ⟨cmX (chr T n (suX T n (fun i => gI M 131 i) p).2.1) w1 w2, (cm1 (Decidable.not_not.mp h80) (Decidable.not_not.mp h85)), ?_⟩
                   rw [hcp]
                   by_cases c9 : (suX T n (fun i => gI M 131 i) ((suX T n (fun i => gI M 131 i) p).2.1 + 1)).1 = true
                   · rw [if_pos c9]; rw [if_pos c9] at k4; exact ⟨fun _ => by rw [hw1 rfl, hw2 c9], k3, k4, hF5⟩
                   · rw [if_neg c9]; rw [if_neg c9] at k4; exact ⟨fun z => absurd (show false = true from z) (by decide), k3, k4, hF5⟩)
        · refine xG_run 2 rfl (by repeat' (first | exact trivial | assumption | exact xob_b rfl | exact xal_b rfl | (apply And.intro) | decide)) ?_
          try dsimp only [xsto1, xsto2, xkill, xget, xset, gd_0, gd_s]
          try simp (disch := omega) only [gI_self, g_ne, sI_sI, m2, m3, m4, nI_1]
          refine xG_br rfl (fun h52 => ?_) (fun h52 => ?_)
          · have hcm : isCm (chr T n (suX T n (fun i => gI M 131 i) p).2.1) := Or.inr (Or.inr h52)
            refine xG_run 7 rfl (by repeat' (first | exact trivial | assumption | exact xob_b rfl | exact xal_b rfl | (apply And.intro) | decide)) ?_
            try dsimp only [xsto1, xsto2, xkill, xget, xset, gd_0, gd_s]
            try simp (disch := omega) only [gI_self, g_ne, sI_sI, m2, m3, m4, nI_1]
            refine xG_c2 0 rfl (by repeat' (first | exact trivial | assumption | exact xob_b rfl | exact xal_b rfl | (apply And.intro) | decide)) rfl rfl (by decide) cw_X6_readSum (d' := d - 1) (e_ureadSum (p := (suX T n (fun i => gI M 131 i) p).2.1 + 1) (uC_F (uC_F hC9 hF1) (uF_i (Or.inl rfl))) (gI_self _ _ _ _) (by omega) ((gI_ne (by omega)).trans m4) (by omega)) (by omega) ?_
            rintro v M3 ⟨w2, rfl, hw2, k3, k4, hF3⟩
            have hfx : ∀ i, gI (sI M1 130 3 (nI ((suX T n (fun i => gI M 131 i) p).2.1 + 1))) 131 i = gI M 131 i := fun i => (gI_ne (by omega)).trans (hF1.1 _ _ (by omega))
            rw [suX_c (ψ := (fun i => gI M 131 i)) hfx] at hw2 k3 k4
            have hF5 : uF M M3 := uF_t hF1 (uF_t (uF_i (Or.inl rfl)) hF3)
            have hcp := cpX_t1 (T := T) (n := n) (p := p) (φ := (fun i => gI M 131 i)) ⟨hok, hcm⟩
            dsimp only [Option.toList, List.cons_append, List.nil_append]
            refine xG_run 3 rfl (by repeat' (first | exact trivial | assumption | exact xob_b rfl | exact xal_b rfl | (apply And.intro) | decide)) ?_
            try dsimp only [xsto1, xsto2, xkill, xget, xset, gd_0, gd_s]
            try simp (disch := omega) only [gI_self, g_ne, sI_sI, m2, m3, m4, nI_1]
            refine xG_br rfl (fun h80 => ?_) (fun h80 => ?_)
            · first
                | (exfalso; first | exact absurd h40 (by rw [Decidable.not_not.mp h80]; decide) | exact absurd h46 (by rw [Decidable.not_not.mp h80]; decide) | exact h80 h52)
                | (refine xG_run 2 rfl (by repeat' (first | exact trivial | assumption | exact xob_b rfl | exact xal_b rfl | (apply And.intro) | decide)) ?_
                   try dsimp only [xsto1, xsto2, xkill, xget, xset, gd_0, gd_s]
                   try simp (disch := omega) only [gI_self, g_ne, sI_sI, m2, m3, m4, nI_1]
                   refine xG_br rfl (fun h97 => ?_) (fun h97 => ?_)
                   · first
                       | (exfalso; first | exact h97 h40 | exact absurd h46 (by rw [Decidable.not_not.mp h97]; decide) | exact absurd h52 (by rw [Decidable.not_not.mp h97]; decide))
                       | (refine xG_run 2 rfl (by repeat' (first | exact trivial | assumption | exact xob_b rfl | exact xal_b rfl | (apply And.intro) | decide)) ?_
                          try dsimp only [xsto1, xsto2, xkill, xget, xset, gd_0, gd_s]
                          try simp (disch := omega) only [gI_self, g_ne, sI_sI, m2, m3, m4, nI_1]
                          refine xG_br rfl (fun h115 => ?_) (fun h115 => ?_)
                          · refine xG_run 1 rfl (by repeat' (first | exact trivial | assumption | exact xob_b rfl | exact xal_b rfl | (apply And.intro) | decide)) ?_
                            try dsimp only [xsto1, xsto2, xkill, xget, xset, gd_0, gd_s]
                            try simp (disch := omega) only [gI_self, g_ne, sI_sI, m2, m3, m4, nI_1]
                            refine r2_z rfl rfl (by first | decide | assumption) ?_
                            refine ⟨cmX (chr T n (suX T n (fun i => gI M 131 i) p).2.1) w1 w2, (cm6 h80 h97 (Int32.not_lt.mpr h115)), ?_⟩
                            rw [hcp]
                            by_cases c9 : (suX T n (fun i => gI M 131 i) ((suX T n (fun i => gI M 131 i) p).2.1 + 1)).1 = true
                            · rw [if_pos c9]; rw [if_pos c9] at k4; exact ⟨fun _ => by rw [hw1 rfl, hw2 c9], k3, k4, hF5⟩
                            · rw [if_neg c9]; rw [if_neg c9] at k4; exact ⟨fun z => absurd (show false = true from z) (by decide), k3, k4, hF5⟩
                          · refine xG_run 2 rfl (by repeat' (first | exact trivial | assumption | exact xob_b rfl | exact xal_b rfl | (apply And.intro) | decide)) ?_
                            try dsimp only [xsto1, xsto2, xkill, xget, xset, gd_0, gd_s]
                            try simp (disch := omega) only [gI_self, g_ne, sI_sI, m2, m3, m4, nI_1]
                            refine r2_z rfl rfl (by first | decide | assumption) ?_
                            refine ⟨cmX (chr T n (suX T n (fun i => gI M 131 i) p).2.1) w1 w2, (cm5 h80 h97 (Int32.not_le.mp h115)), ?_⟩
                            rw [hcp]
                            by_cases c9 : (suX T n (fun i => gI M 131 i) ((suX T n (fun i => gI M 131 i) p).2.1 + 1)).1 = true
                            · rw [if_pos c9]; rw [if_pos c9] at k4; exact ⟨fun _ => by rw [hw1 rfl, hw2 c9], k3, k4, hF5⟩
                            · rw [if_neg c9]; rw [if_neg c9] at k4; exact ⟨fun z => absurd (show false = true from z) (by decide), k3, k4, hF5⟩)
                   · first
                       | (exfalso; first | exact h97 h40 | exact absurd h46 (by rw [Decidable.not_not.mp h97]; decide) | exact absurd h52 (by rw [Decidable.not_not.mp h97]; decide))
                       | (refine xG_run 2 rfl (by repeat' (first | exact trivial | assumption | exact xob_b rfl | exact xal_b rfl | (apply And.intro) | decide)) ?_
                          try dsimp only [xsto1, xsto2, xkill, xget, xset, gd_0, gd_s]
                          try simp (disch := omega) only [gI_self, g_ne, sI_sI, m2, m3, m4, nI_1]
                          refine xG_br rfl (fun h102 => ?_) (fun h102 => ?_)
                          · refine xG_run 2 rfl (by repeat' (first | exact trivial | assumption | exact xob_b rfl | exact xal_b rfl | (apply And.intro) | decide)) ?_
                            try dsimp only [xsto1, xsto2, xkill, xget, xset, gd_0, gd_s]
                            try simp (disch := omega) only [gI_self, g_ne, sI_sI, m2, m3, m4, nI_1]
                            refine r2_z rfl rfl (by first | decide | assumption) ?_
                            refine ⟨cmX (chr T n (suX T n (fun i => gI M 131 i) p).2.1) w1 w2, (cm4 h80 (Decidable.not_not.mp h97) (Int32.not_lt.mpr h102)), ?_⟩
                            rw [hcp]
                            by_cases c9 : (suX T n (fun i => gI M 131 i) ((suX T n (fun i => gI M 131 i) p).2.1 + 1)).1 = true
                            · rw [if_pos c9]; rw [if_pos c9] at k4; exact ⟨fun _ => by rw [hw1 rfl, hw2 c9], k3, k4, hF5⟩
                            · rw [if_neg c9]; rw [if_neg c9] at k4; exact ⟨fun z => absurd (show false = true from z) (by decide), k3, k4, hF5⟩
                          · refine xG_run 2 rfl (by repeat' (first | exact trivial | assumption | exact xob_b rfl | exact xal_b rfl | (apply And.intro) | decide)) ?_
                            try dsimp only [xsto1, xsto2, xkill, xget, xset, gd_0, gd_s]
                            try simp (disch := omega) only [gI_self, g_ne, sI_sI, m2, m3, m4, nI_1]
                            refine r2_z rfl rfl (by first | decide | assumption) ?_
                            refine ⟨cmX (chr T n (suX T n (fun i => gI M 131 i) p).2.1) w1 w2, (cm3 h80 (Decidable.not_not.mp h97) (Int32.not_le.mp h102)), ?_⟩
                            rw [hcp]
                            by_cases c9 : (suX T n (fun i => gI M 131 i) ((suX T n (fun i => gI M 131 i) p).2.1 + 1)).1 = true
                            · rw [if_pos c9]; rw [if_pos c9] at k4; exact ⟨fun _ => by rw [hw1 rfl, hw2 c9], k3, k4, hF5⟩
                            · rw [if_neg c9]; rw [if_neg c9] at k4; exact ⟨fun z => absurd (show false = true from z) (by decide), k3, k4, hF5⟩))
            · first
                | (exfalso; first | exact absurd h40 (by rw [Decidable.not_not.mp h80]; decide) | exact absurd h46 (by rw [Decidable.not_not.mp h80]; decide) | exact h80 h52)
                | (refine xG_run 2 rfl (by repeat' (first | exact trivial | assumption | exact xob_b rfl | exact xal_b rfl | (apply And.intro) | decide)) ?_
                   try dsimp only [xsto1, xsto2, xkill, xget, xset, gd_0, gd_s]
                   try simp (disch := omega) only [gI_self, g_ne, sI_sI, m2, m3, m4, nI_1]
                   refine xG_br rfl (fun h85 => ?_) (fun h85 => ?_)
                   · refine xG_run 1 rfl (by repeat' (first | exact trivial | assumption | exact xob_b rfl | exact xal_b rfl | (apply And.intro) | decide)) ?_
                     try dsimp only [xsto1, xsto2, xkill, xget, xset, gd_0, gd_s]
                     try simp (disch := omega) only [gI_self, g_ne, sI_sI, m2, m3, m4, nI_1]
                     refine r2_z rfl rfl (by first | decide | assumption) ?_
                     refine ⟨cmX (chr T n (suX T n (fun i => gI M 131 i) p).2.1) w1 w2, (cm2 (Decidable.not_not.mp h80) h85), ?_⟩
                     rw [hcp]
                     by_cases c9 : (suX T n (fun i => gI M 131 i) ((suX T n (fun i => gI M 131 i) p).2.1 + 1)).1 = true
                     · rw [if_pos c9]; rw [if_pos c9] at k4; exact ⟨fun _ => by rw [hw1 rfl, hw2 c9], k3, k4, hF5⟩
                     · rw [if_neg c9]; rw [if_neg c9] at k4; exact ⟨fun z => absurd (show false = true from z) (by decide), k3, k4, hF5⟩
                   · refine xG_run 2 rfl (by repeat' (first | exact trivial | assumption | exact xob_b rfl | exact xal_b rfl | (apply And.intro) | decide)) ?_
                     try dsimp only [xsto1, xsto2, xkill, xget, xset, gd_0, gd_s]
                     try simp (disch := omega) only [gI_self, g_ne, sI_sI, m2, m3, m4, nI_1]
                     refine r2_z rfl rfl (by first | decide | assumption) ?_
                     refine ⟨cmX (chr T n (suX T n (fun i => gI M 131 i) p).2.1) w1 w2, (cm1 (Decidable.not_not.mp h80) (Decidable.not_not.mp h85)), ?_⟩
                     rw [hcp]
                     by_cases c9 : (suX T n (fun i => gI M 131 i) ((suX T n (fun i => gI M 131 i) p).2.1 + 1)).1 = true
                     · rw [if_pos c9]; rw [if_pos c9] at k4; exact ⟨fun _ => by rw [hw1 rfl, hw2 c9], k3, k4, hF5⟩
                     · rw [if_neg c9]; rw [if_neg c9] at k4; exact ⟨fun z => absurd (show false = true from z) (by decide), k3, k4, hF5⟩)
          · refine xG_run 4 rfl (by repeat' (first | exact trivial | assumption | exact xob_b rfl | exact xal_b rfl | (apply And.intro) | decide)) ?_
            try dsimp only [xsto1, xsto2, xkill, xget, xset, gd_0, gd_s]
            try simp (disch := omega) only [gI_self, g_ne, sI_sI, m2, m3, m4, nI_1]
            refine r2_z rfl rfl (by first | decide | assumption) ?_
            rw [cpX_f1 (fun z => z.2.elim h40 (fun q => q.elim h46 h52))]
            exact ⟨false, rfl, fun z => absurd (show false = true from z) (by decide), (gI_ne (by omega)).trans m3, gI_self _ _ _ _, uF_t hF1 (uF_i (Or.inr rfl))⟩
  · dsimp only [Option.toList, List.cons_append, List.nil_append]
    refine xG_run 1 rfl (by repeat' (first | exact trivial | assumption | exact xob_b rfl | exact xal_b rfl | (apply And.intro) | decide)) ?_
    try dsimp only [xsto1, xsto2, xkill, xget, xset, gd_0, gd_s]
    try simp (disch := omega) only [gI_self, g_ne, sI_sI, m2, m3, m4, nI_1]
    try simp only [m3]
    refine xG_run 2 rfl (by repeat' (first | exact trivial | assumption | exact xob_b rfl | exact xal_b rfl | (apply And.intro) | decide)) ?_
    try dsimp only [xsto1, xsto2, xkill, xget, xset, gd_0, gd_s]
    try simp (disch := omega) only [gI_self, g_ne, sI_sI, m2, m3, m4, nI_1]
    try simp only [m3]
    refine xG_run 2 rfl (by repeat' (first | exact trivial | assumption | exact xob_b rfl | exact xal_b rfl | (apply And.intro) | decide)) ?_
    try dsimp only [xsto1, xsto2, xkill, xget, xset, gd_0, gd_s]
    try simp (disch := omega) only [gI_self, g_ne, sI_sI, m2, m3, m4, nI_1]
    try simp only [m2, m3]
    refine xG_br rfl (fun h13 => ?_) (fun h13 => ?_)
    · have hge : ¬ (suX T n (fun i => gI M 131 i) p).2.1 < n := fun z => nI_nlt9 z (by omega) h13
      refine xG_run 4 rfl (by repeat' (first | exact trivial | assumption | exact xob_b rfl | exact xal_b rfl | (apply And.intro) | decide)) ?_
      try dsimp only [xsto1, xsto2, xkill, xget, xset, gd_0, gd_s]
      try simp (disch := omega) only [gI_self, g_ne, sI_sI, m2, m3, m4, nI_1]
      try simp only [m4]
      refine xG_brT rfl (by decide) ?_
      refine xG_run 4 rfl (by repeat' (first | exact trivial | assumption | exact xob_b rfl | exact xal_b rfl | (apply And.intro) | decide)) ?_
      try dsimp only [xsto1, xsto2, xkill, xget, xset, gd_0, gd_s]
      try simp (disch := omega) only [gI_self, g_ne, sI_sI, m2, m3, m4, nI_1]
      refine r2_z rfl rfl (by first | decide | assumption) ?_
      rw [cpX_f1 (fun z => by rw [hok] at z; exact absurd z.1 (by decide))]
      exact ⟨false, rfl, fun z => absurd (show false = true from z) (by decide), (gI_ne (by omega)).trans m3, gI_self _ _ _ _, uF_t hF1 (uF_i (Or.inr rfl))⟩
    · have hlt : (suX T n (fun i => gI M 131 i) p).2.1 < n := nI_lt9 (by omega) (by omega) h13
      have ha := har _ hlt
      have hgt : gI M1 t (nI (suX T n (fun i => gI M 131 i) p).2.1).toNatClampNeg = chr T n (suX T n (fun i => gI M 131 i) p).2.1 := (hF1.1 _ _ (by omega)).trans (hch _ hlt)
      refine xG_run 2 rfl (by repeat' (first | exact trivial | assumption | exact xob_b rfl | exact xal_b rfl | (apply And.intro) | decide)) ?_
      try dsimp only [xsto1, xsto2, xkill, xget, xset, gd_0, gd_s]
      try simp (disch := omega) only [gI_self, g_ne, sI_sI, m2, m3, m4, nI_1]
      rw [hbq]
      refine xG_run 2 rfl (by repeat' (first | exact trivial | assumption | exact xob_b rfl | exact xal_b rfl | (apply And.intro) | decide)) ?_
      try dsimp only [xsto1, xsto2, xkill, xget, xset, gd_0, gd_s]
      try simp (disch := omega) only [gI_self, g_ne, sI_sI, m2, m3, m4, nI_1]
      try simp only [m3]
      refine xG_run 1 rfl (by repeat' (first | exact trivial | assumption | exact xob_b rfl | exact xal_b rfl | (apply And.intro) | decide)) ?_
      try dsimp only [xsto1, xsto2, xkill, xget, xset, gd_0, gd_s]
      try simp (disch := omega) only [gI_self, g_ne, sI_sI, m2, m3, m4, nI_1]
      rw [hgt]
      refine xG_run 4 rfl (by repeat' (first | exact trivial | assumption | exact xob_b rfl | exact xal_b rfl | (apply And.intro) | decide)) ?_
      try dsimp only [xsto1, xsto2, xkill, xget, xset, gd_0, gd_s]
      try simp (disch := omega) only [gI_self, g_ne, sI_sI, m2, m3, m4, nI_1]
      try simp only [m4]
      refine xG_brT rfl (by decide) ?_
      refine xG_run 4 rfl (by repeat' (first | exact trivial | assumption | exact xob_b rfl | exact xal_b rfl | (apply And.intro) | decide)) ?_
      try dsimp only [xsto1, xsto2, xkill, xget, xset, gd_0, gd_s]
      try simp (disch := omega) only [gI_self, g_ne, sI_sI, m2, m3, m4, nI_1]
      refine r2_z rfl rfl (by first | decide | assumption) ?_
      rw [cpX_f1 (fun z => by rw [hok] at z; exact absurd z.1 (by decide))]
      exact ⟨false, rfl, fun z => absurd (show false = true from z) (by decide), (gI_ne (by omega)).trans m3, gI_self _ _ _ _, uF_t hF1 (uF_i (Or.inr rfl))⟩
