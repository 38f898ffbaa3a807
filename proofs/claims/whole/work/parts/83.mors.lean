/-! ===== the reference reads rules: tests, ands, ors ===== -/
noncomputable def mRd (m : Nat) : xMI := if m = 0 then mX12_readsTest else if m = 1 then mX12_readsAnd else mX12_readsOr
theorem e_reads {κ : xKK} {a b n : Nat} {T : Nat → Int32} {φ : Nat → Int32} : ∀ (s m k p d : Nat) (M : xM), 3 * (n - p) + m = s → m ≤ 2 → p ≤ n → k ≤ 8 → rT M a b n T → gI M 166 12 = nI p → gI M 166 24 = nI k → m + 3 * (8 - k) + (n - p) + 6 ≤ d → xE2 κ (mRd m) d [.ref 166] M (fun v M' => v = some (.int (bl2 (RX T n φ m k p).1)) ∧ gI M' 166 12 = nI (RX T n φ m k p).2.1 ∧ ((RX T n φ m k p).1 = true → gI M' 166 24 = nI k) ∧ rdP M M') := by
  intro s
  induction s using Nat.strongRecOn with
  | ind s IH =>
    intro m k p d M hs hm hpn hk hT hp h24 hd
    have hn9 := hT.2.2.2.2.1
    rcases (show m = 0 ∨ m = 1 ∨ m = 2 by omega) with rfl | rfl | rfl
    · show xE2 κ mX12_readsTest d [.ref 166] M _
      refine xE2_of ci_X12_readsTest cl_X12_readsTest cw_X12_readsTest rfl (L := [some (.ref 166)]) rfl ?_
      have e := RX_t (T := T) (n := n) (φ := φ) (k := k) hpn
      refine xG_run 2 rfl (by repeat' (first | exact trivial | assumption | exact xob_b rfl | exact xal_b rfl | (apply And.intro) | decide)) ?_
      try dsimp only [xsto1, xsto2, xkill, xget, xset, gd_0, gd_s]
      try simp (disch := omega) only [gI_self, g_ne, hp, h24, nI_1]
      refine xG_c2 1 rfl (by repeat' (first | exact trivial | assumption | exact xob_b rfl | exact xal_b rfl | (apply And.intro) | decide)) rfl rfl (by decide) cw_X12_takes (d' := d - 1) (e_takes (c := 33) hT hp (by omega) (by omega)) (by omega) ?_
      rintro v M9 (⟨hc33, rfl, hM9⟩ | ⟨hc33, rfl, hM9⟩)
      all_goals subst M9
      · dsimp only [Option.toList, List.cons_append, List.nil_append]
        have hp1 : p < n := chr_p hc33 (by decide)
        refine xG_brF rfl (by decide) ?_
        refine xG_run 1 rfl (by repeat' (first | exact trivial | assumption | exact xob_b rfl | exact xal_b rfl | (apply And.intro) | decide)) ?_
        try dsimp only [xsto1, xsto2, xkill, xget, xset, gd_0, gd_s]
        try simp (disch := omega) only [gI_self, g_ne, hp, h24, nI_1]
        refine xG_c2 0 rfl (by repeat' (first | exact trivial | assumption | exact xob_b rfl | exact xal_b rfl | (apply And.intro) | decide)) rfl rfl (by decide) cw_X12_readsTest (d' := d - 1) (IH (3 * (n - (p + 1)) + 0) (by omega) 0 (k) (p + 1) (d - 1) _ rfl (by omega) hp1 hk (rT_P hT (rdP_i (Or.inl rfl))) (gI_self _ _ _ _) ((gI_ne (by omega)).trans h24) (by omega)) (by omega) ?_
        rintro v M3 ⟨rfl, k3, k243, hF3⟩
        obtain ⟨y13, y23, y33⟩ := RX_b (T := T) (n := n) (φ := φ) (m := 0) (k := k) (p := p + 1) (by omega)
        have hbb := bl_1 (b := (RX T n φ 0 (k) (p + 1)).1)
        dsimp only [Option.toList, List.cons_append, List.nil_append]
        refine r2_z rfl rfl (by first | decide | assumption) ?_
        rw [if_pos hc33] at e
        rw [e]
        exact ⟨rfl, k3, k243, rdP_t (rdP_i (Or.inl rfl)) hF3⟩
      · dsimp only [Option.toList, List.cons_append, List.nil_append]
        refine xG_brT rfl (rfl) ?_
        refine xG_run 1 rfl (by repeat' (first | exact trivial | assumption | exact xob_b rfl | exact xal_b rfl | (apply And.intro) | decide)) ?_
        try dsimp only [xsto1, xsto2, xkill, xget, xset, gd_0, gd_s]
        try simp (disch := omega) only [gI_self, g_ne, hp, h24, nI_1]
        refine xG_c2 0 rfl (by repeat' (first | exact trivial | assumption | exact xob_b rfl | exact xal_b rfl | (apply And.intro) | decide)) rfl rfl (by decide) cw_X12_sign (d' := d - 1) (e_sign hT hp (by omega)) (by omega) ?_
        rintro v M' ⟨rfl, hM⟩
        subst M'
        dsimp only [Option.toList, List.cons_append, List.nil_append]
        refine xG_run 1 rfl (by repeat' (first | exact trivial | assumption | exact xob_b rfl | exact xal_b rfl | (apply And.intro) | decide)) ?_
        try dsimp only [xsto1, xsto2, xkill, xget, xset, gd_0, gd_s]
        try simp (disch := omega) only [gI_self, g_ne, hp, h24, nI_1]
        refine xG_br rfl (fun h20 => ?_) (fun h20 => ?_)
        · refine xG_run 1 rfl (by repeat' (first | exact trivial | assumption | exact xob_b rfl | exact xal_b rfl | (apply And.intro) | decide)) ?_
          try dsimp only [xsto1, xsto2, xkill, xget, xset, gd_0, gd_s]
          try simp (disch := omega) only [gI_self, g_ne, hp, h24, nI_1]
          refine xG_c2 0 rfl (by repeat' (first | exact trivial | assumption | exact xob_b rfl | exact xal_b rfl | (apply And.intro) | decide)) rfl rfl (by decide) cw_X12_readsSum (d' := d - 1) (e_rreadsSum (φ := φ) (p := p) hT hp (by omega) (by omega)) (by omega) ?_
          rintro v M3 ⟨rfl, k3, k243, hF3⟩
          obtain ⟨y13, y23, y33⟩ := suX_b (T := T) (n := n) (φ := φ) (p := p) (by omega)
          rcases Bool.eq_false_or_eq_true (suX T n φ (p)).1 with hok3 | hok3
          all_goals rw [hok3]
          · dsimp only [Option.toList, List.cons_append, List.nil_append]
            refine xG_brF rfl (by decide) ?_
            refine xG_run 2 rfl (by repeat' (first | exact trivial | assumption | exact xob_b rfl | exact xal_b rfl | (apply And.intro) | decide)) ?_
            try dsimp only [xsto1, xsto2, xkill, xget, xset, gd_0, gd_s]
            try simp (disch := omega) only [gI_self, g_ne, hp, h24, nI_1]
            refine xG_c2 1 rfl (by repeat' (first | exact trivial | assumption | exact xob_b rfl | exact xal_b rfl | (apply And.intro) | decide)) rfl rfl (by decide) cw_X12_takes (d' := d - 1) (e_takes (c := 60) (rT_P hT hF3) k3 (by omega) (by omega)) (by omega) ?_
            rintro v M9 (⟨hc60, rfl, hM9⟩ | ⟨hc60, rfl, hM9⟩)
            all_goals subst M9
            · dsimp only [Option.toList, List.cons_append, List.nil_append]
              have hcm : isCm (chr T n (suX T n φ p).2.1) := Or.inl hc60
              refine xG_brT rfl (by decide) ?_
              refine xG_run 1 rfl (by repeat' (first | exact trivial | assumption | exact xob_b rfl | exact xal_b rfl | (apply And.intro) | decide)) ?_
              try dsimp only [xsto1, xsto2, xkill, xget, xset, gd_0, gd_s]
              try simp (disch := omega) only [gI_self, g_ne, hp, h24, nI_1]
              refine xG_c2 0 rfl (by repeat' (first | exact trivial | assumption | exact xob_b rfl | exact xal_b rfl | (apply And.intro) | decide)) rfl rfl (by decide) cw_X12_readsSum (d' := d - 1) (e_rreadsSum (φ := φ) (p := (suX T n φ p).2.1 + 1) (rT_P (rT_P hT hF3) (rdP_i (Or.inl rfl))) (gI_self _ _ _ _) (by have := cm_lt hcm; omega) (by omega)) (by omega) ?_
              rintro v M5 ⟨rfl, k5, k245, hF5⟩
              have hbb := bl_1 (b := (suX T n φ ((suX T n φ p).2.1 + 1)).1)
              dsimp only [Option.toList, List.cons_append, List.nil_append]
              refine r2_z rfl rfl (by first | decide | assumption) ?_
              rw [if_neg hc33, if_neg h20] at e
              rw [e]
              rw [cpX_t1 ⟨hok3, hcm⟩]
              have hF6 := rdP_t hF3 (rdP_t (rdP_i (M := M3) (k := 12) (v := nI ((suX T n φ p).2.1 + 1)) (Or.inl rfl)) hF5)
              by_cases c9 : (suX T n φ ((suX T n φ p).2.1 + 1)).1 = true
              · rw [if_pos c9]
                exact ⟨by rw [c9], k5, fun _ => k245.trans ((gI_ne (by omega)).trans (k243.trans h24)), hF6⟩
              · rw [if_neg c9]
                exact ⟨by rw [Bool.eq_false_iff.mpr c9], k5, fun z => absurd (show false = true from z) (by decide), hF6⟩
            · dsimp only [Option.toList, List.cons_append, List.nil_append]
              refine xG_brF rfl (fun z => z rfl) ?_
              refine xG_run 2 rfl (by repeat' (first | exact trivial | assumption | exact xob_b rfl | exact xal_b rfl | (apply And.intro) | decide)) ?_
              try dsimp only [xsto1, xsto2, xkill, xget, xset, gd_0, gd_s]
              try simp (disch := omega) only [gI_self, g_ne, hp, h24, nI_1]
              refine xG_c2 1 rfl (by repeat' (first | exact trivial | assumption | exact xob_b rfl | exact xal_b rfl | (apply And.intro) | decide)) rfl rfl (by decide) cw_X12_takes (d' := d - 1) (e_takes (c := 62) (rT_P hT hF3) k3 (by omega) (by omega)) (by omega) ?_
              rintro v M9 (⟨hc62, rfl, hM9⟩ | ⟨hc62, rfl, hM9⟩)
              all_goals subst M9
              · dsimp only [Option.toList, List.cons_append, List.nil_append]
                have hcm : isCm (chr T n (suX T n φ p).2.1) := Or.inr (Or.inl hc62)
                refine xG_brT rfl (by decide) ?_
                refine xG_run 1 rfl (by repeat' (first | exact trivial | assumption | exact xob_b rfl | exact xal_b rfl | (apply And.intro) | decide)) ?_
                try dsimp only [xsto1, xsto2, xkill, xget, xset, gd_0, gd_s]
                try simp (disch := omega) only [gI_self, g_ne, hp, h24, nI_1]
                refine xG_c2 0 rfl (by repeat' (first | exact trivial | assumption | exact xob_b rfl | exact xal_b rfl | (apply And.intro) | decide)) rfl rfl (by decide) cw_X12_readsSum (d' := d - 1) (e_rreadsSum (φ := φ) (p := (suX T n φ p).2.1 + 1) (rT_P (rT_P hT hF3) (rdP_i (Or.inl rfl))) (gI_self _ _ _ _) (by have := cm_lt hcm; omega) (by omega)) (by omega) ?_
                rintro v M5 ⟨rfl, k5, k245, hF5⟩
                have hbb := bl_1 (b := (suX T n φ ((suX T n φ p).2.1 + 1)).1)
                dsimp only [Option.toList, List.cons_append, List.nil_append]
                refine r2_z rfl rfl (by first | decide | assumption) ?_
                rw [if_neg hc33, if_neg h20] at e
                rw [e]
                rw [cpX_t1 ⟨hok3, hcm⟩]
                have hF6 := rdP_t hF3 (rdP_t (rdP_i (M := M3) (k := 12) (v := nI ((suX T n φ p).2.1 + 1)) (Or.inl rfl)) hF5)
                by_cases c9 : (suX T n φ ((suX T n φ p).2.1 + 1)).1 = true
                · rw [if_pos c9]
                  exact ⟨by rw [c9], k5, fun _ => k245.trans ((gI_ne (by omega)).trans (k243.trans h24)), hF6⟩
                · rw [if_neg c9]
                  exact ⟨by rw [Bool.eq_false_iff.mpr c9], k5, fun z => absurd (show false = true from z) (by decide), hF6⟩
              · dsimp only [Option.toList, List.cons_append, List.nil_append]
                refine xG_brF rfl (fun z => z rfl) ?_
                refine xG_run 2 rfl (by repeat' (first | exact trivial | assumption | exact xob_b rfl | exact xal_b rfl | (apply And.intro) | decide)) ?_
                try dsimp only [xsto1, xsto2, xkill, xget, xset, gd_0, gd_s]
                try simp (disch := omega) only [gI_self, g_ne, hp, h24, nI_1]
                refine xG_c2 1 rfl (by repeat' (first | exact trivial | assumption | exact xob_b rfl | exact xal_b rfl | (apply And.intro) | decide)) rfl rfl (by decide) cw_X12_takes (d' := d - 1) (e_takes (c := 61) (rT_P hT hF3) k3 (by omega) (by omega)) (by omega) ?_
                rintro v M9 (⟨hc61, rfl, hM9⟩ | ⟨hc61, rfl, hM9⟩)
                all_goals subst M9
                · dsimp only [Option.toList, List.cons_append, List.nil_append]
                  have hcm : isCm (chr T n (suX T n φ p).2.1) := Or.inr (Or.inr hc61)
                  refine xG_brT rfl (by decide) ?_
                  refine xG_run 1 rfl (by repeat' (first | exact trivial | assumption | exact xob_b rfl | exact xal_b rfl | (apply And.intro) | decide)) ?_
                  try dsimp only [xsto1, xsto2, xkill, xget, xset, gd_0, gd_s]
                  try simp (disch := omega) only [gI_self, g_ne, hp, h24, nI_1]
                  refine xG_c2 0 rfl (by repeat' (first | exact trivial | assumption | exact xob_b rfl | exact xal_b rfl | (apply And.intro) | decide)) rfl rfl (by decide) cw_X12_readsSum (d' := d - 1) (e_rreadsSum (φ := φ) (p := (suX T n φ p).2.1 + 1) (rT_P (rT_P hT hF3) (rdP_i (Or.inl rfl))) (gI_self _ _ _ _) (by have := cm_lt hcm; omega) (by omega)) (by omega) ?_
                  rintro v M5 ⟨rfl, k5, k245, hF5⟩
                  have hbb := bl_1 (b := (suX T n φ ((suX T n φ p).2.1 + 1)).1)
                  dsimp only [Option.toList, List.cons_append, List.nil_append]
                  refine r2_z rfl rfl (by first | decide | assumption) ?_
                  rw [if_neg hc33, if_neg h20] at e
                  rw [e]
                  rw [cpX_t1 ⟨hok3, hcm⟩]
                  have hF6 := rdP_t hF3 (rdP_t (rdP_i (M := M3) (k := 12) (v := nI ((suX T n φ p).2.1 + 1)) (Or.inl rfl)) hF5)
                  by_cases c9 : (suX T n φ ((suX T n φ p).2.1 + 1)).1 = true
                  · rw [if_pos c9]
                    exact ⟨by rw [c9], k5, fun _ => k245.trans ((gI_ne (by omega)).trans (k243.trans h24)), hF6⟩
                  · rw [if_neg c9]
                    exact ⟨by rw [Bool.eq_false_iff.mpr c9], k5, fun z => absurd (show false = true from z) (by decide), hF6⟩
                · dsimp only [Option.toList, List.cons_append, List.nil_append]
                  refine xG_brF rfl (fun z => z rfl) ?_
                  refine xG_run 1 rfl (by repeat' (first | exact trivial | assumption | exact xob_b rfl | exact xal_b rfl | (apply And.intro) | decide)) ?_
                  try dsimp only [xsto1, xsto2, xkill, xget, xset, gd_0, gd_s]
                  try simp (disch := omega) only [gI_self, g_ne, hp, h24, nI_1]
                  refine r2_z rfl rfl (by first | decide | assumption) ?_
                  rw [if_neg hc33, if_neg h20] at e
                  rw [e]
                  rw [cpX_f1 (fun z => z.2.elim hc60 (fun z => z.elim hc62 hc61))]
                  exact ⟨rfl, k3, fun z => absurd (show false = true from z) (by decide), hF3⟩
          · dsimp only [Option.toList, List.cons_append, List.nil_append]
            refine xG_brT rfl (rfl) ?_
            refine xG_run 1 rfl (by repeat' (first | exact trivial | assumption | exact xob_b rfl | exact xal_b rfl | (apply And.intro) | decide)) ?_
            try dsimp only [xsto1, xsto2, xkill, xget, xset, gd_0, gd_s]
            try simp (disch := omega) only [gI_self, g_ne, hp, h24, nI_1]
            refine r2_z rfl rfl (by first | decide | assumption) ?_
            rw [if_neg hc33, if_neg h20] at e
            rw [e]
            rw [cpX_f1 (by rw [hok3]; exact fun z => absurd z.1 (by decide))]
            exact ⟨rfl, k3, fun z => absurd (show false = true from z) (by decide), hF3⟩
        · have h20' : chr T n p = 40 := Decidable.not_not.mp h20
          have hp1 : p < n := chr_p h20' (by decide)
          refine xG_run 2 rfl (by repeat' (first | exact trivial | assumption | exact xob_b rfl | exact xal_b rfl | (apply And.intro) | decide)) ?_
          try dsimp only [xsto1, xsto2, xkill, xget, xset, gd_0, gd_s]
          try simp (disch := omega) only [gI_self, g_ne, hp, h24, nI_1]
          try simp only [h24]
          refine xG_run 1 rfl (by repeat' (first | exact trivial | assumption | exact xob_b rfl | exact xal_b rfl | (apply And.intro) | decide)) ?_
          try dsimp only [xsto1, xsto2, xkill, xget, xset, gd_0, gd_s]
          try simp (disch := omega) only [gI_self, g_ne, hp, h24, nI_1]
          refine xG_br rfl (fun h29 => ?_) (fun h29 => ?_)
          · have hk8 : ¬ k = 8 := fun q => h29 (by rw [q]; rfl)
            refine xG_run 8 rfl (by repeat' (first | exact trivial | assumption | exact xob_b rfl | exact xal_b rfl | (apply And.intro) | decide)) ?_
            try dsimp only [xsto1, xsto2, xkill, xget, xset, gd_0, gd_s]
            try simp (disch := omega) only [gI_self, g_ne, hp, h24, nI_1]
            refine xG_run 5 rfl (by repeat' (first | exact trivial | assumption | exact xob_b rfl | exact xal_b rfl | (apply And.intro) | decide)) ?_
            try dsimp only [xsto1, xsto2, xkill, xget, xset, gd_0, gd_s]
            try simp (disch := omega) only [gI_self, g_ne, hp, h24, nI_1]
            refine xG_c2 0 rfl (by repeat' (first | exact trivial | assumption | exact xob_b rfl | exact xal_b rfl | (apply And.intro) | decide)) rfl rfl (by decide) cw_X12_readsOr (d' := d - 1) (IH (3 * (n - (p + 1)) + 2) (by omega) 2 (k + 1) (p + 1) (d - 1) _ rfl (by omega) hp1 (by omega) (rT_P hT (rdP_t (rdP_i (Or.inl rfl)) (rdP_i (Or.inr rfl)))) ((gI_ne (by omega)).trans (gI_self _ _ _ _)) (gI_self _ _ _ _) (by omega)) (by omega) ?_
            rintro v M3 ⟨rfl, k3, k243, hF3⟩
            obtain ⟨y13, y23, y33⟩ := RX_b (T := T) (n := n) (φ := φ) (m := 2) (k := k + 1) (p := p + 1) (by omega)
            rcases Bool.eq_false_or_eq_true (RX T n φ 2 (k + 1) (p + 1)).1 with hok3 | hok3
            all_goals rw [hok3]
            · dsimp only [Option.toList, List.cons_append, List.nil_append]
              refine xG_brF rfl (by decide) ?_
              refine xG_run 2 rfl (by repeat' (first | exact trivial | assumption | exact xob_b rfl | exact xal_b rfl | (apply And.intro) | decide)) ?_
              try dsimp only [xsto1, xsto2, xkill, xget, xset, gd_0, gd_s]
              try simp (disch := omega) only [gI_self, g_ne, hp, h24, nI_1]
              refine xG_c2 1 rfl (by repeat' (first | exact trivial | assumption | exact xob_b rfl | exact xal_b rfl | (apply And.intro) | decide)) rfl rfl (by decide) cw_X12_takes (d' := d - 1) (e_takes (c := 41) (rT_P hT (rdP_t (rdP_t (rdP_i (Or.inl rfl)) (rdP_i (Or.inr rfl))) hF3)) k3 (by omega) (by omega)) (by omega) ?_
              rintro v M9 (⟨hc41, rfl, hM9⟩ | ⟨hc41, rfl, hM9⟩)
              all_goals subst M9
              · dsimp only [Option.toList, List.cons_append, List.nil_append]
                have h24q : gI M3 166 24 = nI (k + 1) := k243 hok3
                refine xG_brT rfl (by decide) ?_
                refine xG_run 7 rfl (by repeat' (first | exact trivial | assumption | exact xob_b rfl | exact xal_b rfl | (apply And.intro) | decide)) ?_
                try dsimp only [xsto1, xsto2, xkill, xget, xset, gd_0, gd_s]
                try simp (disch := omega) only [gI_self, g_ne, hp, h24, nI_1]
                refine r2_z rfl rfl (by first | decide | assumption) ?_
                rw [if_neg hc33, if_pos h20', if_neg hk8, if_pos hok3, if_pos hc41] at e
                rw [e]
                refine ⟨rfl, (gI_ne (by omega)).trans (gI_self _ _ _ _), fun _ => ?_, rdP_t (rdP_t (rdP_t (rdP_i (Or.inl rfl)) (rdP_i (Or.inr rfl))) hF3) (rdP_t (rdP_i (Or.inl rfl)) (rdP_i (Or.inr rfl)))⟩
                rw [gI_self]
                first
                  | rfl
                  | (rw [h24q]; exact nI_sb1 (by omega))
                  | (rw [gI_ne (by omega), h24q]; exact nI_sb1 (by omega))
              · dsimp only [Option.toList, List.cons_append, List.nil_append]
                refine xG_brF rfl (fun z => z rfl) ?_
                refine xG_run 1 rfl (by repeat' (first | exact trivial | assumption | exact xob_b rfl | exact xal_b rfl | (apply And.intro) | decide)) ?_
                try dsimp only [xsto1, xsto2, xkill, xget, xset, gd_0, gd_s]
                try simp (disch := omega) only [gI_self, g_ne, hp, h24, nI_1]
                refine r2_z rfl rfl (by first | decide | assumption) ?_
                rw [if_neg hc33, if_pos h20', if_neg hk8, if_pos hok3, if_neg hc41] at e
                rw [e]
                exact ⟨rfl, k3, fun z => absurd (show false = true from z) (by decide), rdP_t (rdP_t (rdP_i (Or.inl rfl)) (rdP_i (Or.inr rfl))) hF3⟩
            · dsimp only [Option.toList, List.cons_append, List.nil_append]
              refine xG_brT rfl (rfl) ?_
              refine xG_run 1 rfl (by repeat' (first | exact trivial | assumption | exact xob_b rfl | exact xal_b rfl | (apply And.intro) | decide)) ?_
              try dsimp only [xsto1, xsto2, xkill, xget, xset, gd_0, gd_s]
              try simp (disch := omega) only [gI_self, g_ne, hp, h24, nI_1]
              refine r2_z rfl rfl (by first | decide | assumption) ?_
              rw [if_neg hc33, if_pos h20', if_neg hk8, if_neg (by rw [hok3]; decide)] at e
              rw [e]
              exact ⟨rfl, k3, fun z => absurd (show false = true from z) (by decide), rdP_t (rdP_t (rdP_i (Or.inl rfl)) (rdP_i (Or.inr rfl))) hF3⟩
          · have hk8 : k = 8 := nI_injb (by omega) (by omega) (Decidable.not_not.mp h29).symm
            refine xG_run 1 rfl (by repeat' (first | exact trivial | assumption | exact xob_b rfl | exact xal_b rfl | (apply And.intro) | decide)) ?_
            try dsimp only [xsto1, xsto2, xkill, xget, xset, gd_0, gd_s]
            try simp (disch := omega) only [gI_self, g_ne, hp, h24, nI_1]
            refine r2_z rfl rfl (by first | decide | assumption) ?_
            rw [if_neg hc33, if_pos h20', if_pos hk8] at e
            rw [e]
            exact ⟨rfl, hp, fun z => absurd (show false = true from z) (by decide), rdP_r⟩
    · show xE2 κ mX12_readsAnd d [.ref 166] M _
      refine xE2_of ci_X12_readsAnd cl_X12_readsAnd cw_X12_readsAnd rfl (L := [some (.ref 166)]) rfl ?_
      have e := RX_s (T := T) (n := n) (φ := φ) (m := 0) (k := k) hpn
      have LP : ∀ (r q : Nat) (M2 : xM), n - q = r → q ≤ n → p ≤ q → rdP M M2 → gI M2 166 12 = nI q → gI M2 166 24 = nI k → (chr T n q = 38 → (RX T n φ 1 k p).1 = (RX T n φ 1 k (q + 1)).1 ∧ (RX T n φ 1 k p).2.1 = (RX T n φ 1 k (q + 1)).2.1) → (¬ chr T n q = 38 → (RX T n φ 1 k p).1 = true ∧ (RX T n φ 1 k p).2.1 = q) → xG κ mX12_readsAnd (d, 0, 0) (9, [some (.ref 166)], [], M2, z2) (xRet mX12_readsAnd false (fun v M' n' => n' = 182 ∧ (v = some (.int (bl2 (RX T n φ 1 k p).1)) ∧ gI M' 166 12 = nI (RX T n φ 1 k p).2.1 ∧ ((RX T n φ 1 k p).1 = true → gI M' 166 24 = nI k) ∧ rdP M M'))) := by
        intro r
        induction r using Nat.strongRecOn with
        | ind r IHl =>
          rintro q M2 rfl hq hpq hFq m3 m24 h1 h2
          refine xG_run 2 rfl (by repeat' (first | exact trivial | assumption | exact xob_b rfl | exact xal_b rfl | (apply And.intro) | decide)) ?_
          try dsimp only [xsto1, xsto2, xkill, xget, xset, gd_0, gd_s]
          refine xG_c2 1 rfl (by repeat' (first | exact trivial | assumption | exact xob_b rfl | exact xal_b rfl | (apply And.intro) | decide)) rfl rfl (by decide) cw_X12_takes (d' := d - 1) (e_takes (c := 38) (rT_P hT hFq) m3 (by omega) (by omega)) (by omega) ?_
          rintro v M9 (⟨hc38, rfl, hM9⟩ | ⟨hc38, rfl, hM9⟩)
          all_goals subst M9
          · dsimp only [Option.toList, List.cons_append, List.nil_append]
            have hqn : q < n := chr_p hc38 (by decide)
            have e2 := RX_s (T := T) (n := n) (φ := φ) (m := 0) (k := k) (p := q + 1) hqn
            refine xG_brF rfl (by decide) ?_
            refine xG_run 1 rfl (by repeat' (first | exact trivial | assumption | exact xob_b rfl | exact xal_b rfl | (apply And.intro) | decide)) ?_
            try dsimp only [xsto1, xsto2, xkill, xget, xset, gd_0, gd_s]
            refine xG_c2 0 rfl (by repeat' (first | exact trivial | assumption | exact xob_b rfl | exact xal_b rfl | (apply And.intro) | decide)) rfl rfl (by decide) cw_X12_readsTest (d' := d - 1) (IH (3 * (n - (q + 1)) + 0) (by omega) 0 (k) (q + 1) (d - 1) _ rfl (by omega) hqn hk (rT_P (rT_P hT hFq) (rdP_i (Or.inl rfl))) (gI_self _ _ _ _) ((gI_ne (by omega)).trans m24) (by omega)) (by omega) ?_
            rintro v M3 ⟨rfl, k3, k243, hF3⟩
            obtain ⟨y13, y23, y33⟩ := RX_b (T := T) (n := n) (φ := φ) (m := 0) (k := k) (p := q + 1) (by omega)
            rcases Bool.eq_false_or_eq_true (RX T n φ 0 (k) (q + 1)).1 with hok3 | hok3
            all_goals rw [hok3]
            · dsimp only [Option.toList, List.cons_append, List.nil_append]
              refine xG_brT rfl (by decide) ?_
              rw [if_pos hok3] at e2
              obtain ⟨g1, g2⟩ := h1 hc38
              refine IHl (n - (RX T n φ 0 k (q + 1)).2.1) (by have := y33 hok3; omega) (RX T n φ 0 k (q + 1)).2.1 M3 rfl y23 (by omega) (rdP_t hFq (rdP_t (rdP_i (Or.inl rfl)) hF3)) k3 (k243 hok3) (fun z => ?_) (fun z => ?_)
              · rw [if_pos (show _ = sgX 0 from z)] at e2
                rw [e2] at g1 g2
                exact ⟨g1, g2⟩
              · rw [if_neg (show ¬ _ = sgX 0 from z)] at e2
                rw [e2] at g1 g2
                exact ⟨g1.trans hok3, g2⟩
            · dsimp only [Option.toList, List.cons_append, List.nil_append]
              refine xG_brF rfl (fun z => z rfl) ?_
              refine xG_run 1 rfl (by repeat' (first | exact trivial | assumption | exact xob_b rfl | exact xal_b rfl | (apply And.intro) | decide)) ?_
              try dsimp only [xsto1, xsto2, xkill, xget, xset, gd_0, gd_s]
              refine r2_z rfl rfl (by first | decide | assumption) ?_
              rw [if_neg (by rw [hok3]; decide)] at e2
              obtain ⟨g1, g2⟩ := h1 hc38
              rw [e2] at g1 g2
              rw [g1, g2]
              exact ⟨rfl, k3, fun z => absurd (show false = true from z) (by decide), rdP_t hFq (rdP_t (rdP_i (Or.inl rfl)) hF3)⟩
          · dsimp only [Option.toList, List.cons_append, List.nil_append]
            refine xG_brT rfl (rfl) ?_
            refine xG_run 1 rfl (by repeat' (first | exact trivial | assumption | exact xob_b rfl | exact xal_b rfl | (apply And.intro) | decide)) ?_
            try dsimp only [xsto1, xsto2, xkill, xget, xset, gd_0, gd_s]
            refine r2_z rfl rfl (by first | decide | assumption) ?_
            obtain ⟨g1, g2⟩ := h2 hc38
            rw [g1, g2]
            exact ⟨rfl, m3, fun _ => m24, hFq⟩
      
      refine xG_run 1 rfl (by repeat' (first | exact trivial | assumption | exact xob_b rfl | exact xal_b rfl | (apply And.intro) | decide)) ?_
      try dsimp only [xsto1, xsto2, xkill, xget, xset, gd_0, gd_s]
      refine xG_c2 0 rfl (by repeat' (first | exact trivial | assumption | exact xob_b rfl | exact xal_b rfl | (apply And.intro) | decide)) rfl rfl (by decide) cw_X12_readsTest (d' := d - 1) (IH (3 * (n - (p)) + 0) (by omega) 0 (k) (p) (d - 1) _ rfl (by omega) hpn hk hT hp h24 (by omega)) (by omega) ?_
      rintro v M3 ⟨rfl, k3, k243, hF3⟩
      obtain ⟨y13, y23, y33⟩ := RX_b (T := T) (n := n) (φ := φ) (m := 0) (k := k) (p := p) (by omega)
      rcases Bool.eq_false_or_eq_true (RX T n φ 0 (k) (p)).1 with hok3 | hok3
      all_goals rw [hok3]
      · dsimp only [Option.toList, List.cons_append, List.nil_append]
        refine xG_brT rfl (by decide) ?_
        rw [if_pos hok3] at e
        refine LP _ (RX T n φ 0 k p).2.1 M3 rfl y23 (by omega) hF3 k3 (k243 hok3) (fun z => ?_) (fun z => ?_)
        · rw [if_pos (show _ = sgX 0 from z)] at e
          rw [e]
          exact ⟨rfl, rfl⟩
        · rw [if_neg (show ¬ _ = sgX 0 from z)] at e
          rw [e]
          exact ⟨hok3, rfl⟩
      · dsimp only [Option.toList, List.cons_append, List.nil_append]
        refine xG_brF rfl (fun z => z rfl) ?_
        refine xG_run 1 rfl (by repeat' (first | exact trivial | assumption | exact xob_b rfl | exact xal_b rfl | (apply And.intro) | decide)) ?_
        try dsimp only [xsto1, xsto2, xkill, xget, xset, gd_0, gd_s]
        refine r2_z rfl rfl (by first | decide | assumption) ?_
        rw [if_neg (by rw [hok3]; decide)] at e
        rw [e]
        exact ⟨rfl, k3, fun z => absurd (show false = true from z) (by decide), hF3⟩
    · show xE2 κ mX12_readsOr d [.ref 166] M _
      refine xE2_of ci_X12_readsOr cl_X12_readsOr cw_X12_readsOr rfl (L := [some (.ref 166)]) rfl ?_
      have e := RX_s (T := T) (n := n) (φ := φ) (m := 1) (k := k) hpn
      have LP : ∀ (r q : Nat) (M2 : xM), n - q = r → q ≤ n → p ≤ q → rdP M M2 → gI M2 166 12 = nI q → gI M2 166 24 = nI k → (chr T n q = 124 → (RX T n φ 2 k p).1 = (RX T n φ 2 k (q + 1)).1 ∧ (RX T n φ 2 k p).2.1 = (RX T n φ 2 k (q + 1)).2.1) → (¬ chr T n q = 124 → (RX T n φ 2 k p).1 = true ∧ (RX T n φ 2 k p).2.1 = q) → xG κ mX12_readsOr (d, 0, 0) (9, [some (.ref 166)], [], M2, z2) (xRet mX12_readsOr false (fun v M' n' => n' = 182 ∧ (v = some (.int (bl2 (RX T n φ 2 k p).1)) ∧ gI M' 166 12 = nI (RX T n φ 2 k p).2.1 ∧ ((RX T n φ 2 k p).1 = true → gI M' 166 24 = nI k) ∧ rdP M M'))) := by
        intro r
        induction r using Nat.strongRecOn with
        | ind r IHl =>
          rintro q M2 rfl hq hpq hFq m3 m24 h1 h2
          refine xG_run 2 rfl (by repeat' (first | exact trivial | assumption | exact xob_b rfl | exact xal_b rfl | (apply And.intro) | decide)) ?_
          try dsimp only [xsto1, xsto2, xkill, xget, xset, gd_0, gd_s]
          refine xG_c2 1 rfl (by repeat' (first | exact trivial | assumption | exact xob_b rfl | exact xal_b rfl | (apply And.intro) | decide)) rfl rfl (by decide) cw_X12_takes (d' := d - 1) (e_takes (c := 124) (rT_P hT hFq) m3 (by omega) (by omega)) (by omega) ?_
          rintro v M9 (⟨hc124, rfl, hM9⟩ | ⟨hc124, rfl, hM9⟩)
          all_goals subst M9
          · dsimp only [Option.toList, List.cons_append, List.nil_append]
            have hqn : q < n := chr_p hc124 (by decide)
            have e2 := RX_s (T := T) (n := n) (φ := φ) (m := 1) (k := k) (p := q + 1) hqn
            refine xG_brF rfl (by decide) ?_
            refine xG_run 1 rfl (by repeat' (first | exact trivial | assumption | exact xob_b rfl | exact xal_b rfl | (apply And.intro) | decide)) ?_
            try dsimp only [xsto1, xsto2, xkill, xget, xset, gd_0, gd_s]
            refine xG_c2 0 rfl (by repeat' (first | exact trivial | assumption | exact xob_b rfl | exact xal_b rfl | (apply And.intro) | decide)) rfl rfl (by decide) cw_X12_readsAnd (d' := d - 1) (IH (3 * (n - (q + 1)) + 1) (by omega) 1 (k) (q + 1) (d - 1) _ rfl (by omega) hqn hk (rT_P (rT_P hT hFq) (rdP_i (Or.inl rfl))) (gI_self _ _ _ _) ((gI_ne (by omega)).trans m24) (by omega)) (by omega) ?_
            rintro v M3 ⟨rfl, k3, k243, hF3⟩
            obtain ⟨y13, y23, y33⟩ := RX_b (T := T) (n := n) (φ := φ) (m := 1) (k := k) (p := q + 1) (by omega)
            rcases Bool.eq_false_or_eq_true (RX T n φ 1 (k) (q + 1)).1 with hok3 | hok3
            all_goals rw [hok3]
            · dsimp only [Option.toList, List.cons_append, List.nil_append]
              refine xG_brT rfl (by decide) ?_
              rw [if_pos hok3] at e2
              obtain ⟨g1, g2⟩ := h1 hc124
              refine IHl (n - (RX T n φ 1 k (q + 1)).2.1) (by have := y33 hok3; omega) (RX T n φ 1 k (q + 1)).2.1 M3 rfl y23 (by omega) (rdP_t hFq (rdP_t (rdP_i (Or.inl rfl)) hF3)) k3 (k243 hok3) (fun z => ?_) (fun z => ?_)
              · rw [if_pos (show _ = sgX 1 from z)] at e2
                rw [e2] at g1 g2
                exact ⟨g1, g2⟩
              · rw [if_neg (show ¬ _ = sgX 1 from z)] at e2
                rw [e2] at g1 g2
                exact ⟨g1.trans hok3, g2⟩
            · dsimp only [Option.toList, List.cons_append, List.nil_append]
              refine xG_brF rfl (fun z => z rfl) ?_
              refine xG_run 1 rfl (by repeat' (first | exact trivial | assumption | exact xob_b rfl | exact xal_b rfl | (apply And.intro) | decide)) ?_
              try dsimp only [xsto1, xsto2, xkill, xget, xset, gd_0, gd_s]
              refine r2_z rfl rfl (by first | decide | assumption) ?_
              rw [if_neg (by rw [hok3]; decide)] at e2
              obtain ⟨g1, g2⟩ := h1 hc124
              rw [e2] at g1 g2
              rw [g1, g2]
              exact ⟨rfl, k3, fun z => absurd (show false = true from z) (by decide), rdP_t hFq (rdP_t (rdP_i (Or.inl rfl)) hF3)⟩
          · dsimp only [Option.toList, List.cons_append, List.nil_append]
            refine xG_brT rfl (rfl) ?_
            refine xG_run 1 rfl (by repeat' (first | exact trivial | assumption | exact xob_b rfl | exact xal_b rfl | (apply And.intro) | decide)) ?_
            try dsimp only [xsto1, xsto2, xkill, xget, xset, gd_0, gd_s]
            refine r2_z rfl rfl (by first | decide | assumption) ?_
            obtain ⟨g1, g2⟩ := h2 hc124
            rw [g1, g2]
            exact ⟨rfl, m3, fun _ => m24, hFq⟩
      
      refine xG_run 1 rfl (by repeat' (first | exact trivial | assumption | exact xob_b rfl | exact xal_b rfl | (apply And.intro) | decide)) ?_
      try dsimp only [xsto1, xsto2, xkill, xget, xset, gd_0, gd_s]
      refine xG_c2 0 rfl (by repeat' (first | exact trivial | assumption | exact xob_b rfl | exact xal_b rfl | (apply And.intro) | decide)) rfl rfl (by decide) cw_X12_readsAnd (d' := d - 1) (IH (3 * (n - (p)) + 1) (by omega) 1 (k) (p) (d - 1) _ rfl (by omega) hpn hk hT hp h24 (by omega)) (by omega) ?_
      rintro v M3 ⟨rfl, k3, k243, hF3⟩
      obtain ⟨y13, y23, y33⟩ := RX_b (T := T) (n := n) (φ := φ) (m := 1) (k := k) (p := p) (by omega)
      rcases Bool.eq_false_or_eq_true (RX T n φ 1 (k) (p)).1 with hok3 | hok3
      all_goals rw [hok3]
      · dsimp only [Option.toList, List.cons_append, List.nil_append]
        refine xG_brT rfl (by decide) ?_
        rw [if_pos hok3] at e
        refine LP _ (RX T n φ 1 k p).2.1 M3 rfl y23 (by omega) hF3 k3 (k243 hok3) (fun z => ?_) (fun z => ?_)
        · rw [if_pos (show _ = sgX 1 from z)] at e
          rw [e]
          exact ⟨rfl, rfl⟩
        · rw [if_neg (show ¬ _ = sgX 1 from z)] at e
          rw [e]
          exact ⟨hok3, rfl⟩
      · dsimp only [Option.toList, List.cons_append, List.nil_append]
        refine xG_brF rfl (fun z => z rfl) ?_
        refine xG_run 1 rfl (by repeat' (first | exact trivial | assumption | exact xob_b rfl | exact xal_b rfl | (apply And.intro) | decide)) ?_
        try dsimp only [xsto1, xsto2, xkill, xget, xset, gd_0, gd_s]
        refine r2_z rfl rfl (by first | decide | assumption) ?_
        rw [if_neg (by rw [hok3]; decide)] at e
        rw [e]
        exact ⟨rfl, k3, fun z => absurd (show false = true from z) (by decide), hF3⟩
