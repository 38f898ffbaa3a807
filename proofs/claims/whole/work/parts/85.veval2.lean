/-! ===== the reference asks rules: tests, ands, ors ===== -/
noncomputable def mEv2 (m : Nat) : xMI := if m = 0 then mX12_test else if m = 1 then mX12_and else mX12_or
theorem cm_7 {c a b : Int32} (h : isCm c) (h2 : ¬ c = 60) (h3 : ¬ c = 62) : c = 61 := h.elim (fun z => absurd z h2) (fun z => z.elim (fun z => absurd z h3) id)
theorem e_evals {κ : xKK} {a b n : Nat} {T : Nat → Int32} {φ : Nat → Int32} {M0 : xM} (hFO : ∀ (d2 : Nat) (M2 : xM) (c : Int32), isFd c → rdP M0 M2 → 8 ≤ d2 → xE2 κ mX12_fieldOf d2 [.ref 166, .int c] M2 (fun v M' => v = some (.int (φ (fdX c))) ∧ M' = M2)) : ∀ (s m k p d : Nat) (M : xM), 3 * (n - p) + m = s → m ≤ 2 → p ≤ n → k ≤ 8 → rT M a b n T → gI M 166 12 = nI p → rdP M0 M → (RX T n φ m k p).1 = true → ¬ dgP (chr T n (RX T n φ m k p).2.1) → m + 3 * (8 - k) + (n - p) + 14 ≤ d → xE2 κ (mEv2 m) d [.ref 166] M (fun v M' => v = some (.int (bl2 (RX T n φ m k p).2.2)) ∧ gI M' 166 12 = nI (RX T n φ m k p).2.1 ∧ rdP M M') := by
  intro s
  induction s using Nat.strongRecOn with
  | ind s IH =>
    intro m k p d M hs hm hpn hk hT hp hM0 hok hnd hd
    have hn9 := hT.2.2.2.2.1
    rcases (show m = 0 ∨ m = 1 ∨ m = 2 by omega) with rfl | rfl | rfl
    · show xE2 κ mX12_test d [.ref 166] M _
      refine xE2_of ci_X12_test cl_X12_test cw_X12_test rfl (L := [some (.ref 166), none, none, none]) rfl ?_
      have e := RX_t (T := T) (n := n) (φ := φ) (k := k) hpn
      refine xG_run 2 rfl (by repeat' (first | exact trivial | assumption | exact xob_b rfl | exact xal_b rfl | (apply And.intro) | decide)) ?_
      try dsimp only [xsto1, xsto2, xkill, xget, xset, gd_0, gd_s]
      try simp (disch := omega) only [gI_self, g_ne, hp, nI_1, sI_sI]
      refine xG_c2 1 rfl (by repeat' (first | exact trivial | assumption | exact xob_b rfl | exact xal_b rfl | (apply And.intro) | decide)) rfl rfl (by decide) cw_X12_takes (d' := d - 1) (e_takes (c := 33) hT hp (by omega) (by omega)) (by omega) ?_
      rintro v M9 (⟨hc33, rfl, hM9⟩ | ⟨hc33, rfl, hM9⟩)
      all_goals subst M9
      · dsimp only [Option.toList, List.cons_append, List.nil_append]
        rw [if_pos hc33] at e
        have hp1 : p < n := chr_p hc33 (by decide)
        have hok1 : (RX T n φ 0 k (p + 1)).1 = true := by rw [e] at hok; exact hok
        have hnd1 : ¬ dgP (chr T n (RX T n φ 0 k (p + 1)).2.1) := by rw [e] at hnd; exact hnd
        refine xG_brF rfl (by decide) ?_
        refine xG_run 1 rfl (by repeat' (first | exact trivial | assumption | exact xob_b rfl | exact xal_b rfl | (apply And.intro) | decide)) ?_
        try dsimp only [xsto1, xsto2, xkill, xget, xset, gd_0, gd_s]
        try simp (disch := omega) only [gI_self, g_ne, hp, nI_1, sI_sI]
        refine xG_c2 0 rfl (by repeat' (first | exact trivial | assumption | exact xob_b rfl | exact xal_b rfl | (apply And.intro) | decide)) rfl rfl (by decide) cw_X12_test (d' := d - 1) (IH (3 * (n - (p + 1)) + 0) (by omega) 0 (k) (p + 1) (d - 1) _ rfl (by omega) hp1 hk (rT_P hT (rdP_i (Or.inl rfl))) (gI_self _ _ _ _) (rdP_t hM0 (rdP_i (Or.inl rfl))) hok1 hnd1 (by omega)) (by omega) ?_
        rintro v M3 ⟨rfl, k3, hF3⟩
        have hbb := bl_1 (b := (RX T n φ 0 (k) (p + 1)).2.2)
        dsimp only [Option.toList, List.cons_append, List.nil_append]
        refine xG_br rfl (fun h13 => ?_) (fun h13 => ?_)
        · refine xG_run 1 rfl (by repeat' (first | exact trivial | assumption | exact xob_b rfl | exact xal_b rfl | (apply And.intro) | decide)) ?_
          try dsimp only [xsto1, xsto2, xkill, xget, xset, gd_0, gd_s]
          try simp (disch := omega) only [gI_self, g_ne, hp, nI_1, sI_sI]
          refine r2_z rfl rfl (by first | decide | assumption) ?_
          rw [e]
          exact ⟨by show _ = some (Value.int (bl2 (!(RX T n φ 0 k (p + 1)).2.2))); rw [(bl_n.mp h13)]; rfl, k3, rdP_t (rdP_i (Or.inl rfl)) hF3⟩
        · refine xG_run 2 rfl (by repeat' (first | exact trivial | assumption | exact xob_b rfl | exact xal_b rfl | (apply And.intro) | decide)) ?_
          try dsimp only [xsto1, xsto2, xkill, xget, xset, gd_0, gd_s]
          try simp (disch := omega) only [gI_self, g_ne, hp, nI_1, sI_sI]
          refine r2_z rfl rfl (by first | decide | assumption) ?_
          rw [e]
          exact ⟨by show _ = some (Value.int (bl2 (!(RX T n φ 0 k (p + 1)).2.2))); rw [(bl_0.mp (Decidable.not_not.mp h13))]; rfl, k3, rdP_t (rdP_i (Or.inl rfl)) hF3⟩
      · dsimp only [Option.toList, List.cons_append, List.nil_append]
        refine xG_brT rfl (rfl) ?_
        refine xG_run 2 rfl (by repeat' (first | exact trivial | assumption | exact xob_b rfl | exact xal_b rfl | (apply And.intro) | decide)) ?_
        try dsimp only [xsto1, xsto2, xkill, xget, xset, gd_0, gd_s]
        try simp (disch := omega) only [gI_self, g_ne, hp, nI_1, sI_sI]
        refine xG_c2 1 rfl (by repeat' (first | exact trivial | assumption | exact xob_b rfl | exact xal_b rfl | (apply And.intro) | decide)) rfl rfl (by decide) cw_X12_takes (d' := d - 1) (e_takes (c := 40) hT hp (by omega) (by omega)) (by omega) ?_
        rintro v M9 (⟨hc40, rfl, hM9⟩ | ⟨hc40, rfl, hM9⟩)
        all_goals subst M9
        · dsimp only [Option.toList, List.cons_append, List.nil_append]
          rw [if_neg hc33, if_pos hc40] at e
          have hp1 : p < n := chr_p hc40 (by decide)
          have hk8 : ¬ k = 8 := fun z => by
            rw [e, if_pos z] at hok
            exact absurd (show false = true from hok) (by decide)
          rw [if_neg hk8] at e
          have hok1 : (RX T n φ 2 (k + 1) (p + 1)).1 = true := by
            by_cases c : (RX T n φ 2 (k + 1) (p + 1)).1 = true
            · exact c
            · rw [e, if_neg c] at hok
              exact absurd (show false = true from hok) (by decide)
          rw [if_pos hok1] at e
          have hc41 : chr T n (RX T n φ 2 (k + 1) (p + 1)).2.1 = 41 := by
            by_cases c : chr T n (RX T n φ 2 (k + 1) (p + 1)).2.1 = 41
            · exact c
            · rw [e, if_neg c] at hok
              exact absurd (show false = true from hok) (by decide)
          rw [if_pos hc41] at e
          have hnd1 : ¬ dgP (chr T n (RX T n φ 2 (k + 1) (p + 1)).2.1) := by rw [hc41]; decide
          refine xG_brF rfl (by decide) ?_
          refine xG_run 1 rfl (by repeat' (first | exact trivial | assumption | exact xob_b rfl | exact xal_b rfl | (apply And.intro) | decide)) ?_
          try dsimp only [xsto1, xsto2, xkill, xget, xset, gd_0, gd_s]
          try simp (disch := omega) only [gI_self, g_ne, hp, nI_1, sI_sI]
          refine xG_c2 0 rfl (by repeat' (first | exact trivial | assumption | exact xob_b rfl | exact xal_b rfl | (apply And.intro) | decide)) rfl rfl (by decide) cw_X12_or (d' := d - 1) (IH (3 * (n - (p + 1)) + 2) (by omega) 2 (k + 1) (p + 1) (d - 1) _ rfl (by omega) hp1 (by omega) (rT_P hT (rdP_i (Or.inl rfl))) (gI_self _ _ _ _) (rdP_t hM0 (rdP_i (Or.inl rfl))) hok1 hnd1 (by omega)) (by omega) ?_
          rintro v M3 ⟨rfl, k3, hF3⟩
          have hbb := bl_1 (b := (RX T n φ 2 (k + 1) (p + 1)).2.2)
          dsimp only [Option.toList, List.cons_append, List.nil_append]
          refine xG_run 8 rfl (by repeat' (first | exact trivial | assumption | exact xob_b rfl | exact xal_b rfl | (apply And.intro) | decide)) ?_
          try dsimp only [xsto1, xsto2, xkill, xget, xset, gd_0, gd_s]
          try simp (disch := omega) only [gI_self, g_ne, hp, nI_1, sI_sI]
          refine r2_z rfl rfl (by first | decide | assumption) ?_
          rw [e]
          exact ⟨rfl, (gI_self _ _ _ _).trans (by first | rfl | (rw [k3, nI_1])), rdP_t (rdP_i (Or.inl rfl)) (rdP_t hF3 (rdP_i (Or.inl rfl)))⟩
        · dsimp only [Option.toList, List.cons_append, List.nil_append]
          rw [if_neg hc33, if_neg hc40] at e
          have hcc : (suX T n φ p).1 = true ∧ isCm (chr T n (suX T n φ p).2.1) := by
            by_cases c : (suX T n φ p).1 = true ∧ isCm (chr T n (suX T n φ p).2.1)
            · exact c
            · rw [e, cpX_f1 c] at hok
              exact absurd (show false = true from hok) (by decide)
          rw [cpX_t1 hcc] at e
          have hs2 : (suX T n φ ((suX T n φ p).2.1 + 1)).1 = true := by
            by_cases c : (suX T n φ ((suX T n φ p).2.1 + 1)).1 = true
            · exact c
            · rw [e, if_neg c] at hok
              exact absurd (show false = true from hok) (by decide)
          rw [if_pos hs2] at e
          have hq1 : (suX T n φ p).2.1 < n := cm_lt hcc.2
          have hnds : ¬ dgP (chr T n (suX T n φ p).2.1) := cm_nd hcc.2
          have hnd2 : ¬ dgP (chr T n (suX T n φ ((suX T n φ p).2.1 + 1)).2.1) := by rw [e] at hnd; exact hnd
          refine xG_brT rfl (rfl) ?_
          refine xG_run 1 rfl (by repeat' (first | exact trivial | assumption | exact xob_b rfl | exact xal_b rfl | (apply And.intro) | decide)) ?_
          try dsimp only [xsto1, xsto2, xkill, xget, xset, gd_0, gd_s]
          try simp (disch := omega) only [gI_self, g_ne, hp, nI_1, sI_sI]
          refine xG_c2 0 rfl (by repeat' (first | exact trivial | assumption | exact xob_b rfl | exact xal_b rfl | (apply And.intro) | decide)) rfl rfl (by decide) cw_X12_sum (d' := d - 1) (e_esum (p := p) hT hp hpn hFO hM0 hcc.1 hnds (by omega)) (by omega) ?_
          rintro v M3 ⟨rfl, k3, hF3⟩
          dsimp only [Option.toList, List.cons_append, List.nil_append]
          refine xG_run 2 rfl (by repeat' (first | exact trivial | assumption | exact xob_b rfl | exact xal_b rfl | (apply And.intro) | decide)) ?_
          try dsimp only [xsto1, xsto2, xkill, xget, xset, gd_0, gd_s]
          try simp (disch := omega) only [gI_self, g_ne, hp, nI_1, sI_sI]
          refine xG_c2 0 rfl (by repeat' (first | exact trivial | assumption | exact xob_b rfl | exact xal_b rfl | (apply And.intro) | decide)) rfl rfl (by decide) cw_X12_sign (d' := d - 1) (e_sign (rT_P hT hF3) k3 (by omega)) (by omega) ?_
          rintro v M' ⟨rfl, hM⟩
          subst M'
          dsimp only [Option.toList, List.cons_append, List.nil_append]
          refine xG_run 4 rfl (by repeat' (first | exact trivial | assumption | exact xob_b rfl | exact xal_b rfl | (apply And.intro) | decide)) ?_
          try dsimp only [xsto1, xsto2, xkill, xget, xset, gd_0, gd_s]
          try simp (disch := omega) only [gI_self, g_ne, hp, nI_1, sI_sI]
          try rw [k3]
          refine xG_run 2 rfl (by repeat' (first | exact trivial | assumption | exact xob_b rfl | exact xal_b rfl | (apply And.intro) | decide)) ?_
          try dsimp only [xsto1, xsto2, xkill, xget, xset, gd_0, gd_s]
          try simp (disch := omega) only [gI_self, g_ne, hp, nI_1, sI_sI]
          try rw [nI_1]
          refine xG_run 1 rfl (by repeat' (first | exact trivial | assumption | exact xob_b rfl | exact xal_b rfl | (apply And.intro) | decide)) ?_
          try dsimp only [xsto1, xsto2, xkill, xget, xset, gd_0, gd_s]
          try simp (disch := omega) only [gI_self, g_ne, hp, nI_1, sI_sI]
          try (have hp5 : gI (sI M3 166 12 (nI ((suX T n φ p).2.1 + 1))) 166 12 = nI ((suX T n φ p).2.1 + 1) := gI_self _ _ _ _)
          refine xG_run 1 rfl (by repeat' (first | exact trivial | assumption | exact xob_b rfl | exact xal_b rfl | (apply And.intro) | decide)) ?_
          try dsimp only [xsto1, xsto2, xkill, xget, xset, gd_0, gd_s]
          try simp (disch := omega) only [gI_self, g_ne, hp, nI_1, sI_sI]
          refine xG_c2 0 rfl (by repeat' (first | exact trivial | assumption | exact xob_b rfl | exact xal_b rfl | (apply And.intro) | decide)) rfl rfl (by decide) cw_X12_sum (d' := d - 1) (e_esum (p := (suX T n φ p).2.1 + 1) (rT_P (rT_P hT hF3) (rdP_i (Or.inl rfl))) hp5 hq1 hFO (rdP_t hM0 (rdP_t hF3 (rdP_i (Or.inl rfl)))) hs2 hnd2 (by omega)) (by omega) ?_
          rintro v M5 ⟨rfl, k5, hF5⟩
          dsimp only [Option.toList, List.cons_append, List.nil_append]
          refine xG_run 3 rfl (by repeat' (first | exact trivial | assumption | exact xob_b rfl | exact xal_b rfl | (apply And.intro) | decide)) ?_
          try dsimp only [xsto1, xsto2, xkill, xget, xset, gd_0, gd_s]
          try simp (disch := omega) only [gI_self, g_ne, hp, nI_1, sI_sI]
          refine xG_br rfl (fun h76 => ?_) (fun h76 => ?_)
          · refine xG_run 2 rfl (by repeat' (first | exact trivial | assumption | exact xob_b rfl | exact xal_b rfl | (apply And.intro) | decide)) ?_
            try dsimp only [xsto1, xsto2, xkill, xget, xset, gd_0, gd_s]
            try simp (disch := omega) only [gI_self, g_ne, hp, nI_1, sI_sI]
            refine xG_br rfl (fun h95 => ?_) (fun h95 => ?_)
            · refine xG_run 2 rfl (by repeat' (first | exact trivial | assumption | exact xob_b rfl | exact xal_b rfl | (apply And.intro) | decide)) ?_
              try dsimp only [xsto1, xsto2, xkill, xget, xset, gd_0, gd_s]
              try simp (disch := omega) only [gI_self, g_ne, hp, nI_1, sI_sI]
              refine xG_br rfl (fun h113 => ?_) (fun h113 => ?_)
              · refine xG_run 1 rfl (by repeat' (first | exact trivial | assumption | exact xob_b rfl | exact xal_b rfl | (apply And.intro) | decide)) ?_
                try dsimp only [xsto1, xsto2, xkill, xget, xset, gd_0, gd_s]
                try simp (disch := omega) only [gI_self, g_ne, hp, nI_1, sI_sI]
                refine r2_z rfl rfl (by first | decide | assumption) ?_
                rw [e]
                exact ⟨(cm2 (cm_7 (a := 0) (b := 0) hcc.2 h76 h95) h113), k5, rdP_t hF3 (rdP_t (rdP_i (Or.inl rfl)) hF5)⟩
              · refine xG_run 2 rfl (by repeat' (first | exact trivial | assumption | exact xob_b rfl | exact xal_b rfl | (apply And.intro) | decide)) ?_
                try dsimp only [xsto1, xsto2, xkill, xget, xset, gd_0, gd_s]
                try simp (disch := omega) only [gI_self, g_ne, hp, nI_1, sI_sI]
                refine r2_z rfl rfl (by first | decide | assumption) ?_
                rw [e]
                exact ⟨(cm1 (cm_7 (a := 0) (b := 0) hcc.2 h76 h95) (Decidable.not_not.mp h113)), k5, rdP_t hF3 (rdP_t (rdP_i (Or.inl rfl)) hF5)⟩
            · refine xG_run 2 rfl (by repeat' (first | exact trivial | assumption | exact xob_b rfl | exact xal_b rfl | (apply And.intro) | decide)) ?_
              try dsimp only [xsto1, xsto2, xkill, xget, xset, gd_0, gd_s]
              try simp (disch := omega) only [gI_self, g_ne, hp, nI_1, sI_sI]
              refine xG_br rfl (fun h100 => ?_) (fun h100 => ?_)
              · refine xG_run 2 rfl (by repeat' (first | exact trivial | assumption | exact xob_b rfl | exact xal_b rfl | (apply And.intro) | decide)) ?_
                try dsimp only [xsto1, xsto2, xkill, xget, xset, gd_0, gd_s]
                try simp (disch := omega) only [gI_self, g_ne, hp, nI_1, sI_sI]
                refine r2_z rfl rfl (by first | decide | assumption) ?_
                rw [e]
                exact ⟨(cm6 (by rw [Decidable.not_not.mp h95]; decide) h76 (Int32.not_lt.mpr h100)), k5, rdP_t hF3 (rdP_t (rdP_i (Or.inl rfl)) hF5)⟩
              · refine xG_run 2 rfl (by repeat' (first | exact trivial | assumption | exact xob_b rfl | exact xal_b rfl | (apply And.intro) | decide)) ?_
                try dsimp only [xsto1, xsto2, xkill, xget, xset, gd_0, gd_s]
                try simp (disch := omega) only [gI_self, g_ne, hp, nI_1, sI_sI]
                refine r2_z rfl rfl (by first | decide | assumption) ?_
                rw [e]
                exact ⟨(cm5 (by rw [Decidable.not_not.mp h95]; decide) h76 (Int32.not_le.mp h100)), k5, rdP_t hF3 (rdP_t (rdP_i (Or.inl rfl)) hF5)⟩
          · refine xG_run 2 rfl (by repeat' (first | exact trivial | assumption | exact xob_b rfl | exact xal_b rfl | (apply And.intro) | decide)) ?_
            try dsimp only [xsto1, xsto2, xkill, xget, xset, gd_0, gd_s]
            try simp (disch := omega) only [gI_self, g_ne, hp, nI_1, sI_sI]
            refine xG_br rfl (fun h81 => ?_) (fun h81 => ?_)
            · refine xG_run 2 rfl (by repeat' (first | exact trivial | assumption | exact xob_b rfl | exact xal_b rfl | (apply And.intro) | decide)) ?_
              try dsimp only [xsto1, xsto2, xkill, xget, xset, gd_0, gd_s]
              try simp (disch := omega) only [gI_self, g_ne, hp, nI_1, sI_sI]
              refine r2_z rfl rfl (by first | decide | assumption) ?_
              rw [e]
              exact ⟨(cm4 (by rw [Decidable.not_not.mp h76]; decide) (Decidable.not_not.mp h76) (Int32.not_lt.mpr h81)), k5, rdP_t hF3 (rdP_t (rdP_i (Or.inl rfl)) hF5)⟩
            · refine xG_run 2 rfl (by repeat' (first | exact trivial | assumption | exact xob_b rfl | exact xal_b rfl | (apply And.intro) | decide)) ?_
              try dsimp only [xsto1, xsto2, xkill, xget, xset, gd_0, gd_s]
              try simp (disch := omega) only [gI_self, g_ne, hp, nI_1, sI_sI]
              refine r2_z rfl rfl (by first | decide | assumption) ?_
              rw [e]
              exact ⟨(cm3 (by rw [Decidable.not_not.mp h76]; decide) (Decidable.not_not.mp h76) (Int32.not_le.mp h81)), k5, rdP_t hF3 (rdP_t (rdP_i (Or.inl rfl)) hF5)⟩
    · show xE2 κ mX12_and d [.ref 166] M _
      refine xE2_of ci_X12_and cl_X12_and cw_X12_and rfl (L := [some (.ref 166), none, none]) rfl ?_
      have e := RX_s (T := T) (n := n) (φ := φ) (m := 0) (k := k) hpn
      obtain ⟨y1, y2, y3⟩ := RX_b (T := T) (n := n) (φ := φ) (m := 0) (k := k) hpn
      have hok0 : (RX T n φ 0 k p).1 = true := by
        by_cases c : (RX T n φ 0 k p).1 = true
        · exact c
        · rw [e, if_neg c] at hok
          exact absurd (show false = true from hok) (by decide)
      rw [if_pos hok0] at e
      have hnd0 : ¬ dgP (chr T n (RX T n φ 0 k p).2.1) := by
        by_cases c : chr T n (RX T n φ 0 k p).2.1 = sgX 0
        · rw [c]; decide
        · rw [e, if_neg c] at hnd
          exact hnd
      have LP : ∀ (r q : Nat) (ac : Bool) (z : Int32) (x2 : Option Value) (M2 : xM), n - q = r → q ≤ n → p ≤ q → gI M2 166 12 = nI q → rdP M M2 → z = bl2 ac → (chr T n q = 38 → (RX T n φ 1 k (q + 1)).1 = true ∧ (RX T n φ 1 k p).2.1 = (RX T n φ 1 k (q + 1)).2.1 ∧ (RX T n φ 1 k p).2.2 = (ac && (RX T n φ 1 k (q + 1)).2.2)) → (¬ chr T n q = 38 → (RX T n φ 1 k p).2.1 = q ∧ (RX T n φ 1 k p).2.2 = ac) → xG κ mX12_and (d, 0, 0) (5, [some (.ref 166), some (.int z), x2], [], M2, z2) (xRet mX12_and false (fun v M' n' => n' = 182 ∧ (v = some (.int (bl2 (RX T n φ 1 k p).2.2)) ∧ gI M' 166 12 = nI (RX T n φ 1 k p).2.1 ∧ rdP M M'))) := by
        intro r
        induction r using Nat.strongRecOn with
        | ind r IHl =>
          rintro q ac z x2 M2 rfl hq hpq m3 hF rfl h1 h2
          have hbb9 := bl_1 (b := ac)
          refine xG_run 2 rfl (by repeat' (first | exact trivial | assumption | exact xob_b rfl | exact xal_b rfl | (apply And.intro) | decide)) ?_
          try dsimp only [xsto1, xsto2, xkill, xget, xset, gd_0, gd_s]
          refine xG_c2 1 rfl (by repeat' (first | exact trivial | assumption | exact xob_b rfl | exact xal_b rfl | (apply And.intro) | decide)) rfl rfl (by decide) cw_X12_takes (d' := d - 1) (e_takes (c := 38) (rT_P hT hF) m3 (by omega) (by omega)) (by omega) ?_
          rintro v M9 (⟨hc38, rfl, hM9⟩ | ⟨hc38, rfl, hM9⟩)
          all_goals subst M9
          · dsimp only [Option.toList, List.cons_append, List.nil_append]
            have hqn : q < n := chr_p hc38 (by decide)
            have e2 := RX_s (T := T) (n := n) (φ := φ) (m := 0) (k := k) (p := q + 1) hqn
            obtain ⟨g0, g1, g2⟩ := h1 hc38
            obtain ⟨y1, y2, y3⟩ := RX_b (T := T) (n := n) (φ := φ) (m := 0) (k := k) (p := q + 1) hqn
            have hok3 : (RX T n φ 0 k (q + 1)).1 = true := by
              by_cases c : (RX T n φ 0 k (q + 1)).1 = true
              · exact c
              · rw [e2, if_neg c] at g0
                exact absurd (show false = true from g0) (by decide)
            rw [if_pos hok3] at e2
            have hnd3 : ¬ dgP (chr T n (RX T n φ 0 k (q + 1)).2.1) := by
              by_cases c : chr T n (RX T n φ 0 k (q + 1)).2.1 = sgX 0
              · rw [c]; decide
              · rw [if_neg c] at e2
                rw [e2] at g1
                rw [← g1]; exact hnd
            refine xG_brF rfl (by decide) ?_
            refine xG_run 1 rfl (by repeat' (first | exact trivial | assumption | exact xob_b rfl | exact xal_b rfl | (apply And.intro) | decide)) ?_
            try dsimp only [xsto1, xsto2, xkill, xget, xset, gd_0, gd_s]
            refine xG_c2 0 rfl (by repeat' (first | exact trivial | assumption | exact xob_b rfl | exact xal_b rfl | (apply And.intro) | decide)) rfl rfl (by decide) cw_X12_test (d' := d - 1) (IH (3 * (n - (q + 1)) + 0) (by omega) 0 (k) (q + 1) (d - 1) _ rfl (by omega) hqn hk (rT_P (rT_P hT hF) (rdP_i (Or.inl rfl))) (gI_self _ _ _ _) (rdP_t hM0 (rdP_t hF (rdP_i (Or.inl rfl)))) hok3 hnd3 (by omega)) (by omega) ?_
            rintro v M3 ⟨rfl, k3, hF3⟩
            have hbb := bl_1 (b := (RX T n φ 0 (k) (q + 1)).2.2)
            dsimp only [Option.toList, List.cons_append, List.nil_append]
            refine xG_run 2 rfl (by repeat' (first | exact trivial | assumption | exact xob_b rfl | exact xal_b rfl | (apply And.intro) | decide)) ?_
            try dsimp only [xsto1, xsto2, xkill, xget, xset, gd_0, gd_s]
            refine xG_br rfl (fun h20 => ?_) (fun h20 => ?_)
            · refine xG_run 3 rfl (by repeat' (first | exact trivial | assumption | exact xob_b rfl | exact xal_b rfl | (apply And.intro) | decide)) ?_
              try dsimp only [xsto1, xsto2, xkill, xget, xset, gd_0, gd_s]
              refine IHl (n - (RX T n φ 0 k (q + 1)).2.1) (by have := y3 hok3; omega) (RX T n φ 0 k (q + 1)).2.1 (ac && (RX T n φ 0 k (q + 1)).2.2) _ _ M3 rfl y2 (by omega) k3 (rdP_t hF (rdP_t (rdP_i (Or.inl rfl)) hF3)) (by rw [bl_0.mp h20]; rfl) (fun z => ?_) (fun z => ?_)
              · rw [if_pos (show _ = sgX 0 from z)] at e2
                rw [e2] at g0 g1 g2
                refine ⟨g0, g1, ?_⟩
                rw [g2]
                show (ac && ((RX T n φ 0 k (q + 1)).2.2 && _)) = _
                rw [Bool.and_assoc]
              · rw [if_neg (show ¬ _ = sgX 0 from z)] at e2
                rw [e2] at g1 g2
                exact ⟨g1, g2⟩
            · refine xG_run 1 rfl (by repeat' (first | exact trivial | assumption | exact xob_b rfl | exact xal_b rfl | (apply And.intro) | decide)) ?_
              try dsimp only [xsto1, xsto2, xkill, xget, xset, gd_0, gd_s]
              refine xG_br rfl (fun h24 => ?_) (fun h24 => ?_)
              · refine xG_run 3 rfl (by repeat' (first | exact trivial | assumption | exact xob_b rfl | exact xal_b rfl | (apply And.intro) | decide)) ?_
                try dsimp only [xsto1, xsto2, xkill, xget, xset, gd_0, gd_s]
                refine IHl (n - (RX T n φ 0 k (q + 1)).2.1) (by have := y3 hok3; omega) (RX T n φ 0 k (q + 1)).2.1 (ac && (RX T n φ 0 k (q + 1)).2.2) _ _ M3 rfl y2 (by omega) k3 (rdP_t hF (rdP_t (rdP_i (Or.inl rfl)) hF3)) (by rw [bl_0.mp h24, Bool.and_false]; rfl) (fun z => ?_) (fun z => ?_)
                · rw [if_pos (show _ = sgX 0 from z)] at e2
                  rw [e2] at g0 g1 g2
                  refine ⟨g0, g1, ?_⟩
                  rw [g2]
                  show (ac && ((RX T n φ 0 k (q + 1)).2.2 && _)) = _
                  rw [Bool.and_assoc]
                · rw [if_neg (show ¬ _ = sgX 0 from z)] at e2
                  rw [e2] at g1 g2
                  exact ⟨g1, g2⟩
              · refine xG_run 4 rfl (by repeat' (first | exact trivial | assumption | exact xob_b rfl | exact xal_b rfl | (apply And.intro) | decide)) ?_
                try dsimp only [xsto1, xsto2, xkill, xget, xset, gd_0, gd_s]
                refine IHl (n - (RX T n φ 0 k (q + 1)).2.1) (by have := y3 hok3; omega) (RX T n φ 0 k (q + 1)).2.1 (ac && (RX T n φ 0 k (q + 1)).2.2) _ _ M3 rfl y2 (by omega) k3 (rdP_t hF (rdP_t (rdP_i (Or.inl rfl)) hF3)) (by rw [bl_n.mp h20, bl_n.mp h24]; rfl) (fun z => ?_) (fun z => ?_)
                · rw [if_pos (show _ = sgX 0 from z)] at e2
                  rw [e2] at g0 g1 g2
                  refine ⟨g0, g1, ?_⟩
                  rw [g2]
                  show (ac && ((RX T n φ 0 k (q + 1)).2.2 && _)) = _
                  rw [Bool.and_assoc]
                · rw [if_neg (show ¬ _ = sgX 0 from z)] at e2
                  rw [e2] at g1 g2
                  exact ⟨g1, g2⟩
          · dsimp only [Option.toList, List.cons_append, List.nil_append]
            refine xG_brT rfl (rfl) ?_
            refine xG_run 1 rfl (by repeat' (first | exact trivial | assumption | exact xob_b rfl | exact xal_b rfl | (apply And.intro) | decide)) ?_
            try dsimp only [xsto1, xsto2, xkill, xget, xset, gd_0, gd_s]
            refine r2_z rfl rfl (by first | decide | assumption) ?_
            obtain ⟨g1, g2⟩ := h2 hc38
            rw [g1, g2]
            exact ⟨rfl, m3, hF⟩
      
      refine xG_run 1 rfl (by repeat' (first | exact trivial | assumption | exact xob_b rfl | exact xal_b rfl | (apply And.intro) | decide)) ?_
      try dsimp only [xsto1, xsto2, xkill, xget, xset, gd_0, gd_s]
      refine xG_c2 0 rfl (by repeat' (first | exact trivial | assumption | exact xob_b rfl | exact xal_b rfl | (apply And.intro) | decide)) rfl rfl (by decide) cw_X12_test (d' := d - 1) (IH (3 * (n - (p)) + 0) (by omega) 0 (k) (p) (d - 1) _ rfl (by omega) hpn hk hT hp hM0 hok0 hnd0 (by omega)) (by omega) ?_
      rintro v M3 ⟨rfl, k3, hF3⟩
      have hbb := bl_1 (b := (RX T n φ 0 (k) (p)).2.2)
      dsimp only [Option.toList, List.cons_append, List.nil_append]
      refine xG_run 1 rfl (by repeat' (first | exact trivial | assumption | exact xob_b rfl | exact xal_b rfl | (apply And.intro) | decide)) ?_
      try dsimp only [xsto1, xsto2, xkill, xget, xset, gd_0, gd_s]
      refine LP _ (RX T n φ 0 k p).2.1 (RX T n φ 0 k p).2.2 _ _ M3 rfl y2 (by omega) k3 hF3 rfl (fun z => ?_) (fun z => ?_)
      · rw [if_pos (show _ = sgX 0 from z)] at e
        rw [e] at hok ⊢
        exact ⟨hok, rfl, rfl⟩
      · rw [if_neg (show ¬ _ = sgX 0 from z)] at e
        rw [e]
        exact ⟨rfl, rfl⟩
    · show xE2 κ mX12_or d [.ref 166] M _
      refine xE2_of ci_X12_or cl_X12_or cw_X12_or rfl (L := [some (.ref 166), none, none]) rfl ?_
      have e := RX_s (T := T) (n := n) (φ := φ) (m := 1) (k := k) hpn
      obtain ⟨y1, y2, y3⟩ := RX_b (T := T) (n := n) (φ := φ) (m := 1) (k := k) hpn
      have hok0 : (RX T n φ 1 k p).1 = true := by
        by_cases c : (RX T n φ 1 k p).1 = true
        · exact c
        · rw [e, if_neg c] at hok
          exact absurd (show false = true from hok) (by decide)
      rw [if_pos hok0] at e
      have hnd0 : ¬ dgP (chr T n (RX T n φ 1 k p).2.1) := by
        by_cases c : chr T n (RX T n φ 1 k p).2.1 = sgX 1
        · rw [c]; decide
        · rw [e, if_neg c] at hnd
          exact hnd
      have LP : ∀ (r q : Nat) (ac : Bool) (z : Int32) (x2 : Option Value) (M2 : xM), n - q = r → q ≤ n → p ≤ q → gI M2 166 12 = nI q → rdP M M2 → z = bl2 ac → (chr T n q = 124 → (RX T n φ 2 k (q + 1)).1 = true ∧ (RX T n φ 2 k p).2.1 = (RX T n φ 2 k (q + 1)).2.1 ∧ (RX T n φ 2 k p).2.2 = (ac || (RX T n φ 2 k (q + 1)).2.2)) → (¬ chr T n q = 124 → (RX T n φ 2 k p).2.1 = q ∧ (RX T n φ 2 k p).2.2 = ac) → xG κ mX12_or (d, 0, 0) (5, [some (.ref 166), some (.int z), x2], [], M2, z2) (xRet mX12_or false (fun v M' n' => n' = 182 ∧ (v = some (.int (bl2 (RX T n φ 2 k p).2.2)) ∧ gI M' 166 12 = nI (RX T n φ 2 k p).2.1 ∧ rdP M M'))) := by
        intro r
        induction r using Nat.strongRecOn with
        | ind r IHl =>
          rintro q ac z x2 M2 rfl hq hpq m3 hF rfl h1 h2
          have hbb9 := bl_1 (b := ac)
          refine xG_run 2 rfl (by repeat' (first | exact trivial | assumption | exact xob_b rfl | exact xal_b rfl | (apply And.intro) | decide)) ?_
          try dsimp only [xsto1, xsto2, xkill, xget, xset, gd_0, gd_s]
          refine xG_c2 1 rfl (by repeat' (first | exact trivial | assumption | exact xob_b rfl | exact xal_b rfl | (apply And.intro) | decide)) rfl rfl (by decide) cw_X12_takes (d' := d - 1) (e_takes (c := 124) (rT_P hT hF) m3 (by omega) (by omega)) (by omega) ?_
          rintro v M9 (⟨hc124, rfl, hM9⟩ | ⟨hc124, rfl, hM9⟩)
          all_goals subst M9
          · dsimp only [Option.toList, List.cons_append, List.nil_append]
            have hqn : q < n := chr_p hc124 (by decide)
            have e2 := RX_s (T := T) (n := n) (φ := φ) (m := 1) (k := k) (p := q + 1) hqn
            obtain ⟨g0, g1, g2⟩ := h1 hc124
            obtain ⟨y1, y2, y3⟩ := RX_b (T := T) (n := n) (φ := φ) (m := 1) (k := k) (p := q + 1) hqn
            have hok3 : (RX T n φ 1 k (q + 1)).1 = true := by
              by_cases c : (RX T n φ 1 k (q + 1)).1 = true
              · exact c
              · rw [e2, if_neg c] at g0
                exact absurd (show false = true from g0) (by decide)
            rw [if_pos hok3] at e2
            have hnd3 : ¬ dgP (chr T n (RX T n φ 1 k (q + 1)).2.1) := by
              by_cases c : chr T n (RX T n φ 1 k (q + 1)).2.1 = sgX 1
              · rw [c]; decide
              · rw [if_neg c] at e2
                rw [e2] at g1
                rw [← g1]; exact hnd
            refine xG_brF rfl (by decide) ?_
            refine xG_run 1 rfl (by repeat' (first | exact trivial | assumption | exact xob_b rfl | exact xal_b rfl | (apply And.intro) | decide)) ?_
            try dsimp only [xsto1, xsto2, xkill, xget, xset, gd_0, gd_s]
            refine xG_c2 0 rfl (by repeat' (first | exact trivial | assumption | exact xob_b rfl | exact xal_b rfl | (apply And.intro) | decide)) rfl rfl (by decide) cw_X12_and (d' := d - 1) (IH (3 * (n - (q + 1)) + 1) (by omega) 1 (k) (q + 1) (d - 1) _ rfl (by omega) hqn hk (rT_P (rT_P hT hF) (rdP_i (Or.inl rfl))) (gI_self _ _ _ _) (rdP_t hM0 (rdP_t hF (rdP_i (Or.inl rfl)))) hok3 hnd3 (by omega)) (by omega) ?_
            rintro v M3 ⟨rfl, k3, hF3⟩
            have hbb := bl_1 (b := (RX T n φ 1 (k) (q + 1)).2.2)
            dsimp only [Option.toList, List.cons_append, List.nil_append]
            refine xG_run 2 rfl (by repeat' (first | exact trivial | assumption | exact xob_b rfl | exact xal_b rfl | (apply And.intro) | decide)) ?_
            try dsimp only [xsto1, xsto2, xkill, xget, xset, gd_0, gd_s]
            refine xG_br rfl (fun h20 => ?_) (fun h20 => ?_)
            · refine xG_run 4 rfl (by repeat' (first | exact trivial | assumption | exact xob_b rfl | exact xal_b rfl | (apply And.intro) | decide)) ?_
              try dsimp only [xsto1, xsto2, xkill, xget, xset, gd_0, gd_s]
              refine IHl (n - (RX T n φ 1 k (q + 1)).2.1) (by have := y3 hok3; omega) (RX T n φ 1 k (q + 1)).2.1 (ac || (RX T n φ 1 k (q + 1)).2.2) _ _ M3 rfl y2 (by omega) k3 (rdP_t hF (rdP_t (rdP_i (Or.inl rfl)) hF3)) (by rw [bl_n.mp h20]; rfl) (fun z => ?_) (fun z => ?_)
              · rw [if_pos (show _ = sgX 1 from z)] at e2
                rw [e2] at g0 g1 g2
                refine ⟨g0, g1, ?_⟩
                rw [g2]
                show (ac || ((RX T n φ 1 k (q + 1)).2.2 || _)) = _
                rw [Bool.or_assoc]
              · rw [if_neg (show ¬ _ = sgX 1 from z)] at e2
                rw [e2] at g1 g2
                exact ⟨g1, g2⟩
            · refine xG_run 1 rfl (by repeat' (first | exact trivial | assumption | exact xob_b rfl | exact xal_b rfl | (apply And.intro) | decide)) ?_
              try dsimp only [xsto1, xsto2, xkill, xget, xset, gd_0, gd_s]
              refine xG_br rfl (fun h24 => ?_) (fun h24 => ?_)
              · refine xG_run 3 rfl (by repeat' (first | exact trivial | assumption | exact xob_b rfl | exact xal_b rfl | (apply And.intro) | decide)) ?_
                try dsimp only [xsto1, xsto2, xkill, xget, xset, gd_0, gd_s]
                refine IHl (n - (RX T n φ 1 k (q + 1)).2.1) (by have := y3 hok3; omega) (RX T n φ 1 k (q + 1)).2.1 (ac || (RX T n φ 1 k (q + 1)).2.2) _ _ M3 rfl y2 (by omega) k3 (rdP_t hF (rdP_t (rdP_i (Or.inl rfl)) hF3)) (by rw [bl_0.mp (Decidable.not_not.mp h20), bl_0.mp h24]; rfl) (fun z => ?_) (fun z => ?_)
                · rw [if_pos (show _ = sgX 1 from z)] at e2
                  rw [e2] at g0 g1 g2
                  refine ⟨g0, g1, ?_⟩
                  rw [g2]
                  show (ac || ((RX T n φ 1 k (q + 1)).2.2 || _)) = _
                  rw [Bool.or_assoc]
                · rw [if_neg (show ¬ _ = sgX 1 from z)] at e2
                  rw [e2] at g1 g2
                  exact ⟨g1, g2⟩
              · refine xG_run 4 rfl (by repeat' (first | exact trivial | assumption | exact xob_b rfl | exact xal_b rfl | (apply And.intro) | decide)) ?_
                try dsimp only [xsto1, xsto2, xkill, xget, xset, gd_0, gd_s]
                refine IHl (n - (RX T n φ 1 k (q + 1)).2.1) (by have := y3 hok3; omega) (RX T n φ 1 k (q + 1)).2.1 (ac || (RX T n φ 1 k (q + 1)).2.2) _ _ M3 rfl y2 (by omega) k3 (rdP_t hF (rdP_t (rdP_i (Or.inl rfl)) hF3)) (by rw [bl_n.mp h24, Bool.or_true]; rfl) (fun z => ?_) (fun z => ?_)
                · rw [if_pos (show _ = sgX 1 from z)] at e2
                  rw [e2] at g0 g1 g2
                  refine ⟨g0, g1, ?_⟩
                  rw [g2]
                  show (ac || ((RX T n φ 1 k (q + 1)).2.2 || _)) = _
                  rw [Bool.or_assoc]
                · rw [if_neg (show ¬ _ = sgX 1 from z)] at e2
                  rw [e2] at g1 g2
                  exact ⟨g1, g2⟩
          · dsimp only [Option.toList, List.cons_append, List.nil_append]
            refine xG_brT rfl (rfl) ?_
            refine xG_run 1 rfl (by repeat' (first | exact trivial | assumption | exact xob_b rfl | exact xal_b rfl | (apply And.intro) | decide)) ?_
            try dsimp only [xsto1, xsto2, xkill, xget, xset, gd_0, gd_s]
            refine r2_z rfl rfl (by first | decide | assumption) ?_
            obtain ⟨g1, g2⟩ := h2 hc124
            rw [g1, g2]
            exact ⟨rfl, m3, hF⟩
      
      refine xG_run 1 rfl (by repeat' (first | exact trivial | assumption | exact xob_b rfl | exact xal_b rfl | (apply And.intro) | decide)) ?_
      try dsimp only [xsto1, xsto2, xkill, xget, xset, gd_0, gd_s]
      refine xG_c2 0 rfl (by repeat' (first | exact trivial | assumption | exact xob_b rfl | exact xal_b rfl | (apply And.intro) | decide)) rfl rfl (by decide) cw_X12_and (d' := d - 1) (IH (3 * (n - (p)) + 1) (by omega) 1 (k) (p) (d - 1) _ rfl (by omega) hpn hk hT hp hM0 hok0 hnd0 (by omega)) (by omega) ?_
      rintro v M3 ⟨rfl, k3, hF3⟩
      have hbb := bl_1 (b := (RX T n φ 1 (k) (p)).2.2)
      dsimp only [Option.toList, List.cons_append, List.nil_append]
      refine xG_run 1 rfl (by repeat' (first | exact trivial | assumption | exact xob_b rfl | exact xal_b rfl | (apply And.intro) | decide)) ?_
      try dsimp only [xsto1, xsto2, xkill, xget, xset, gd_0, gd_s]
      refine LP _ (RX T n φ 1 k p).2.1 (RX T n φ 1 k p).2.2 _ _ M3 rfl y2 (by omega) k3 hF3 rfl (fun z => ?_) (fun z => ?_)
      · rw [if_pos (show _ = sgX 1 from z)] at e
        rw [e] at hok ⊢
        exact ⟨hok, rfl, rfl⟩
      · rw [if_neg (show ¬ _ = sgX 1 from z)] at e
        rw [e]
        exact ⟨rfl, rfl⟩
