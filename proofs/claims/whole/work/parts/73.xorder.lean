/-! order of the class -/
theorem kFr_op {M M' : xM} (h : opF M M') : kFr M M' := ⟨fun x k q => h.1 x k (by omega), fun x k _ => h.2.1 x k, fun x k q => h.2.2 x k (by omega)⟩
theorem kFr_fo {M M' : xM} (h : foF M M') : kFr M M' := ⟨fun x k q => h.1 x k (by omega), fun x k _ => h.2.1 x k, fun x k _ => h.2.2 x k⟩
theorem LN_0 {R M4 M5 : xM} {np nr ng U mo : Nat} {t mp : Int32} (hm4 : mR M4 28 R 167 np nr ng) (hBL : BL M4 0 (nI U) np nr) (hp4 : gJ M4 123 5 = cPs M4 np) (hF : opF M4 M5) (hO : opn M4 M5 U nr t) : LN R np nr ng U mo t mp (sI (sI M5 136 5 (nI mo)) 136 6 mp) := by
  have hn2 := hm4.1.1
  have hr2 := hm4.1.2.1
  have e : ∀ x k, x < 123 → gI (sI (sI M5 136 5 (nI mo)) 136 6 mp) x k = gI M4 x k := fun x k q => (gI_ne (by omega)).trans ((gI_ne (by omega)).trans (hF.1 x k (by omega)))
  have eb : ∀ x k, x = 123 → gI (sI (sI M5 136 5 (nI mo)) 136 6 mp) x k = gI M4 x k := fun x k q => (gI_ne (by omega)).trans ((gI_ne (by omega)).trans (hF.1 x k (by omega)))
  have hq : ∀ r, r < nr → gI M4 (43 + r) 4 = rr R r 4 := fun r hr => (r_q hm4 hr).1 4 (by omega)
  refine ⟨⟨_, mR_C hm4 (fun k hk => e _ _ (by omega)) (fun k => e _ _ (by omega)) (fun k => e _ _ (by omega)) (fun p k hp => e _ _ (by omega)) (fun r k hr => e _ _ (by omega)), fun _ _ _ => rfl⟩, ⟨(gI_ne (by omega)).trans ((gI_ne (by omega)).trans hO.1), (gI_ne (by omega)).trans ((gI_ne (by omega)).trans hO.2.1), (gI_ne (by omega)).trans (gI_self _ _ _ _), gI_self _ _ _ _⟩, fun r hr hb => ?_, ?_, ?_, fun r hr _ => (e _ _ (by omega)).trans (hq r hr)⟩
  · obtain ⟨b1, b2, b3⟩ := hO.2.2 r hr hb
    exact ⟨b1, (gI_ne (by omega)).trans ((gI_ne (by omega)).trans b2), (gI_ne (by omega)).trans ((gI_ne (by omega)).trans (b3.trans (hq r hr)))⟩
  · exact BL_u hBL hn2 hr2 (fun i k hi _ => e _ _ (by omega)) (fun i k hi _ => e _ _ (by omega)) (e _ _ (by omega)) ⟨eb _ _ rfl, eb _ _ rfl⟩ (fun t => hF.2.1 _ _) (fun k => ⟨hF.2.2 _ _ (by omega), hF.2.2 _ _ (by omega)⟩)
  · show gJ M5 123 5 = _
    rw [hF.2.1, hp4]
    exact (cPs_c hn2 (fun i k hi => e _ _ (by omega)) (fun k => e _ _ (by omega)) (fun k => e _ _ (by omega))).symm
set_option maxRecDepth 4000 in
theorem e_x_order {κ : xKK} {d : Nat} {M : xM} {np nr ng : Nat} {R : xM} (hm : mR M 1 R 167 np nr ng) (hj0 : gJ R 166 18 = 0) {x t ml mp : Int32} (hd : 10 ≤ d) : xE2 κ mX11_order d [.ref 0, .int x, .int t, .int ml, .int mp] M (fun v M' => ((∃ U, gO R nr x t ml mp U ∧ ((∃ w, Ord (oQ R np nr U t ml mp) U 0 w ∧ v = some (.long w)) ∨ (¬ Can (oQ R np nr U t ml mp) U ∧ v = some (.long (-4))))) ∨ (¬ (∃ U, gO R nr x t ml mp U) ∧ v = some (.long (-1)))) ∧ kFr M M') := by
  refine xE2_of ci_X11_order cl_X11_order cw_X11_order rfl (L := [some (.ref 0), some (.int x), some (.int t), some (.int ml), some (.int mp)]) rfl ?_
  have hn := hm.2.1.1
  have hn2 := hm.1.1
  have hr := hm.2.2.1.1
  have hr2 := hm.1.2.1
  have hsh : ∀ i, i < np → 0 ≤ (cSh M 1 (6 + i)).toInt ∧ (cSh M 1 (6 + i)).toInt < 5 := fun i hi => r_sh hm hi
  have hL : stN (cAll M 1 np nr) 300 = rSt R np nr := q_St hm hj0 (by omega)
  have hj0c : gJ R 166 18 = 0 := hj0
  have hm2 : mR (tkM M 28 1) 28 R 167 np nr ng := mR_tk (by omega) hm
  refine xG_run 2 rfl (by repeat' (first | exact trivial | assumption | exact xob_b rfl | exact xal_b rfl | (apply And.intro) | decide)) ?_
  try dsimp only [xsto1, xsto2, xkill, xget, xset, gd_0, gd_s]
  refine xG_c2 1 rfl (by repeat' (first | exact trivial | assumption | exact xob_b rfl | exact xal_b rfl | (apply And.intro) | decide)) rfl rfl (by decide) cw_X11_isSetToRedraw (d' := d - 1) (e_isSetToRedraw hm hj0 (by omega)) (by omega) ?_
  rintro v M1 ⟨⟨hrw, rfl⟩ | ⟨hrw, rfl⟩, hM⟩ <;> subst M1
  · dsimp only [Option.toList, List.cons_append, List.nil_append]
    obtain ⟨U, ⟨rfl, hU1, hUn⟩, h0, hb6⟩ := hrw
    refine xG_brF rfl (by decide) ?_
    refine xG_run 1 rfl (by repeat' (first | exact trivial | assumption | exact xob_b rfl | exact xal_b rfl | (apply And.intro) | decide)) ?_
    try dsimp only [xsto1, xsto2, xkill, xget, xset, gd_0, gd_s]
    refine xG_br rfl (fun h9 => ?_) (fun h9 => ?_)
    · refine xG_run 1 rfl (by repeat' (first | exact trivial | assumption | exact xob_b rfl | exact xal_b rfl | (apply And.intro) | decide)) ?_
      try dsimp only [xsto1, xsto2, xkill, xget, xset, gd_0, gd_s]
      refine r2_l rfl rfl ?_
      exact ⟨Or.inr ⟨fun ⟨U9, q⟩ => absurd q.2.1.1 (Int32.not_le.mpr h9), rfl⟩, kFr_r⟩
    · refine xG_run 2 rfl (by repeat' (first | exact trivial | assumption | exact xob_b rfl | exact xal_b rfl | (apply And.intro) | decide)) ?_
      try dsimp only [xsto1, xsto2, xkill, xget, xset, gd_0, gd_s]
      refine xG_br rfl (fun h16 => ?_) (fun h16 => ?_)
      · refine xG_run 1 rfl (by repeat' (first | exact trivial | assumption | exact xob_b rfl | exact xal_b rfl | (apply And.intro) | decide)) ?_
        try dsimp only [xsto1, xsto2, xkill, xget, xset, gd_0, gd_s]
        refine xG_br rfl (fun h24 => ?_) (fun h24 => ?_)
        · refine xG_run 1 rfl (by repeat' (first | exact trivial | assumption | exact xob_b rfl | exact xal_b rfl | (apply And.intro) | decide)) ?_
          try dsimp only [xsto1, xsto2, xkill, xget, xset, gd_0, gd_s]
          refine r2_l rfl rfl ?_
          exact ⟨Or.inr ⟨fun ⟨U9, q⟩ => absurd q.2.2.1.1 (Int32.not_le.mpr h24), rfl⟩, kFr_r⟩
        · refine xG_run 2 rfl (by repeat' (first | exact trivial | assumption | exact xob_b rfl | exact xal_b rfl | (apply And.intro) | decide)) ?_
          try dsimp only [xsto1, xsto2, xkill, xget, xset, gd_0, gd_s]
          refine xG_br rfl (fun h31 => ?_) (fun h31 => ?_)
          · refine xG_run 1 rfl (by repeat' (first | exact trivial | assumption | exact xob_b rfl | exact xal_b rfl | (apply And.intro) | decide)) ?_
            try dsimp only [xsto1, xsto2, xkill, xget, xset, gd_0, gd_s]
            refine r2_l rfl rfl ?_
            exact ⟨Or.inr ⟨fun ⟨U9, q⟩ => absurd q.2.2.1.2 (Int32.not_le.mpr h31), rfl⟩, kFr_r⟩
          · refine xG_run 2 rfl (by repeat' (first | exact trivial | assumption | exact xob_b rfl | exact xal_b rfl | (apply And.intro) | decide)) ?_
            try dsimp only [xsto1, xsto2, xkill, xget, xset, gd_0, gd_s]
            refine xG_br rfl (fun h37 => ?_) (fun h37 => ?_)
            · refine xG_run 1 rfl (by repeat' (first | exact trivial | assumption | exact xob_b rfl | exact xal_b rfl | (apply And.intro) | decide)) ?_
              try dsimp only [xsto1, xsto2, xkill, xget, xset, gd_0, gd_s]
              refine r2_l rfl rfl ?_
              exact ⟨Or.inr ⟨fun ⟨U9, q⟩ => absurd q.2.2.2.1.1 (Int32.not_le.mpr h37), rfl⟩, kFr_r⟩
            · refine xG_run 2 rfl (by repeat' (first | exact trivial | assumption | exact xob_b rfl | exact xal_b rfl | (apply And.intro) | decide)) ?_
              try dsimp only [xsto1, xsto2, xkill, xget, xset, gd_0, gd_s]
              refine xG_br rfl (fun h45 => ?_) (fun h45 => ?_)
              · obtain ⟨mo, hmo3, rfl⟩ := nI_of3 (n := 300) (Int32.not_lt.mp h24) (Int32.not_lt.mp h31) (by omega)
                have ht9 : nr3 0 999 t := ⟨by have := Int32.not_lt.mp h9; rw [Int32.le_iff_toInt_le] at this; exact this, lI (k := 999) h16 (by omega)⟩
                have hpw : 2 ^ nr ≤ 4096 := Nat.pow_le_pow_right (n := 2) (by omega) (show nr ≤ 12 from hr2)
                have hU4 : U < 4096 := Nat.lt_of_lt_of_le hUn hpw
                have hbk : bK U nr ≤ 6 := Nat.le_trans (bK_mono U hr2) (by rw [bK_n hU4]; exact hb6)
                have hg : gO R nr (nI U) t (nI mo) mp U := ⟨⟨rfl, hU1, hUn⟩, ⟨Int32.not_lt.mp h9, h16⟩, ⟨Int32.not_lt.mp h24, Int32.not_lt.mp h31⟩, ⟨Int32.not_lt.mp h37, h45⟩, h0, hb6⟩
                refine xG_run 4 rfl (by repeat' (first | exact trivial | assumption | exact xob_b rfl | exact xal_b rfl | (apply And.intro) | decide)) ?_
                try dsimp only [xsto1, xsto2, xkill, xget, xset, gd_0, gd_s]
                refine xG_c2 1 rfl (by repeat' (first | exact trivial | assumption | exact xob_b rfl | exact xal_b rfl | (apply And.intro) | decide)) rfl rfl (by decide) cw_X1_takeFrom (d' := d - 1) (e_take28_1 (by omega)) (by omega) ?_
                rintro v M9 ⟨rfl, hM9⟩
                subst M9
                dsimp only [Option.toList, List.cons_append, List.nil_append]
                refine xG_run 6 rfl (by repeat' (first | exact trivial | assumption | exact xob_b rfl | exact xal_b rfl | (apply And.intro) | decide)) ?_
                try dsimp only [xsto1, xsto2, xkill, xget, xset, gd_0, gd_s]
                refine xG_c2 3 rfl (by repeat' (first | exact trivial | assumption | exact xob_b rfl | exact xal_b rfl | (apply And.intro) | decide)) rfl rfl (by decide) cw_X0_load (d' := d - 1) (e_load28 (np := np) (nr := nr) hm2.2.1.1 hn2 hm2.2.2.1.1 hr2 (fun i hi => r_sh hm2 hi) (by omega)) (by omega) ?_
                rintro v M4 ⟨pl, rl, c, e, rfl, hg9, -, -, hs, ht, hB4, hp4, hB5⟩
                have hBL := BL_ld hn2 hr2 hg9 hs ht hB4 hB5
                have hm4 : mR M4 28 R 167 np nr ng := mR_C hm2 (fun k hk => hB4.1 _ _ (by omega)) (fun k => hB4.1 _ _ (by omega)) (fun k => hB4.1 _ _ (by omega)) (fun p k hp => hB4.1 _ _ (by omega)) (fun r k hr => hB4.1 _ _ (by omega))
                have hp4 : gJ M4 123 5 = cPs M4 np := hp4.trans (cPs_c (M := tkM M 28 1) (M' := M4) hn2 (fun i k hi => hB4.1 _ _ (by omega)) (fun k => hB4.1 _ _ (by omega)) (fun k => hB4.1 _ _ (by omega))).symm
                dsimp only [Option.toList, List.cons_append, List.nil_append]
                refine xG_run 6 rfl (by repeat' (first | exact trivial | assumption | exact xob_b rfl | exact xal_b rfl | (apply And.intro) | decide)) ?_
                try dsimp only [xsto1, xsto2, xkill, xget, xset, gd_0, gd_s]
                refine xG_c2 3 rfl (by repeat' (first | exact trivial | assumption | exact xob_b rfl | exact xal_b rfl | (apply And.intro) | decide)) rfl rfl (by decide) cw_X4_open (d' := d - 1) (e_xopen4 (nr := nr) hm4.2.2.1.1 hr2 hbk) (by omega) ?_
                rintro v M5 ⟨rfl, hF5, hO5⟩
                dsimp only [Option.toList, List.cons_append, List.nil_append]
                refine xG_run 4 rfl (by repeat' (first | exact trivial | assumption | exact xob_b rfl | exact xal_b rfl | (apply And.intro) | decide)) ?_
                try dsimp only [xsto1, xsto2, xkill, xget, xset, gd_0, gd_s]
                refine xG_c2 2 rfl (by repeat' (first | exact trivial | assumption | exact xob_b rfl | exact xal_b rfl | (apply And.intro) | decide)) rfl rfl (by decide) cw_X4_setMarks (d' := d - 1) e_setMarks (by omega) ?_
                rintro v M6 ⟨rfl, hM⟩
                subst M6
                dsimp only [Option.toList, List.cons_append, List.nil_append]
                refine xG_run 6 rfl (by repeat' (first | exact trivial | assumption | exact xob_b rfl | exact xal_b rfl | (apply And.intro) | decide)) ?_
                try dsimp only [xsto1, xsto2, xkill, xget, xset, gd_0, gd_s]
                refine xG_c2 2 rfl (by repeat' (first | exact trivial | assumption | exact xob_b rfl | exact xal_b rfl | (apply And.intro) | decide)) rfl rfl (by decide) cw_X4_firstOrder (d' := d - 1) (e_firstOrder (LN_0 hm4 hBL hp4 hF5 hO5) hj0c ht9 hbk hUn (by omega) h0 (by omega)) (by omega) ?_
                rintro v M7 ⟨hv, hF7⟩
                obtain ⟨w, rfl, hv⟩ : ∃ w, v = some (.long w) ∧ ((∃ w', Ord (oQ R np nr U t (nI mo) mp) U 0 w' ∧ some (Value.long w) = some (.long w')) ∨ (¬ Can (oQ R np nr U t (nI mo) mp) U ∧ some (Value.long w) = some (.long (-4)))) := by
                  rcases hv with ⟨w, h1, rfl⟩ | ⟨h1, rfl⟩
                  · exact ⟨w, rfl, Or.inl ⟨w, h1, rfl⟩⟩
                  · exact ⟨_, rfl, Or.inr ⟨h1, rfl⟩⟩
                dsimp only [Option.toList, List.cons_append, List.nil_append]
                refine r2_l rfl rfl ?_
                exact ⟨Or.inl ⟨U, hg, hv⟩, kFr_t (kFr_t kFr_tk (kFr_b hB4)) (kFr_t (kFr_t (kFr_op hF5) (kFr_t (kFr_i (by omega)) (kFr_i (by omega)))) (kFr_fo hF7))⟩
              · refine xG_run 1 rfl (by repeat' (first | exact trivial | assumption | exact xob_b rfl | exact xal_b rfl | (apply And.intro) | decide)) ?_
                try dsimp only [xsto1, xsto2, xkill, xget, xset, gd_0, gd_s]
                refine r2_l rfl rfl ?_
                exact ⟨Or.inr ⟨fun ⟨U9, q⟩ => h45 q.2.2.2.1.2, rfl⟩, kFr_r⟩
      · refine xG_run 1 rfl (by repeat' (first | exact trivial | assumption | exact xob_b rfl | exact xal_b rfl | (apply And.intro) | decide)) ?_
        try dsimp only [xsto1, xsto2, xkill, xget, xset, gd_0, gd_s]
        refine r2_l rfl rfl ?_
        exact ⟨Or.inr ⟨fun ⟨U9, q⟩ => h16 q.2.1.2, rfl⟩, kFr_r⟩
  · dsimp only [Option.toList, List.cons_append, List.nil_append]
    refine xG_brT rfl (by decide) ?_
    refine xG_run 1 rfl (by repeat' (first | exact trivial | assumption | exact xob_b rfl | exact xal_b rfl | (apply And.intro) | decide)) ?_
    try dsimp only [xsto1, xsto2, xkill, xget, xset, gd_0, gd_s]
    refine r2_l rfl rfl ?_
    exact ⟨Or.inr ⟨fun ⟨U9, q⟩ => hrw ⟨U9, q.1, q.2.2.2.2.1, q.2.2.2.2.2⟩, rfl⟩, kFr_r⟩
