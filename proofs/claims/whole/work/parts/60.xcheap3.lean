set_option maxRecDepth 4000 in
theorem e_x_cheapest {κ : xKK} {d : Nat} {M : xM} {np nr ng : Nat} {R : xM} (hm : mR M 1 R 167 np nr ng) (hj0 : gJ R 166 18 = 0) {no : Nat} (ho : oR M 71 R 167 nr no) (hz : ∀ j, j < 8 → ∃ z, z ≤ 120 ∧ gI M (142 + 3 * j) 3 = nI z) {i mk w : Int32} (hd : 7 ≤ d) : xE2 κ mX11_cheapest d [.ref 0, .int i, .int mk, .int w] M (fun v M' => ((∃ j, j < 8 ∧ i = nI j ∧ knC mk w ∧ v = some (.int (cheC M R np nr no j mk w))) ∨ (¬ ((∃ j, j < 8 ∧ i = nI j) ∧ knC mk w) ∧ v = some (.int (-1)))) ∧ kFr M M') := by
  refine xE2_of ci_X11_cheapest cl_X11_cheapest cw_X11_cheapest rfl (L := [some (.ref 0), some (.int i), some (.int mk), some (.int w), none, none, none, none, none, none, none, none]) rfl ?_
  have hn := hm.2.1.1
  have hn2 := hm.1.1
  have hr := hm.2.2.1.1
  have hr2 := hm.1.2.1
  have hsh : ∀ i, i < np → 0 ≤ (cSh M 1 (6 + i)).toInt ∧ (cSh M 1 (6 + i)).toInt < 5 := fun i hi => r_sh hm hi
  have hL : stN (cAll M 1 np nr) 300 = rSt R np nr := q_St hm hj0 (by omega)
  have hj0c : gJ R 166 18 = 0 := hj0
  have hm2 : mR (tkM M 28 1) 28 R 167 np nr ng := mR_tk (by omega) hm
  have ho3 : oR (tkM M 28 1) 71 R 167 nr no := oR_k ho kFr_tk
  refine xG_run 2 rfl (by repeat' (first | exact trivial | assumption | exact xob_b rfl | exact xal_b rfl | (apply And.intro) | decide)) ?_
  try dsimp only [xsto1, xsto2, xkill, xget, xset, gd_0, gd_s]
  refine xG_c2 1 rfl (by repeat' (first | exact trivial | assumption | exact xob_b rfl | exact xal_b rfl | (apply And.intro) | decide)) rfl rfl (by decide) cw_X11_shelfAt (d' := d - 1) e_shelfAt (by omega) ?_
  rintro v M' ⟨hv, hM⟩
  subst M'
  rcases hv with ⟨rfl, hno⟩ | ⟨j, hj, hij, rfl⟩
  · dsimp only [Option.toList, List.cons_append, List.nil_append]
    refine xG_run 2 rfl (by repeat' (first | exact trivial | assumption | exact xob_b rfl | exact xal_b rfl | (apply And.intro) | decide)) ?_
    try dsimp only [xsto1, xsto2, xkill, xget, xset, gd_0, gd_s]
    refine xG_br rfl (fun h8 => ?_) (fun h8 => ?_)
    · have hk0 : ¬ knC mk w := fun q => absurd (Int32.lt_of_lt_of_le h8 q.1.1) (Int32.lt_irrefl)
      refine xG_run 3 rfl (by repeat' (first | exact trivial | assumption | exact xob_b rfl | exact xal_b rfl | (apply And.intro) | decide)) ?_
      try dsimp only [xsto1, xsto2, xkill, xget, xset, gd_0, gd_s]
      refine xG_brT rfl (by decide) ?_
      refine xG_run 5 rfl (by repeat' (first | exact trivial | assumption | exact xob_b rfl | exact xal_b rfl | (apply And.intro) | decide)) ?_
      try dsimp only [xsto1, xsto2, xkill, xget, xset, gd_0, gd_s]
      refine r2_i rfl rfl ?_
      exact ⟨Or.inr ⟨fun q => hk0 q.2, rfl⟩, kFr_r⟩
    · have hmk1 : 0 ≤ mk := Int32.not_lt.mp h8
      refine xG_run 2 rfl (by repeat' (first | exact trivial | assumption | exact xob_b rfl | exact xal_b rfl | (apply And.intro) | decide)) ?_
      try dsimp only [xsto1, xsto2, xkill, xget, xset, gd_0, gd_s]
      refine xG_br rfl (fun h15 => ?_) (fun h15 => ?_)
      · have hk0 : ¬ knC mk w := fun q => absurd (Int32.lt_of_lt_of_le h15 q.1.2) (Int32.lt_irrefl)
        refine xG_run 3 rfl (by repeat' (first | exact trivial | assumption | exact xob_b rfl | exact xal_b rfl | (apply And.intro) | decide)) ?_
        try dsimp only [xsto1, xsto2, xkill, xget, xset, gd_0, gd_s]
        refine xG_brT rfl (by decide) ?_
        refine xG_run 5 rfl (by repeat' (first | exact trivial | assumption | exact xob_b rfl | exact xal_b rfl | (apply And.intro) | decide)) ?_
        try dsimp only [xsto1, xsto2, xkill, xget, xset, gd_0, gd_s]
        refine r2_i rfl rfl ?_
        exact ⟨Or.inr ⟨fun q => hk0 q.2, rfl⟩, kFr_r⟩
      · have hmk2 : mk ≤ 300 := Int32.not_lt.mp h15
        refine xG_run 1 rfl (by repeat' (first | exact trivial | assumption | exact xob_b rfl | exact xal_b rfl | (apply And.intro) | decide)) ?_
        try dsimp only [xsto1, xsto2, xkill, xget, xset, gd_0, gd_s]
        refine xG_br rfl (fun h19 => ?_) (fun h19 => ?_)
        · have hww : w = 0 ∨ w = 1 := Or.inl h19
          refine xG_run 4 rfl (by repeat' (first | exact trivial | assumption | exact xob_b rfl | exact xal_b rfl | (apply And.intro) | decide)) ?_
          try dsimp only [xsto1, xsto2, xkill, xget, xset, gd_0, gd_s]
          refine xG_brF rfl (by decide) ?_
          refine xG_run 3 rfl (by repeat' (first | exact trivial | assumption | exact xob_b rfl | exact xal_b rfl | (apply And.intro) | decide)) ?_
          try dsimp only [xsto1, xsto2, xkill, xget, xset, gd_0, gd_s]
          refine xG_c2 2 rfl (by repeat' (first | exact trivial | assumption | exact xob_b rfl | exact xal_b rfl | (apply And.intro) | decide)) rfl rfl (by decide) cw_X11_rowRefusal (d' := d - 1) e_rowRef0 (by omega) ?_
          rintro v M' ⟨rfl, hM⟩
          subst M'
          dsimp only [Option.toList, List.cons_append, List.nil_append]
          refine xG_run 5 rfl (by repeat' (first | exact trivial | assumption | exact xob_b rfl | exact xal_b rfl | (apply And.intro) | decide)) ?_
          try dsimp only [xsto1, xsto2, xkill, xget, xset, gd_0, gd_s]
          refine r2_i rfl rfl ?_
          exact ⟨Or.inr ⟨fun q => by obtain ⟨⟨j9, a1, a2⟩, -⟩ := q; exact hno (by rw [a2]; exact inI a1 (by omega)), rfl⟩, kFr_r⟩
        · refine xG_run 2 rfl (by repeat' (first | exact trivial | assumption | exact xob_b rfl | exact xal_b rfl | (apply And.intro) | decide)) ?_
          try dsimp only [xsto1, xsto2, xkill, xget, xset, gd_0, gd_s]
          refine xG_br rfl (fun h24 => ?_) (fun h24 => ?_)
          · have hk0 : ¬ knC mk w := fun q => q.2.elim h19 h24
            refine xG_run 3 rfl (by repeat' (first | exact trivial | assumption | exact xob_b rfl | exact xal_b rfl | (apply And.intro) | decide)) ?_
            try dsimp only [xsto1, xsto2, xkill, xget, xset, gd_0, gd_s]
            refine xG_brT rfl (by decide) ?_
            refine xG_run 5 rfl (by repeat' (first | exact trivial | assumption | exact xob_b rfl | exact xal_b rfl | (apply And.intro) | decide)) ?_
            try dsimp only [xsto1, xsto2, xkill, xget, xset, gd_0, gd_s]
            refine r2_i rfl rfl ?_
            exact ⟨Or.inr ⟨fun q => hk0 q.2, rfl⟩, kFr_r⟩
          · have hww : w = 0 ∨ w = 1 := Or.inr (Decidable.not_not.mp h24)
            refine xG_run 4 rfl (by repeat' (first | exact trivial | assumption | exact xob_b rfl | exact xal_b rfl | (apply And.intro) | decide)) ?_
            try dsimp only [xsto1, xsto2, xkill, xget, xset, gd_0, gd_s]
            refine xG_brF rfl (by decide) ?_
            refine xG_run 3 rfl (by repeat' (first | exact trivial | assumption | exact xob_b rfl | exact xal_b rfl | (apply And.intro) | decide)) ?_
            try dsimp only [xsto1, xsto2, xkill, xget, xset, gd_0, gd_s]
            refine xG_c2 2 rfl (by repeat' (first | exact trivial | assumption | exact xob_b rfl | exact xal_b rfl | (apply And.intro) | decide)) rfl rfl (by decide) cw_X11_rowRefusal (d' := d - 1) e_rowRef0 (by omega) ?_
            rintro v M' ⟨rfl, hM⟩
            subst M'
            dsimp only [Option.toList, List.cons_append, List.nil_append]
            refine xG_run 5 rfl (by repeat' (first | exact trivial | assumption | exact xob_b rfl | exact xal_b rfl | (apply And.intro) | decide)) ?_
            try dsimp only [xsto1, xsto2, xkill, xget, xset, gd_0, gd_s]
            refine r2_i rfl rfl ?_
            exact ⟨Or.inr ⟨fun q => by obtain ⟨⟨j9, a1, a2⟩, -⟩ := q; exact hno (by rw [a2]; exact inI a1 (by omega)), rfl⟩, kFr_r⟩
  · dsimp only [Option.toList, List.cons_append, List.nil_append]
    have hxj : xob (142 + 3 * j) 8 182 := xob_sh hj
    have hspj : xob (143 + 3 * j) 3 182 := xob_sp hj
    refine xG_run 2 rfl (by repeat' (first | exact trivial | assumption | exact xob_b rfl | exact xal_b rfl | (apply And.intro) | decide)) ?_
    try dsimp only [xsto1, xsto2, xkill, xget, xset, gd_0, gd_s]
    refine xG_br rfl (fun h8 => ?_) (fun h8 => ?_)
    · have hk0 : ¬ knC mk w := fun q => absurd (Int32.lt_of_lt_of_le h8 q.1.1) (Int32.lt_irrefl)
      refine xG_run 3 rfl (by repeat' (first | exact trivial | assumption | exact xob_b rfl | exact xal_b rfl | (apply And.intro) | decide)) ?_
      try dsimp only [xsto1, xsto2, xkill, xget, xset, gd_0, gd_s]
      refine xG_brT rfl (by decide) ?_
      refine xG_run 5 rfl (by repeat' (first | exact trivial | assumption | exact xob_b rfl | exact xal_b rfl | (apply And.intro) | decide)) ?_
      try dsimp only [xsto1, xsto2, xkill, xget, xset, gd_0, gd_s]
      refine xG_brF rfl (by decide) ?_
      refine xG_run 1 rfl (by repeat' (first | exact trivial | assumption | exact xob_b rfl | exact xal_b rfl | (apply And.intro) | decide)) ?_
      try dsimp only [xsto1, xsto2, xkill, xget, xset, gd_0, gd_s]
      refine r2_i rfl rfl ?_
      exact ⟨Or.inr ⟨fun q => hk0 q.2, rfl⟩, kFr_r⟩
    · have hmk1 : 0 ≤ mk := Int32.not_lt.mp h8
      refine xG_run 2 rfl (by repeat' (first | exact trivial | assumption | exact xob_b rfl | exact xal_b rfl | (apply And.intro) | decide)) ?_
      try dsimp only [xsto1, xsto2, xkill, xget, xset, gd_0, gd_s]
      refine xG_br rfl (fun h15 => ?_) (fun h15 => ?_)
      · have hk0 : ¬ knC mk w := fun q => absurd (Int32.lt_of_lt_of_le h15 q.1.2) (Int32.lt_irrefl)
        refine xG_run 3 rfl (by repeat' (first | exact trivial | assumption | exact xob_b rfl | exact xal_b rfl | (apply And.intro) | decide)) ?_
        try dsimp only [xsto1, xsto2, xkill, xget, xset, gd_0, gd_s]
        refine xG_brT rfl (by decide) ?_
        refine xG_run 5 rfl (by repeat' (first | exact trivial | assumption | exact xob_b rfl | exact xal_b rfl | (apply And.intro) | decide)) ?_
        try dsimp only [xsto1, xsto2, xkill, xget, xset, gd_0, gd_s]
        refine xG_brF rfl (by decide) ?_
        refine xG_run 1 rfl (by repeat' (first | exact trivial | assumption | exact xob_b rfl | exact xal_b rfl | (apply And.intro) | decide)) ?_
        try dsimp only [xsto1, xsto2, xkill, xget, xset, gd_0, gd_s]
        refine r2_i rfl rfl ?_
        exact ⟨Or.inr ⟨fun q => hk0 q.2, rfl⟩, kFr_r⟩
      · have hmk2 : mk ≤ 300 := Int32.not_lt.mp h15
        refine xG_run 1 rfl (by repeat' (first | exact trivial | assumption | exact xob_b rfl | exact xal_b rfl | (apply And.intro) | decide)) ?_
        try dsimp only [xsto1, xsto2, xkill, xget, xset, gd_0, gd_s]
        refine xG_br rfl (fun h19 => ?_) (fun h19 => ?_)
        · have hww : w = 0 ∨ w = 1 := Or.inl h19
          refine xG_run 4 rfl (by repeat' (first | exact trivial | assumption | exact xob_b rfl | exact xal_b rfl | (apply And.intro) | decide)) ?_
          try dsimp only [xsto1, xsto2, xkill, xget, xset, gd_0, gd_s]
          refine xG_brF rfl (by decide) ?_
          refine xG_run 3 rfl (by repeat' (first | exact trivial | assumption | exact xob_b rfl | exact xal_b rfl | (apply And.intro) | decide)) ?_
          try dsimp only [xsto1, xsto2, xkill, xget, xset, gd_0, gd_s]
          refine xG_c2 2 rfl (by repeat' (first | exact trivial | assumption | exact xob_b rfl | exact xal_b rfl | (apply And.intro) | decide)) rfl rfl (by decide) cw_X11_rowRefusal (d' := d - 1) (e_rowRef1 hj) (by omega) ?_
          rintro v M' ⟨rfl, hM⟩
          subst M'
          dsimp only [Option.toList, List.cons_append, List.nil_append]
          refine xG_run 5 rfl (by repeat' (first | exact trivial | assumption | exact xob_b rfl | exact xal_b rfl | (apply And.intro) | decide)) ?_
          try dsimp only [xsto1, xsto2, xkill, xget, xset, gd_0, gd_s]
          refine xG_br rfl (fun h59 => ?_) (fun h59 => ?_)
          · obtain ⟨z, hz1, hz2⟩ := hz j hj
            have hzc : (gI M (142 + 3 * j) 3).toNatClampNeg = z := by rw [hz2]; exact nI_cl (by omega)
            have hrr0 : cRR M j 0 = 0 := h59
            refine xG_run 2 rfl (by repeat' (first | exact trivial | assumption | exact xob_b rfl | exact xal_b rfl | (apply And.intro) | decide)) ?_
            try dsimp only [xsto1, xsto2, xkill, xget, xset, gd_0, gd_s]
            refine xG_c2 1 rfl (by repeat' (first | exact trivial | assumption | exact xob_b rfl | exact xal_b rfl | (apply And.intro) | decide)) rfl rfl (by decide) cw_X11_holdsSpeeds (d' := d - 1) (e_holdsSpeeds (z := z) (E := (fun k => gI M (144 + 3 * j) k)) hj hz2 hz1 (fun _ => rfl)) (by omega) ?_
            rintro v M' ⟨rfl, hM⟩
            subst M'
            dsimp only [Option.toList, List.cons_append, List.nil_append]
            refine xG_br rfl (fun h71 => ?_) (fun h71 => ?_)
            · have hsp : spOK (fun k => gI M (144 + 3 * j) k) z := by
                by_cases c : spOK (fun k => gI M (144 + 3 * j) k) z
                · exact c
                · rw [if_neg c] at h71; exact absurd rfl h71
              refine xG_run 4 rfl (by repeat' (first | exact trivial | assumption | exact xob_b rfl | exact xal_b rfl | (apply And.intro) | decide)) ?_
              try dsimp only [xsto1, xsto2, xkill, xget, xset, gd_0, gd_s]
              refine xG_c2 1 rfl (by repeat' (first | exact trivial | assumption | exact xob_b rfl | exact xal_b rfl | (apply And.intro) | decide)) rfl rfl (by decide) cw_X1_takeFrom (d' := d - 1) (e_take28_1 (by omega)) (by omega) ?_
              rintro v M9 ⟨rfl, hM9⟩
              subst M9
              dsimp only [Option.toList, List.cons_append, List.nil_append]
              refine xG_run 7 rfl (by repeat' (first | exact trivial | assumption | exact xob_b rfl | exact xal_b rfl | (apply And.intro) | decide)) ?_
              try dsimp only [xsto1, xsto2, xkill, xget, xset, gd_0, gd_s]
              refine xG_c2 0 rfl (by repeat' (first | exact trivial | assumption | exact xob_b rfl | exact xal_b rfl | (apply And.intro) | decide)) rfl rfl (by decide) cw_X2_ropeSet (d' := d - 1) (e_ropeSet ho3 hr2) (by omega) ?_
              rintro v M' ⟨rfl, hM⟩
              subst M'
              dsimp only [Option.toList, List.cons_append, List.nil_append]
              refine xG_c2 3 rfl (by repeat' (first | exact trivial | assumption | exact xob_b rfl | exact xal_b rfl | (apply And.intro) | decide)) rfl rfl (by decide) cw_X0_load (d' := d - 1) (e_load28 (np := np) (nr := nr) hm2.2.1.1 hn2 hm2.2.2.1.1 hr2 (fun i hi => r_sh hm2 hi) (by omega)) (by omega) ?_
              rintro v M4 ⟨pl, rl, c, e, rfl, hg, -, -, hs, ht, hB4, hp4, hB5⟩
              have hBL := BL_ld hn2 hr2 hg hs ht hB4 hB5
              dsimp only [Option.toList, List.cons_append, List.nil_append]
              refine xG_run 8 rfl (by repeat' (first | exact trivial | assumption | exact xob_b rfl | exact xal_b rfl | (apply And.intro) | decide)) ?_
              try dsimp only [xsto1, xsto2, xkill, xget, xset, gd_0, gd_s]
              refine xG_run 4 rfl (by repeat' (first | exact trivial | assumption | exact xob_b rfl | exact xal_b rfl | (apply And.intro) | decide)) ?_
              try dsimp only [xsto1, xsto2, xkill, xget, xset, gd_0, gd_s]
              subst hij
              have hm4 : mR M4 28 R 167 np nr ng := mR_C hm2 (fun k hk => hB4.1 _ _ (by omega)) (fun k => hB4.1 _ _ (by omega)) (fun k => hB4.1 _ _ (by omega)) (fun p k hp => hB4.1 _ _ (by omega)) (fun r k hr => hB4.1 _ _ (by omega))
              have hk4 : kFr M M4 := kFr_t kFr_tk (kFr_b hB4)
              have hN4 : gI M4 71 3 = nI no := (hk4.1 _ _ (by omega)).trans ho.2.1.1
              have hsh1 := shl_p no (by have := ho.1; omega)
              have hpw := p2_le (n := no) (by have := ho.1; omega)
              rw [hN4, hsh1]
              obtain ⟨mo, hmo3, rfl⟩ := nI_of3 (n := 300) hmk1 hmk2 (by omega)
              have lp := xG_upP (κ := κ) (m := mX11_cheapest) (r := (d, 0, 0)) (YS := xRet mX11_cheapest false (fun v M' n' => n' = 182 ∧ (((∃ j', j' < 8 ∧ nI j = nI j' ∧ knC (nI mo) w ∧ v = some (.int (cheC M R np nr no j' (nI mo) w))) ∨ (¬ ((∃ j', j' < 8 ∧ nI j = nI j') ∧ knC (nI mo) w) ∧ v = some (.int (-1)))) ∧ kFr M M'))) (fun s X => ∃ (M2 : xM) (x11 : Option Value), X = (129, [some (.ref 0), some (.int (nI j)), some (.int (nI mo)), some (.int w), some (.ref (142 + 3 * j)), some (.int 1), some (.int (cRR M j 0)), some (.int (chF (prV R no) (fun s => enP (chR R nr no s) np nr (fun k => gI M (144 + 3 * j) k) z mo) s).1), some (.int (chF (prV R no) (fun s => enP (chR R nr no s) np nr (fun k => gI M (144 + 3 * j) k) z mo) s).2), some (.int (nI (2 ^ no))), some (.int (nI s)), x11], [], M2, z2) ∧ cFr M4 M2 ∧ ∀ q, q < nr → (∀ i, i < no → ¬ oro R i = nI q) → gI M2 (43 + q) 3 = rr R q 3) (2 ^ no) ?_ ?_ 0 (Nat.zero_le _)
              · exact lp _ ⟨M4, none, rfl, cFr_r, fun q hq _ => (r_q hm4 hq).1 3 (by omega)⟩
              · rintro s X hs9 ⟨M2, x11, rfl, hc, hU⟩ ih
                have hk2 : kFr M M2 := kFr_t hk4 (kFr_c hc)
                have ho2 := oR_k ho hk2
                have hrr : ∀ q, q < nr → gI M2 (16 + q) 3 = rr R q 3 := fun q hq => (hk2.1 _ _ (by omega)).trans ((r_q hm hq).1 3 (by omega))
                refine xG_run 2 rfl (by repeat' (first | exact trivial | assumption | exact xob_b rfl | exact xal_b rfl | (apply And.intro) | decide)) ?_
                try dsimp only [xsto1, xsto2, xkill, xget, xset, gd_0, gd_s]
                refine xG_brF rfl (nI_ge hs9 (by omega)) ?_
                refine xG_run 3 rfl (by repeat' (first | exact trivial | assumption | exact xob_b rfl | exact xal_b rfl | (apply And.intro) | decide)) ?_
                try dsimp only [xsto1, xsto2, xkill, xget, xset, gd_0, gd_s]
                refine xG_c2 1 rfl (by repeat' (first | exact trivial | assumption | exact xob_b rfl | exact xal_b rfl | (apply And.intro) | decide)) rfl rfl (by decide) cw_X2_priceOf (d' := d - 1) (e_priceOf (s := s) ho2 hr2) (by omega) ?_
                rintro v M' ⟨rfl, hM⟩
                subst M'
                dsimp only [Option.toList, List.cons_append, List.nil_append]
                refine xG_run 3 rfl (by repeat' (first | exact trivial | assumption | exact xob_b rfl | exact xal_b rfl | (apply And.intro) | decide)) ?_
                try dsimp only [xsto1, xsto2, xkill, xget, xset, gd_0, gd_s]
                refine xG_br rfl (fun h151 => ?_) (fun h151 => ?_)
                · refine xG_run 7 rfl (by repeat' (first | exact trivial | assumption | exact xob_b rfl | exact xal_b rfl | (apply And.intro) | decide)) ?_
                  try dsimp only [xsto1, xsto2, xkill, xget, xset, gd_0, gd_s]
                  refine xG_c2 3 rfl (by repeat' (first | exact trivial | assumption | exact xob_b rfl | exact xal_b rfl | (apply And.intro) | decide)) rfl rfl (by decide) cw_X2_strengthen (d' := d - 1) (e_strengthen (s := s) ho2 hr2 hrr hU) (by omega) ?_
                  rintro v M5 ⟨rfl, hw5, hst⟩
                  have hc5 : cFr M4 M5 := cFr_t hc (cFr_w hw5)
                  have hk5 : kFr M M5 := kFr_t hk4 (kFr_c hc5)
                  have hmx : mR (sI (sI M5 28 5 (gI M4 28 5)) 28 6 (gI M4 28 6)) 28 (chR R nr no s) 167 np nr ng := by
                    refine mR_st hm4 (fun q hq => stF_b (r_qB hm hq).2.2.2.1 (fun i hi => (ho.2.2 i hi).2.2.1)) (fun x k q => ?_) (fun q hq => ?_)
                    · by_cases c6 : x = 28 ∧ k = 6
                      · rw [c6.1, c6.2]; exact gI_self _ _ _ _
                      · by_cases c5 : x = 28 ∧ k = 5
                        · rw [c5.1, c5.2]; exact (gI_ne (Or.inr (by decide))).trans (gI_self _ _ _ _)
                        · exact (gI_ne (by omega)).trans ((gI_ne (by omega)).trans (hc5.1 x k (by omega) (by omega)))
                    · exact (gI_ne (by omega)).trans ((gI_ne (by omega)).trans (hst q hq))
                  have hMx : ∀ x k, ¬ (x = 28 ∧ (k = 5 ∨ k = 6)) → gI M5 x k = gI (sI (sI M5 28 5 (gI M4 28 5)) 28 6 (gI M4 28 6)) x k := fun x k q => ((gI_ne (by omega)).trans (gI_ne (by omega))).symm
                  have hBL5 : BL M5 0 (rsV R no) np nr := BL_u hBL hn2 hr2 (fun i k hi _ => hc5.1 _ _ (by omega) (by omega)) (fun i k hi hx => by
                      by_cases c : k = 3
                      · subst c
                        have hu := rsV_b hr2 hi (fun k hk => (ho.2.2 k hk).2.1) hx
                        rw [hst i hi, stF_u hu]
                        exact ((r_q hm4 hi).1 3 (by omega)).symm
                      · exact hc5.1 _ _ (by omega) (by omega)) (hc5.1 _ _ (by omega) (by omega)) ⟨hc5.1 _ _ (by omega) (by omega), hc5.1 _ _ (by omega) (by omega)⟩ (fun t => hc5.2.1 _ _ (by omega)) (fun k => ⟨hc5.2.2 _ _, hc5.2.2 _ _⟩)
                  have hz5 : gI M5 (142 + 3 * j) 3 = nI z := (hk5.1 _ _ (by omega)).trans hz2
                  have hE5 : ∀ k, gI M5 (144 + 3 * j) k = (fun k => gI M (144 + 3 * j) k) k := fun k => hk5.1 _ _ (by omega)
                  dsimp only [Option.toList, List.cons_append, List.nil_append]
                  refine xG_run 3 rfl (by repeat' (first | exact trivial | assumption | exact xob_b rfl | exact xal_b rfl | (apply And.intro) | decide)) ?_
                  try dsimp only [xsto1, xsto2, xkill, xget, xset, gd_0, gd_s]
                  refine xG_c2 2 rfl (by repeat' (first | exact trivial | assumption | exact xob_b rfl | exact xal_b rfl | (apply And.intro) | decide)) rfl rfl (by decide) cw_X11_standsInAll (d' := d - 1) (e_standsInAll hmx hMx hj0c hBL5 hj hz5 hsp hE5 hmo3 (by omega)) (by omega) ?_
                  rintro v M6 ⟨rfl, hs6⟩
                  dsimp only [Option.toList, List.cons_append, List.nil_append]
                  refine xG_br rfl (fun h188 => ?_) (fun h188 => ?_)
                  · refine xG_run 2 rfl (by repeat' (first | exact trivial | assumption | exact xob_b rfl | exact xal_b rfl | (apply And.intro) | decide)) ?_
                    try dsimp only [xsto1, xsto2, xkill, xget, xset, gd_0, gd_s]
                    rw [nI_1]
                    first
                      | (refine ih _ ⟨M2, some (.int (prV R no s)), ?_, hc, hU⟩
                         rw [show (chF (prV R no) (fun s => enP (chR R nr no s) np nr (fun k => gI M (144 + 3 * j) k) z mo) (s + 1)) = (chF (prV R no) (fun s => enP (chR R nr no s) np nr (fun k => gI M (144 + 3 * j) k) z mo) s) from if_pos ⟨h151, Int32.not_lt.mp h158⟩]
                         done)
                      | (have hne : ¬ (¬ (chF (prV R no) (fun s => enP (chR R nr no s) np nr (fun k => gI M (144 + 3 * j) k) z mo) s).1 = -4 ∧ (chF (prV R no) (fun s => enP (chR R nr no s) np nr (fun k => gI M (144 + 3 * j) k) z mo) s).1 ≤ prV R no s) := fun q => by first | exact q.1 h151 | exact q.1 (Decidable.not_not.mp h151) | exact absurd h158 (Int32.not_lt.mpr q.2)
                         refine ih _ ⟨M6, some (.int (prV R no s)), ?_, cFr_t hc5 (cFr_s hs6), fun q hq hu => ?_⟩
                         · by_cases c : enP (chR R nr no s) np nr (fun k => gI M (144 + 3 * j) k) z mo
                           · first
                               | (rw [if_pos c] at h188; exact absurd h188 (by decide))
                               | (rw [show (chF (prV R no) (fun s => enP (chR R nr no s) np nr (fun k => gI M (144 + 3 * j) k) z mo) (s + 1)) = (prV R no s, nI s) from (if_neg hne).trans (if_pos c)]; done)
                           · first
                               | (rw [if_neg c] at h188; exact absurd rfl h188)
                               | (rw [show (chF (prV R no) (fun s => enP (chR R nr no s) np nr (fun k => gI M (144 + 3 * j) k) z mo) (s + 1)) = (chF (prV R no) (fun s => enP (chR R nr no s) np nr (fun k => gI M (144 + 3 * j) k) z mo) s) from (if_neg hne).trans (if_neg c)]; done)
                         · exact (hs6.1 _ _ (by omega)).trans ((hst q hq).trans (stF_u hu)))
                  · refine xG_run 6 rfl (by repeat' (first | exact trivial | assumption | exact xob_b rfl | exact xal_b rfl | (apply And.intro) | decide)) ?_
                    try dsimp only [xsto1, xsto2, xkill, xget, xset, gd_0, gd_s]
                    rw [nI_1]
                    first
                      | (refine ih _ ⟨M2, some (.int (prV R no s)), ?_, hc, hU⟩
                         rw [show (chF (prV R no) (fun s => enP (chR R nr no s) np nr (fun k => gI M (144 + 3 * j) k) z mo) (s + 1)) = (chF (prV R no) (fun s => enP (chR R nr no s) np nr (fun k => gI M (144 + 3 * j) k) z mo) s) from if_pos ⟨h151, Int32.not_lt.mp h158⟩]
                         done)
                      | (have hne : ¬ (¬ (chF (prV R no) (fun s => enP (chR R nr no s) np nr (fun k => gI M (144 + 3 * j) k) z mo) s).1 = -4 ∧ (chF (prV R no) (fun s => enP (chR R nr no s) np nr (fun k => gI M (144 + 3 * j) k) z mo) s).1 ≤ prV R no s) := fun q => by first | exact q.1 h151 | exact q.1 (Decidable.not_not.mp h151) | exact absurd h158 (Int32.not_lt.mpr q.2)
                         refine ih _ ⟨M6, some (.int (prV R no s)), ?_, cFr_t hc5 (cFr_s hs6), fun q hq hu => ?_⟩
                         · by_cases c : enP (chR R nr no s) np nr (fun k => gI M (144 + 3 * j) k) z mo
                           · first
                               | (rw [if_pos c] at h188; exact absurd h188 (by decide))
                               | (rw [show (chF (prV R no) (fun s => enP (chR R nr no s) np nr (fun k => gI M (144 + 3 * j) k) z mo) (s + 1)) = (prV R no s, nI s) from (if_neg hne).trans (if_pos c)]; done)
                           · first
                               | (rw [if_neg c] at h188; exact absurd rfl h188)
                               | (rw [show (chF (prV R no) (fun s => enP (chR R nr no s) np nr (fun k => gI M (144 + 3 * j) k) z mo) (s + 1)) = (chF (prV R no) (fun s => enP (chR R nr no s) np nr (fun k => gI M (144 + 3 * j) k) z mo) s) from (if_neg hne).trans (if_neg c)]; done)
                         · exact (hs6.1 _ _ (by omega)).trans ((hst q hq).trans (stF_u hu)))
                · refine xG_run 2 rfl (by repeat' (first | exact trivial | assumption | exact xob_b rfl | exact xal_b rfl | (apply And.intro) | decide)) ?_
                  try dsimp only [xsto1, xsto2, xkill, xget, xset, gd_0, gd_s]
                  refine xG_br rfl (fun h158 => ?_) (fun h158 => ?_)
                  · refine xG_run 7 rfl (by repeat' (first | exact trivial | assumption | exact xob_b rfl | exact xal_b rfl | (apply And.intro) | decide)) ?_
                    try dsimp only [xsto1, xsto2, xkill, xget, xset, gd_0, gd_s]
                    refine xG_c2 3 rfl (by repeat' (first | exact trivial | assumption | exact xob_b rfl | exact xal_b rfl | (apply And.intro) | decide)) rfl rfl (by decide) cw_X2_strengthen (d' := d - 1) (e_strengthen (s := s) ho2 hr2 hrr hU) (by omega) ?_
                    rintro v M5 ⟨rfl, hw5, hst⟩
                    have hc5 : cFr M4 M5 := cFr_t hc (cFr_w hw5)
                    have hk5 : kFr M M5 := kFr_t hk4 (kFr_c hc5)
                    have hmx : mR (sI (sI M5 28 5 (gI M4 28 5)) 28 6 (gI M4 28 6)) 28 (chR R nr no s) 167 np nr ng := by
                      refine mR_st hm4 (fun q hq => stF_b (r_qB hm hq).2.2.2.1 (fun i hi => (ho.2.2 i hi).2.2.1)) (fun x k q => ?_) (fun q hq => ?_)
                      · by_cases c6 : x = 28 ∧ k = 6
                        · rw [c6.1, c6.2]; exact gI_self _ _ _ _
                        · by_cases c5 : x = 28 ∧ k = 5
                          · rw [c5.1, c5.2]; exact (gI_ne (Or.inr (by decide))).trans (gI_self _ _ _ _)
                          · exact (gI_ne (by omega)).trans ((gI_ne (by omega)).trans (hc5.1 x k (by omega) (by omega)))
                      · exact (gI_ne (by omega)).trans ((gI_ne (by omega)).trans (hst q hq))
                    have hMx : ∀ x k, ¬ (x = 28 ∧ (k = 5 ∨ k = 6)) → gI M5 x k = gI (sI (sI M5 28 5 (gI M4 28 5)) 28 6 (gI M4 28 6)) x k := fun x k q => ((gI_ne (by omega)).trans (gI_ne (by omega))).symm
                    have hBL5 : BL M5 0 (rsV R no) np nr := BL_u hBL hn2 hr2 (fun i k hi _ => hc5.1 _ _ (by omega) (by omega)) (fun i k hi hx => by
                        by_cases c : k = 3
                        · subst c
                          have hu := rsV_b hr2 hi (fun k hk => (ho.2.2 k hk).2.1) hx
                          rw [hst i hi, stF_u hu]
                          exact ((r_q hm4 hi).1 3 (by omega)).symm
                        · exact hc5.1 _ _ (by omega) (by omega)) (hc5.1 _ _ (by omega) (by omega)) ⟨hc5.1 _ _ (by omega) (by omega), hc5.1 _ _ (by omega) (by omega)⟩ (fun t => hc5.2.1 _ _ (by omega)) (fun k => ⟨hc5.2.2 _ _, hc5.2.2 _ _⟩)
                    have hz5 : gI M5 (142 + 3 * j) 3 = nI z := (hk5.1 _ _ (by omega)).trans hz2
                    have hE5 : ∀ k, gI M5 (144 + 3 * j) k = (fun k => gI M (144 + 3 * j) k) k := fun k => hk5.1 _ _ (by omega)
                    dsimp only [Option.toList, List.cons_append, List.nil_append]
                    refine xG_run 3 rfl (by repeat' (first | exact trivial | assumption | exact xob_b rfl | exact xal_b rfl | (apply And.intro) | decide)) ?_
                    try dsimp only [xsto1, xsto2, xkill, xget, xset, gd_0, gd_s]
                    refine xG_c2 2 rfl (by repeat' (first | exact trivial | assumption | exact xob_b rfl | exact xal_b rfl | (apply And.intro) | decide)) rfl rfl (by decide) cw_X11_standsInAll (d' := d - 1) (e_standsInAll hmx hMx hj0c hBL5 hj hz5 hsp hE5 hmo3 (by omega)) (by omega) ?_
                    rintro v M6 ⟨rfl, hs6⟩
                    dsimp only [Option.toList, List.cons_append, List.nil_append]
                    refine xG_br rfl (fun h188 => ?_) (fun h188 => ?_)
                    · refine xG_run 2 rfl (by repeat' (first | exact trivial | assumption | exact xob_b rfl | exact xal_b rfl | (apply And.intro) | decide)) ?_
                      try dsimp only [xsto1, xsto2, xkill, xget, xset, gd_0, gd_s]
                      rw [nI_1]
                      first
                        | (refine ih _ ⟨M2, some (.int (prV R no s)), ?_, hc, hU⟩
                           rw [show (chF (prV R no) (fun s => enP (chR R nr no s) np nr (fun k => gI M (144 + 3 * j) k) z mo) (s + 1)) = (chF (prV R no) (fun s => enP (chR R nr no s) np nr (fun k => gI M (144 + 3 * j) k) z mo) s) from if_pos ⟨h151, Int32.not_lt.mp h158⟩]
                           done)
                        | (have hne : ¬ (¬ (chF (prV R no) (fun s => enP (chR R nr no s) np nr (fun k => gI M (144 + 3 * j) k) z mo) s).1 = -4 ∧ (chF (prV R no) (fun s => enP (chR R nr no s) np nr (fun k => gI M (144 + 3 * j) k) z mo) s).1 ≤ prV R no s) := fun q => by first | exact q.1 h151 | exact q.1 (Decidable.not_not.mp h151) | exact absurd h158 (Int32.not_lt.mpr q.2)
                           refine ih _ ⟨M6, some (.int (prV R no s)), ?_, cFr_t hc5 (cFr_s hs6), fun q hq hu => ?_⟩
                           · by_cases c : enP (chR R nr no s) np nr (fun k => gI M (144 + 3 * j) k) z mo
                             · first
                                 | (rw [if_pos c] at h188; exact absurd h188 (by decide))
                                 | (rw [show (chF (prV R no) (fun s => enP (chR R nr no s) np nr (fun k => gI M (144 + 3 * j) k) z mo) (s + 1)) = (prV R no s, nI s) from (if_neg hne).trans (if_pos c)]; done)
                             · first
                                 | (rw [if_neg c] at h188; exact absurd rfl h188)
                                 | (rw [show (chF (prV R no) (fun s => enP (chR R nr no s) np nr (fun k => gI M (144 + 3 * j) k) z mo) (s + 1)) = (chF (prV R no) (fun s => enP (chR R nr no s) np nr (fun k => gI M (144 + 3 * j) k) z mo) s) from (if_neg hne).trans (if_neg c)]; done)
                           · exact (hs6.1 _ _ (by omega)).trans ((hst q hq).trans (stF_u hu)))
                    · refine xG_run 6 rfl (by repeat' (first | exact trivial | assumption | exact xob_b rfl | exact xal_b rfl | (apply And.intro) | decide)) ?_
                      try dsimp only [xsto1, xsto2, xkill, xget, xset, gd_0, gd_s]
                      rw [nI_1]
                      first
                        | (refine ih _ ⟨M2, some (.int (prV R no s)), ?_, hc, hU⟩
                           rw [show (chF (prV R no) (fun s => enP (chR R nr no s) np nr (fun k => gI M (144 + 3 * j) k) z mo) (s + 1)) = (chF (prV R no) (fun s => enP (chR R nr no s) np nr (fun k => gI M (144 + 3 * j) k) z mo) s) from if_pos ⟨h151, Int32.not_lt.mp h158⟩]
                           done)
                        | (have hne : ¬ (¬ (chF (prV R no) (fun s => enP (chR R nr no s) np nr (fun k => gI M (144 + 3 * j) k) z mo) s).1 = -4 ∧ (chF (prV R no) (fun s => enP (chR R nr no s) np nr (fun k => gI M (144 + 3 * j) k) z mo) s).1 ≤ prV R no s) := fun q => by first | exact q.1 h151 | exact q.1 (Decidable.not_not.mp h151) | exact absurd h158 (Int32.not_lt.mpr q.2)
                           refine ih _ ⟨M6, some (.int (prV R no s)), ?_, cFr_t hc5 (cFr_s hs6), fun q hq hu => ?_⟩
                           · by_cases c : enP (chR R nr no s) np nr (fun k => gI M (144 + 3 * j) k) z mo
                             · first
                                 | (rw [if_pos c] at h188; exact absurd h188 (by decide))
                                 | (rw [show (chF (prV R no) (fun s => enP (chR R nr no s) np nr (fun k => gI M (144 + 3 * j) k) z mo) (s + 1)) = (prV R no s, nI s) from (if_neg hne).trans (if_pos c)]; done)
                             · first
                                 | (rw [if_neg c] at h188; exact absurd rfl h188)
                                 | (rw [show (chF (prV R no) (fun s => enP (chR R nr no s) np nr (fun k => gI M (144 + 3 * j) k) z mo) (s + 1)) = (chF (prV R no) (fun s => enP (chR R nr no s) np nr (fun k => gI M (144 + 3 * j) k) z mo) s) from (if_neg hne).trans (if_neg c)]; done)
                           · exact (hs6.1 _ _ (by omega)).trans ((hst q hq).trans (stF_u hu)))
                  · refine xG_run 3 rfl (by repeat' (first | exact trivial | assumption | exact xob_b rfl | exact xal_b rfl | (apply And.intro) | decide)) ?_
                    try dsimp only [xsto1, xsto2, xkill, xget, xset, gd_0, gd_s]
                    rw [nI_1]
                    first
                      | (refine ih _ ⟨M2, some (.int (prV R no s)), ?_, hc, hU⟩
                         rw [show (chF (prV R no) (fun s => enP (chR R nr no s) np nr (fun k => gI M (144 + 3 * j) k) z mo) (s + 1)) = (chF (prV R no) (fun s => enP (chR R nr no s) np nr (fun k => gI M (144 + 3 * j) k) z mo) s) from if_pos ⟨h151, Int32.not_lt.mp h158⟩]
                         done)
                      | (have hne : ¬ (¬ (chF (prV R no) (fun s => enP (chR R nr no s) np nr (fun k => gI M (144 + 3 * j) k) z mo) s).1 = -4 ∧ (chF (prV R no) (fun s => enP (chR R nr no s) np nr (fun k => gI M (144 + 3 * j) k) z mo) s).1 ≤ prV R no s) := fun q => by first | exact q.1 h151 | exact q.1 (Decidable.not_not.mp h151) | exact absurd h158 (Int32.not_lt.mpr q.2)
                         refine ih _ ⟨M6, some (.int (prV R no s)), ?_, cFr_t hc5 (cFr_s hs6), fun q hq hu => ?_⟩
                         · by_cases c : enP (chR R nr no s) np nr (fun k => gI M (144 + 3 * j) k) z mo
                           · first
                               | (rw [if_pos c] at h188; exact absurd h188 (by decide))
                               | (rw [show (chF (prV R no) (fun s => enP (chR R nr no s) np nr (fun k => gI M (144 + 3 * j) k) z mo) (s + 1)) = (prV R no s, nI s) from (if_neg hne).trans (if_pos c)]; done)
                           · first
                               | (rw [if_neg c] at h188; exact absurd rfl h188)
                               | (rw [show (chF (prV R no) (fun s => enP (chR R nr no s) np nr (fun k => gI M (144 + 3 * j) k) z mo) (s + 1)) = (chF (prV R no) (fun s => enP (chR R nr no s) np nr (fun k => gI M (144 + 3 * j) k) z mo) s) from (if_neg hne).trans (if_neg c)]; done)
                         · exact (hs6.1 _ _ (by omega)).trans ((hst q hq).trans (stF_u hu)))
              · rintro X ⟨M2, x11, rfl, hc, hU⟩
                refine xG_run 2 rfl (by repeat' (first | exact trivial | assumption | exact xob_b rfl | exact xal_b rfl | (apply And.intro) | decide)) ?_
                try dsimp only [xsto1, xsto2, xkill, xget, xset, gd_0, gd_s]
                refine xG_brT rfl (Int32.le_refl _) ?_
                refine xG_run 1 rfl (by repeat' (first | exact trivial | assumption | exact xob_b rfl | exact xal_b rfl | (apply And.intro) | decide)) ?_
                try dsimp only [xsto1, xsto2, xkill, xget, xset, gd_0, gd_s]
                refine xG_br rfl (fun h206 => ?_) (fun h206 => ?_)
                · refine xG_run 1 rfl (by repeat' (first | exact trivial | assumption | exact xob_b rfl | exact xal_b rfl | (apply And.intro) | decide)) ?_
                  try dsimp only [xsto1, xsto2, xkill, xget, xset, gd_0, gd_s]
                  refine r2_i rfl rfl ?_
                  refine ⟨Or.inl ⟨j, hj, rfl, ⟨⟨hmk1, hmk2⟩, hww⟩, ?_⟩, kFr_t hk4 (kFr_c hc)⟩
                  unfold cheC cheV
                  rw [hzc, if_neg (fun q => q hrr0), if_pos hsp, nI_cl (by omega)]
                  first
                    | (rw [if_pos (Decidable.not_not.mp h206)]; done)
                    | (rw [if_neg h206]; done)
                · refine xG_run 2 rfl (by repeat' (first | exact trivial | assumption | exact xob_b rfl | exact xal_b rfl | (apply And.intro) | decide)) ?_
                  try dsimp only [xsto1, xsto2, xkill, xget, xset, gd_0, gd_s]
                  refine r2_i rfl rfl ?_
                  refine ⟨Or.inl ⟨j, hj, rfl, ⟨⟨hmk1, hmk2⟩, hww⟩, ?_⟩, kFr_t hk4 (kFr_c hc)⟩
                  unfold cheC cheV
                  rw [hzc, if_neg (fun q => q hrr0), if_pos hsp, nI_cl (by omega)]
                  first
                    | (rw [if_pos (Decidable.not_not.mp h206)]; done)
                    | (rw [if_neg h206]; done)
            · have hsp : ¬ spOK (fun k => gI M (144 + 3 * j) k) z := fun c => by rw [if_pos c] at h71; exact h71 (by decide)
              refine xG_run 1 rfl (by repeat' (first | exact trivial | assumption | exact xob_b rfl | exact xal_b rfl | (apply And.intro) | decide)) ?_
              try dsimp only [xsto1, xsto2, xkill, xget, xset, gd_0, gd_s]
              refine r2_i rfl rfl ?_
              refine ⟨Or.inl ⟨j, hj, hij, ⟨⟨hmk1, hmk2⟩, hww⟩, ?_⟩, kFr_r⟩
              unfold cheC
              first
                | (rw [if_pos h59]; done)
                | (rw [if_neg (fun q => q hrr0), hzc, if_neg hsp]; done)
          · refine xG_run 1 rfl (by repeat' (first | exact trivial | assumption | exact xob_b rfl | exact xal_b rfl | (apply And.intro) | decide)) ?_
            try dsimp only [xsto1, xsto2, xkill, xget, xset, gd_0, gd_s]
            refine r2_i rfl rfl ?_
            refine ⟨Or.inl ⟨j, hj, hij, ⟨⟨hmk1, hmk2⟩, hww⟩, ?_⟩, kFr_r⟩
            unfold cheC
            first
              | (rw [if_pos h59]; done)
              | (rw [if_neg (fun q => q hrr0), hzc, if_neg hsp]; done)
        · refine xG_run 2 rfl (by repeat' (first | exact trivial | assumption | exact xob_b rfl | exact xal_b rfl | (apply And.intro) | decide)) ?_
          try dsimp only [xsto1, xsto2, xkill, xget, xset, gd_0, gd_s]
          refine xG_br rfl (fun h24 => ?_) (fun h24 => ?_)
          · have hk0 : ¬ knC mk w := fun q => q.2.elim h19 h24
            refine xG_run 3 rfl (by repeat' (first | exact trivial | assumption | exact xob_b rfl | exact xal_b rfl | (apply And.intro) | decide)) ?_
            try dsimp only [xsto1, xsto2, xkill, xget, xset, gd_0, gd_s]
            refine xG_brT rfl (by decide) ?_
            refine xG_run 5 rfl (by repeat' (first | exact trivial | assumption | exact xob_b rfl | exact xal_b rfl | (apply And.intro) | decide)) ?_
            try dsimp only [xsto1, xsto2, xkill, xget, xset, gd_0, gd_s]
            refine xG_brF rfl (by decide) ?_
            refine xG_run 1 rfl (by repeat' (first | exact trivial | assumption | exact xob_b rfl | exact xal_b rfl | (apply And.intro) | decide)) ?_
            try dsimp only [xsto1, xsto2, xkill, xget, xset, gd_0, gd_s]
            refine r2_i rfl rfl ?_
            exact ⟨Or.inr ⟨fun q => hk0 q.2, rfl⟩, kFr_r⟩
          · have hww : w = 0 ∨ w = 1 := Or.inr (Decidable.not_not.mp h24)
            refine xG_run 4 rfl (by repeat' (first | exact trivial | assumption | exact xob_b rfl | exact xal_b rfl | (apply And.intro) | decide)) ?_
            try dsimp only [xsto1, xsto2, xkill, xget, xset, gd_0, gd_s]
            refine xG_brF rfl (by decide) ?_
            refine xG_run 3 rfl (by repeat' (first | exact trivial | assumption | exact xob_b rfl | exact xal_b rfl | (apply And.intro) | decide)) ?_
            try dsimp only [xsto1, xsto2, xkill, xget, xset, gd_0, gd_s]
            refine xG_c2 2 rfl (by repeat' (first | exact trivial | assumption | exact xob_b rfl | exact xal_b rfl | (apply And.intro) | decide)) rfl rfl (by decide) cw_X11_rowRefusal (d' := d - 1) (e_rowRef1 hj) (by omega) ?_
            rintro v M' ⟨rfl, hM⟩
            subst M'
            dsimp only [Option.toList, List.cons_append, List.nil_append]
            refine xG_run 5 rfl (by repeat' (first | exact trivial | assumption | exact xob_b rfl | exact xal_b rfl | (apply And.intro) | decide)) ?_
            try dsimp only [xsto1, xsto2, xkill, xget, xset, gd_0, gd_s]
            refine xG_br rfl (fun h59 => ?_) (fun h59 => ?_)
            · obtain ⟨z, hz1, hz2⟩ := hz j hj
              have hzc : (gI M (142 + 3 * j) 3).toNatClampNeg = z := by rw [hz2]; exact nI_cl (by omega)
              have hrr0 : cRR M j 0 = 0 := h59
              refine xG_run 2 rfl (by repeat' (first | exact trivial | assumption | exact xob_b rfl | exact xal_b rfl | (apply And.intro) | decide)) ?_
              try dsimp only [xsto1, xsto2, xkill, xget, xset, gd_0, gd_s]
              refine xG_c2 1 rfl (by repeat' (first | exact trivial | assumption | exact xob_b rfl | exact xal_b rfl | (apply And.intro) | decide)) rfl rfl (by decide) cw_X11_holdsSpeeds (d' := d - 1) (e_holdsSpeeds (z := z) (E := (fun k => gI M (144 + 3 * j) k)) hj hz2 hz1 (fun _ => rfl)) (by omega) ?_
              rintro v M' ⟨rfl, hM⟩
              subst M'
              dsimp only [Option.toList, List.cons_append, List.nil_append]
              refine xG_br rfl (fun h71 => ?_) (fun h71 => ?_)
              · have hsp : spOK (fun k => gI M (144 + 3 * j) k) z := by
                  by_cases c : spOK (fun k => gI M (144 + 3 * j) k) z
                  · exact c
                  · rw [if_neg c] at h71; exact absurd rfl h71
                refine xG_run 4 rfl (by repeat' (first | exact trivial | assumption | exact xob_b rfl | exact xal_b rfl | (apply And.intro) | decide)) ?_
                try dsimp only [xsto1, xsto2, xkill, xget, xset, gd_0, gd_s]
                refine xG_c2 1 rfl (by repeat' (first | exact trivial | assumption | exact xob_b rfl | exact xal_b rfl | (apply And.intro) | decide)) rfl rfl (by decide) cw_X1_takeFrom (d' := d - 1) (e_take28_1 (by omega)) (by omega) ?_
                rintro v M9 ⟨rfl, hM9⟩
                subst M9
                dsimp only [Option.toList, List.cons_append, List.nil_append]
                refine xG_run 7 rfl (by repeat' (first | exact trivial | assumption | exact xob_b rfl | exact xal_b rfl | (apply And.intro) | decide)) ?_
                try dsimp only [xsto1, xsto2, xkill, xget, xset, gd_0, gd_s]
                refine xG_c2 0 rfl (by repeat' (first | exact trivial | assumption | exact xob_b rfl | exact xal_b rfl | (apply And.intro) | decide)) rfl rfl (by decide) cw_X2_ropeSet (d' := d - 1) (e_ropeSet ho3 hr2) (by omega) ?_
                rintro v M' ⟨rfl, hM⟩
                subst M'
                dsimp only [Option.toList, List.cons_append, List.nil_append]
                refine xG_c2 3 rfl (by repeat' (first | exact trivial | assumption | exact xob_b rfl | exact xal_b rfl | (apply And.intro) | decide)) rfl rfl (by decide) cw_X0_load (d' := d - 1) (e_load28 (np := np) (nr := nr) hm2.2.1.1 hn2 hm2.2.2.1.1 hr2 (fun i hi => r_sh hm2 hi) (by omega)) (by omega) ?_
                rintro v M4 ⟨pl, rl, c, e, rfl, hg, -, -, hs, ht, hB4, hp4, hB5⟩
                have hBL := BL_ld hn2 hr2 hg hs ht hB4 hB5
                dsimp only [Option.toList, List.cons_append, List.nil_append]
                refine xG_run 8 rfl (by repeat' (first | exact trivial | assumption | exact xob_b rfl | exact xal_b rfl | (apply And.intro) | decide)) ?_
                try dsimp only [xsto1, xsto2, xkill, xget, xset, gd_0, gd_s]
                refine xG_run 4 rfl (by repeat' (first | exact trivial | assumption | exact xob_b rfl | exact xal_b rfl | (apply And.intro) | decide)) ?_
                try dsimp only [xsto1, xsto2, xkill, xget, xset, gd_0, gd_s]
                subst hij
                have hm4 : mR M4 28 R 167 np nr ng := mR_C hm2 (fun k hk => hB4.1 _ _ (by omega)) (fun k => hB4.1 _ _ (by omega)) (fun k => hB4.1 _ _ (by omega)) (fun p k hp => hB4.1 _ _ (by omega)) (fun r k hr => hB4.1 _ _ (by omega))
                have hk4 : kFr M M4 := kFr_t kFr_tk (kFr_b hB4)
                have hN4 : gI M4 71 3 = nI no := (hk4.1 _ _ (by omega)).trans ho.2.1.1
                have hsh1 := shl_p no (by have := ho.1; omega)
                have hpw := p2_le (n := no) (by have := ho.1; omega)
                rw [hN4, hsh1]
                obtain ⟨mo, hmo3, rfl⟩ := nI_of3 (n := 300) hmk1 hmk2 (by omega)
                have lp := xG_upP (κ := κ) (m := mX11_cheapest) (r := (d, 0, 0)) (YS := xRet mX11_cheapest false (fun v M' n' => n' = 182 ∧ (((∃ j', j' < 8 ∧ nI j = nI j' ∧ knC (nI mo) w ∧ v = some (.int (cheC M R np nr no j' (nI mo) w))) ∨ (¬ ((∃ j', j' < 8 ∧ nI j = nI j') ∧ knC (nI mo) w) ∧ v = some (.int (-1)))) ∧ kFr M M'))) (fun s X => ∃ (M2 : xM) (x11 : Option Value), X = (129, [some (.ref 0), some (.int (nI j)), some (.int (nI mo)), some (.int w), some (.ref (142 + 3 * j)), some (.int 1), some (.int (cRR M j 0)), some (.int (chF (prV R no) (fun s => enP (chR R nr no s) np nr (fun k => gI M (144 + 3 * j) k) z mo) s).1), some (.int (chF (prV R no) (fun s => enP (chR R nr no s) np nr (fun k => gI M (144 + 3 * j) k) z mo) s).2), some (.int (nI (2 ^ no))), some (.int (nI s)), x11], [], M2, z2) ∧ cFr M4 M2 ∧ ∀ q, q < nr → (∀ i, i < no → ¬ oro R i = nI q) → gI M2 (43 + q) 3 = rr R q 3) (2 ^ no) ?_ ?_ 0 (Nat.zero_le _)
                · exact lp _ ⟨M4, none, rfl, cFr_r, fun q hq _ => (r_q hm4 hq).1 3 (by omega)⟩
                · rintro s X hs9 ⟨M2, x11, rfl, hc, hU⟩ ih
                  have hk2 : kFr M M2 := kFr_t hk4 (kFr_c hc)
                  have ho2 := oR_k ho hk2
                  have hrr : ∀ q, q < nr → gI M2 (16 + q) 3 = rr R q 3 := fun q hq => (hk2.1 _ _ (by omega)).trans ((r_q hm hq).1 3 (by omega))
                  refine xG_run 2 rfl (by repeat' (first | exact trivial | assumption | exact xob_b rfl | exact xal_b rfl | (apply And.intro) | decide)) ?_
                  try dsimp only [xsto1, xsto2, xkill, xget, xset, gd_0, gd_s]
                  refine xG_brF rfl (nI_ge hs9 (by omega)) ?_
                  refine xG_run 3 rfl (by repeat' (first | exact trivial | assumption | exact xob_b rfl | exact xal_b rfl | (apply And.intro) | decide)) ?_
                  try dsimp only [xsto1, xsto2, xkill, xget, xset, gd_0, gd_s]
                  refine xG_c2 1 rfl (by repeat' (first | exact trivial | assumption | exact xob_b rfl | exact xal_b rfl | (apply And.intro) | decide)) rfl rfl (by decide) cw_X2_priceOf (d' := d - 1) (e_priceOf (s := s) ho2 hr2) (by omega) ?_
                  rintro v M' ⟨rfl, hM⟩
                  subst M'
                  dsimp only [Option.toList, List.cons_append, List.nil_append]
                  refine xG_run 3 rfl (by repeat' (first | exact trivial | assumption | exact xob_b rfl | exact xal_b rfl | (apply And.intro) | decide)) ?_
                  try dsimp only [xsto1, xsto2, xkill, xget, xset, gd_0, gd_s]
                  refine xG_br rfl (fun h151 => ?_) (fun h151 => ?_)
                  · refine xG_run 7 rfl (by repeat' (first | exact trivial | assumption | exact xob_b rfl | exact xal_b rfl | (apply And.intro) | decide)) ?_
                    try dsimp only [xsto1, xsto2, xkill, xget, xset, gd_0, gd_s]
                    refine xG_c2 3 rfl (by repeat' (first | exact trivial | assumption | exact xob_b rfl | exact xal_b rfl | (apply And.intro) | decide)) rfl rfl (by decide) cw_X2_strengthen (d' := d - 1) (e_strengthen (s := s) ho2 hr2 hrr hU) (by omega) ?_
                    rintro v M5 ⟨rfl, hw5, hst⟩
                    have hc5 : cFr M4 M5 := cFr_t hc (cFr_w hw5)
                    have hk5 : kFr M M5 := kFr_t hk4 (kFr_c hc5)
                    have hmx : mR (sI (sI M5 28 5 (gI M4 28 5)) 28 6 (gI M4 28 6)) 28 (chR R nr no s) 167 np nr ng := by
                      refine mR_st hm4 (fun q hq => stF_b (r_qB hm hq).2.2.2.1 (fun i hi => (ho.2.2 i hi).2.2.1)) (fun x k q => ?_) (fun q hq => ?_)
                      · by_cases c6 : x = 28 ∧ k = 6
                        · rw [c6.1, c6.2]; exact gI_self _ _ _ _
                        · by_cases c5 : x = 28 ∧ k = 5
                          · rw [c5.1, c5.2]; exact (gI_ne (Or.inr (by decide))).trans (gI_self _ _ _ _)
                          · exact (gI_ne (by omega)).trans ((gI_ne (by omega)).trans (hc5.1 x k (by omega) (by omega)))
                      · exact (gI_ne (by omega)).trans ((gI_ne (by omega)).trans (hst q hq))
                    have hMx : ∀ x k, ¬ (x = 28 ∧ (k = 5 ∨ k = 6)) → gI M5 x k = gI (sI (sI M5 28 5 (gI M4 28 5)) 28 6 (gI M4 28 6)) x k := fun x k q => ((gI_ne (by omega)).trans (gI_ne (by omega))).symm
                    have hBL5 : BL M5 0 (rsV R no) np nr := BL_u hBL hn2 hr2 (fun i k hi _ => hc5.1 _ _ (by omega) (by omega)) (fun i k hi hx => by
                        by_cases c : k = 3
                        · subst c
                          have hu := rsV_b hr2 hi (fun k hk => (ho.2.2 k hk).2.1) hx
                          rw [hst i hi, stF_u hu]
                          exact ((r_q hm4 hi).1 3 (by omega)).symm
                        · exact hc5.1 _ _ (by omega) (by omega)) (hc5.1 _ _ (by omega) (by omega)) ⟨hc5.1 _ _ (by omega) (by omega), hc5.1 _ _ (by omega) (by omega)⟩ (fun t => hc5.2.1 _ _ (by omega)) (fun k => ⟨hc5.2.2 _ _, hc5.2.2 _ _⟩)
                    have hz5 : gI M5 (142 + 3 * j) 3 = nI z := (hk5.1 _ _ (by omega)).trans hz2
                    have hE5 : ∀ k, gI M5 (144 + 3 * j) k = (fun k => gI M (144 + 3 * j) k) k := fun k => hk5.1 _ _ (by omega)
                    dsimp only [Option.toList, List.cons_append, List.nil_append]
                    refine xG_run 3 rfl (by repeat' (first | exact trivial | assumption | exact xob_b rfl | exact xal_b rfl | (apply And.intro) | decide)) ?_
                    try dsimp only [xsto1, xsto2, xkill, xget, xset, gd_0, gd_s]
                    refine xG_c2 2 rfl (by repeat' (first | exact trivial | assumption | exact xob_b rfl | exact xal_b rfl | (apply And.intro) | decide)) rfl rfl (by decide) cw_X11_standsInAll (d' := d - 1) (e_standsInAll hmx hMx hj0c hBL5 hj hz5 hsp hE5 hmo3 (by omega)) (by omega) ?_
                    rintro v M6 ⟨rfl, hs6⟩
                    dsimp only [Option.toList, List.cons_append, List.nil_append]
                    refine xG_br rfl (fun h188 => ?_) (fun h188 => ?_)
                    · refine xG_run 2 rfl (by repeat' (first | exact trivial | assumption | exact xob_b rfl | exact xal_b rfl | (apply And.intro) | decide)) ?_
                      try dsimp only [xsto1, xsto2, xkill, xget, xset, gd_0, gd_s]
                      rw [nI_1]
                      first
                        | (refine ih _ ⟨M2, some (.int (prV R no s)), ?_, hc, hU⟩
                           rw [show (chF (prV R no) (fun s => enP (chR R nr no s) np nr (fun k => gI M (144 + 3 * j) k) z mo) (s + 1)) = (chF (prV R no) (fun s => enP (chR R nr no s) np nr (fun k => gI M (144 + 3 * j) k) z mo) s) from if_pos ⟨h151, Int32.not_lt.mp h158⟩]
                           done)
                        | (have hne : ¬ (¬ (chF (prV R no) (fun s => enP (chR R nr no s) np nr (fun k => gI M (144 + 3 * j) k) z mo) s).1 = -4 ∧ (chF (prV R no) (fun s => enP (chR R nr no s) np nr (fun k => gI M (144 + 3 * j) k) z mo) s).1 ≤ prV R no s) := fun q => by first | exact q.1 h151 | exact q.1 (Decidable.not_not.mp h151) | exact absurd h158 (Int32.not_lt.mpr q.2)
                           refine ih _ ⟨M6, some (.int (prV R no s)), ?_, cFr_t hc5 (cFr_s hs6), fun q hq hu => ?_⟩
                           · by_cases c : enP (chR R nr no s) np nr (fun k => gI M (144 + 3 * j) k) z mo
                             · first
                                 | (rw [if_pos c] at h188; exact absurd h188 (by decide))
                                 | (rw [show (chF (prV R no) (fun s => enP (chR R nr no s) np nr (fun k => gI M (144 + 3 * j) k) z mo) (s + 1)) = (prV R no s, nI s) from (if_neg hne).trans (if_pos c)]; done)
                             · first
                                 | (rw [if_neg c] at h188; exact absurd rfl h188)
                                 | (rw [show (chF (prV R no) (fun s => enP (chR R nr no s) np nr (fun k => gI M (144 + 3 * j) k) z mo) (s + 1)) = (chF (prV R no) (fun s => enP (chR R nr no s) np nr (fun k => gI M (144 + 3 * j) k) z mo) s) from (if_neg hne).trans (if_neg c)]; done)
                           · exact (hs6.1 _ _ (by omega)).trans ((hst q hq).trans (stF_u hu)))
                    · refine xG_run 6 rfl (by repeat' (first | exact trivial | assumption | exact xob_b rfl | exact xal_b rfl | (apply And.intro) | decide)) ?_
                      try dsimp only [xsto1, xsto2, xkill, xget, xset, gd_0, gd_s]
                      rw [nI_1]
                      first
                        | (refine ih _ ⟨M2, some (.int (prV R no s)), ?_, hc, hU⟩
                           rw [show (chF (prV R no) (fun s => enP (chR R nr no s) np nr (fun k => gI M (144 + 3 * j) k) z mo) (s + 1)) = (chF (prV R no) (fun s => enP (chR R nr no s) np nr (fun k => gI M (144 + 3 * j) k) z mo) s) from if_pos ⟨h151, Int32.not_lt.mp h158⟩]
                           done)
                        | (have hne : ¬ (¬ (chF (prV R no) (fun s => enP (chR R nr no s) np nr (fun k => gI M (144 + 3 * j) k) z mo) s).1 = -4 ∧ (chF (prV R no) (fun s => enP (chR R nr no s) np nr (fun k => gI M (144 + 3 * j) k) z mo) s).1 ≤ prV R no s) := fun q => by first | exact q.1 h151 | exact q.1 (Decidable.not_not.mp h151) | exact absurd h158 (Int32.not_lt.mpr q.2)
                           refine ih _ ⟨M6, some (.int (prV R no s)), ?_, cFr_t hc5 (cFr_s hs6), fun q hq hu => ?_⟩
                           · by_cases c : enP (chR R nr no s) np nr (fun k => gI M (144 + 3 * j) k) z mo
                             · first
                                 | (rw [if_pos c] at h188; exact absurd h188 (by decide))
                                 | (rw [show (chF (prV R no) (fun s => enP (chR R nr no s) np nr (fun k => gI M (144 + 3 * j) k) z mo) (s + 1)) = (prV R no s, nI s) from (if_neg hne).trans (if_pos c)]; done)
                             · first
                                 | (rw [if_neg c] at h188; exact absurd rfl h188)
                                 | (rw [show (chF (prV R no) (fun s => enP (chR R nr no s) np nr (fun k => gI M (144 + 3 * j) k) z mo) (s + 1)) = (chF (prV R no) (fun s => enP (chR R nr no s) np nr (fun k => gI M (144 + 3 * j) k) z mo) s) from (if_neg hne).trans (if_neg c)]; done)
                           · exact (hs6.1 _ _ (by omega)).trans ((hst q hq).trans (stF_u hu)))
                  · refine xG_run 2 rfl (by repeat' (first | exact trivial | assumption | exact xob_b rfl | exact xal_b rfl | (apply And.intro) | decide)) ?_
                    try dsimp only [xsto1, xsto2, xkill, xget, xset, gd_0, gd_s]
                    refine xG_br rfl (fun h158 => ?_) (fun h158 => ?_)
                    · refine xG_run 7 rfl (by repeat' (first | exact trivial | assumption | exact xob_b rfl | exact xal_b rfl | (apply And.intro) | decide)) ?_
                      try dsimp only [xsto1, xsto2, xkill, xget, xset, gd_0, gd_s]
                      refine xG_c2 3 rfl (by repeat' (first | exact trivial | assumption | exact xob_b rfl | exact xal_b rfl | (apply And.intro) | decide)) rfl rfl (by decide) cw_X2_strengthen (d' := d - 1) (e_strengthen (s := s) ho2 hr2 hrr hU) (by omega) ?_
                      rintro v M5 ⟨rfl, hw5, hst⟩
                      have hc5 : cFr M4 M5 := cFr_t hc (cFr_w hw5)
                      have hk5 : kFr M M5 := kFr_t hk4 (kFr_c hc5)
                      have hmx : mR (sI (sI M5 28 5 (gI M4 28 5)) 28 6 (gI M4 28 6)) 28 (chR R nr no s) 167 np nr ng := by
                        refine mR_st hm4 (fun q hq => stF_b (r_qB hm hq).2.2.2.1 (fun i hi => (ho.2.2 i hi).2.2.1)) (fun x k q => ?_) (fun q hq => ?_)
                        · by_cases c6 : x = 28 ∧ k = 6
                          · rw [c6.1, c6.2]; exact gI_self _ _ _ _
                          · by_cases c5 : x = 28 ∧ k = 5
                            · rw [c5.1, c5.2]; exact (gI_ne (Or.inr (by decide))).trans (gI_self _ _ _ _)
                            · exact (gI_ne (by omega)).trans ((gI_ne (by omega)).trans (hc5.1 x k (by omega) (by omega)))
                        · exact (gI_ne (by omega)).trans ((gI_ne (by omega)).trans (hst q hq))
                      have hMx : ∀ x k, ¬ (x = 28 ∧ (k = 5 ∨ k = 6)) → gI M5 x k = gI (sI (sI M5 28 5 (gI M4 28 5)) 28 6 (gI M4 28 6)) x k := fun x k q => ((gI_ne (by omega)).trans (gI_ne (by omega))).symm
                      have hBL5 : BL M5 0 (rsV R no) np nr := BL_u hBL hn2 hr2 (fun i k hi _ => hc5.1 _ _ (by omega) (by omega)) (fun i k hi hx => by
                          by_cases c : k = 3
                          · subst c
                            have hu := rsV_b hr2 hi (fun k hk => (ho.2.2 k hk).2.1) hx
                            rw [hst i hi, stF_u hu]
                            exact ((r_q hm4 hi).1 3 (by omega)).symm
                          · exact hc5.1 _ _ (by omega) (by omega)) (hc5.1 _ _ (by omega) (by omega)) ⟨hc5.1 _ _ (by omega) (by omega), hc5.1 _ _ (by omega) (by omega)⟩ (fun t => hc5.2.1 _ _ (by omega)) (fun k => ⟨hc5.2.2 _ _, hc5.2.2 _ _⟩)
                      have hz5 : gI M5 (142 + 3 * j) 3 = nI z := (hk5.1 _ _ (by omega)).trans hz2
                      have hE5 : ∀ k, gI M5 (144 + 3 * j) k = (fun k => gI M (144 + 3 * j) k) k := fun k => hk5.1 _ _ (by omega)
                      dsimp only [Option.toList, List.cons_append, List.nil_append]
                      refine xG_run 3 rfl (by repeat' (first | exact trivial | assumption | exact xob_b rfl | exact xal_b rfl | (apply And.intro) | decide)) ?_
                      try dsimp only [xsto1, xsto2, xkill, xget, xset, gd_0, gd_s]
                      refine xG_c2 2 rfl (by repeat' (first | exact trivial | assumption | exact xob_b rfl | exact xal_b rfl | (apply And.intro) | decide)) rfl rfl (by decide) cw_X11_standsInAll (d' := d - 1) (e_standsInAll hmx hMx hj0c hBL5 hj hz5 hsp hE5 hmo3 (by omega)) (by omega) ?_
                      rintro v M6 ⟨rfl, hs6⟩
                      dsimp only [Option.toList, List.cons_append, List.nil_append]
                      refine xG_br rfl (fun h188 => ?_) (fun h188 => ?_)
                      · refine xG_run 2 rfl (by repeat' (first | exact trivial | assumption | exact xob_b rfl | exact xal_b rfl | (apply And.intro) | decide)) ?_
                        try dsimp only [xsto1, xsto2, xkill, xget, xset, gd_0, gd_s]
                        rw [nI_1]
                        first
                          | (refine ih _ ⟨M2, some (.int (prV R no s)), ?_, hc, hU⟩
                             rw [show (chF (prV R no) (fun s => enP (chR R nr no s) np nr (fun k => gI M (144 + 3 * j) k) z mo) (s + 1)) = (chF (prV R no) (fun s => enP (chR R nr no s) np nr (fun k => gI M (144 + 3 * j) k) z mo) s) from if_pos ⟨h151, Int32.not_lt.mp h158⟩]
                             done)
                          | (have hne : ¬ (¬ (chF (prV R no) (fun s => enP (chR R nr no s) np nr (fun k => gI M (144 + 3 * j) k) z mo) s).1 = -4 ∧ (chF (prV R no) (fun s => enP (chR R nr no s) np nr (fun k => gI M (144 + 3 * j) k) z mo) s).1 ≤ prV R no s) := fun q => by first | exact q.1 h151 | exact q.1 (Decidable.not_not.mp h151) | exact absurd h158 (Int32.not_lt.mpr q.2)
                             refine ih _ ⟨M6, some (.int (prV R no s)), ?_, cFr_t hc5 (cFr_s hs6), fun q hq hu => ?_⟩
                             · by_cases c : enP (chR R nr no s) np nr (fun k => gI M (144 + 3 * j) k) z mo
                               · first
                                   | (rw [if_pos c] at h188; exact absurd h188 (by decide))
                                   | (rw [show (chF (prV R no) (fun s => enP (chR R nr no s) np nr (fun k => gI M (144 + 3 * j) k) z mo) (s + 1)) = (prV R no s, nI s) from (if_neg hne).trans (if_pos c)]; done)
                               · first
                                   | (rw [if_neg c] at h188; exact absurd rfl h188)
                                   | (rw [show (chF (prV R no) (fun s => enP (chR R nr no s) np nr (fun k => gI M (144 + 3 * j) k) z mo) (s + 1)) = (chF (prV R no) (fun s => enP (chR R nr no s) np nr (fun k => gI M (144 + 3 * j) k) z mo) s) from (if_neg hne).trans (if_neg c)]; done)
                             · exact (hs6.1 _ _ (by omega)).trans ((hst q hq).trans (stF_u hu)))
                      · refine xG_run 6 rfl (by repeat' (first | exact trivial | assumption | exact xob_b rfl | exact xal_b rfl | (apply And.intro) | decide)) ?_
                        try dsimp only [xsto1, xsto2, xkill, xget, xset, gd_0, gd_s]
                        rw [nI_1]
                        first
                          | (refine ih _ ⟨M2, some (.int (prV R no s)), ?_, hc, hU⟩
                             rw [show (chF (prV R no) (fun s => enP (chR R nr no s) np nr (fun k => gI M (144 + 3 * j) k) z mo) (s + 1)) = (chF (prV R no) (fun s => enP (chR R nr no s) np nr (fun k => gI M (144 + 3 * j) k) z mo) s) from if_pos ⟨h151, Int32.not_lt.mp h158⟩]
                             done)
                          | (have hne : ¬ (¬ (chF (prV R no) (fun s => enP (chR R nr no s) np nr (fun k => gI M (144 + 3 * j) k) z mo) s).1 = -4 ∧ (chF (prV R no) (fun s => enP (chR R nr no s) np nr (fun k => gI M (144 + 3 * j) k) z mo) s).1 ≤ prV R no s) := fun q => by first | exact q.1 h151 | exact q.1 (Decidable.not_not.mp h151) | exact absurd h158 (Int32.not_lt.mpr q.2)
                             refine ih _ ⟨M6, some (.int (prV R no s)), ?_, cFr_t hc5 (cFr_s hs6), fun q hq hu => ?_⟩
                             · by_cases c : enP (chR R nr no s) np nr (fun k => gI M (144 + 3 * j) k) z mo
                               · first
                                   | (rw [if_pos c] at h188; exact absurd h188 (by decide))
                                   | (rw [show (chF (prV R no) (fun s => enP (chR R nr no s) np nr (fun k => gI M (144 + 3 * j) k) z mo) (s + 1)) = (prV R no s, nI s) from (if_neg hne).trans (if_pos c)]; done)
                               · first
                                   | (rw [if_neg c] at h188; exact absurd rfl h188)
                                   | (rw [show (chF (prV R no) (fun s => enP (chR R nr no s) np nr (fun k => gI M (144 + 3 * j) k) z mo) (s + 1)) = (chF (prV R no) (fun s => enP (chR R nr no s) np nr (fun k => gI M (144 + 3 * j) k) z mo) s) from (if_neg hne).trans (if_neg c)]; done)
                             · exact (hs6.1 _ _ (by omega)).trans ((hst q hq).trans (stF_u hu)))
                    · refine xG_run 3 rfl (by repeat' (first | exact trivial | assumption | exact xob_b rfl | exact xal_b rfl | (apply And.intro) | decide)) ?_
                      try dsimp only [xsto1, xsto2, xkill, xget, xset, gd_0, gd_s]
                      rw [nI_1]
                      first
                        | (refine ih _ ⟨M2, some (.int (prV R no s)), ?_, hc, hU⟩
                           rw [show (chF (prV R no) (fun s => enP (chR R nr no s) np nr (fun k => gI M (144 + 3 * j) k) z mo) (s + 1)) = (chF (prV R no) (fun s => enP (chR R nr no s) np nr (fun k => gI M (144 + 3 * j) k) z mo) s) from if_pos ⟨h151, Int32.not_lt.mp h158⟩]
                           done)
                        | (have hne : ¬ (¬ (chF (prV R no) (fun s => enP (chR R nr no s) np nr (fun k => gI M (144 + 3 * j) k) z mo) s).1 = -4 ∧ (chF (prV R no) (fun s => enP (chR R nr no s) np nr (fun k => gI M (144 + 3 * j) k) z mo) s).1 ≤ prV R no s) := fun q => by first | exact q.1 h151 | exact q.1 (Decidable.not_not.mp h151) | exact absurd h158 (Int32.not_lt.mpr q.2)
                           refine ih _ ⟨M6, some (.int (prV R no s)), ?_, cFr_t hc5 (cFr_s hs6), fun q hq hu => ?_⟩
                           · by_cases c : enP (chR R nr no s) np nr (fun k => gI M (144 + 3 * j) k) z mo
                             · first
                                 | (rw [if_pos c] at h188; exact absurd h188 (by decide))
                                 | (rw [show (chF (prV R no) (fun s => enP (chR R nr no s) np nr (fun k => gI M (144 + 3 * j) k) z mo) (s + 1)) = (prV R no s, nI s) from (if_neg hne).trans (if_pos c)]; done)
                             · first
                                 | (rw [if_neg c] at h188; exact absurd rfl h188)
                                 | (rw [show (chF (prV R no) (fun s => enP (chR R nr no s) np nr (fun k => gI M (144 + 3 * j) k) z mo) (s + 1)) = (chF (prV R no) (fun s => enP (chR R nr no s) np nr (fun k => gI M (144 + 3 * j) k) z mo) s) from (if_neg hne).trans (if_neg c)]; done)
                           · exact (hs6.1 _ _ (by omega)).trans ((hst q hq).trans (stF_u hu)))
                · rintro X ⟨M2, x11, rfl, hc, hU⟩
                  refine xG_run 2 rfl (by repeat' (first | exact trivial | assumption | exact xob_b rfl | exact xal_b rfl | (apply And.intro) | decide)) ?_
                  try dsimp only [xsto1, xsto2, xkill, xget, xset, gd_0, gd_s]
                  refine xG_brT rfl (Int32.le_refl _) ?_
                  refine xG_run 1 rfl (by repeat' (first | exact trivial | assumption | exact xob_b rfl | exact xal_b rfl | (apply And.intro) | decide)) ?_
                  try dsimp only [xsto1, xsto2, xkill, xget, xset, gd_0, gd_s]
                  refine xG_br rfl (fun h206 => ?_) (fun h206 => ?_)
                  · refine xG_run 1 rfl (by repeat' (first | exact trivial | assumption | exact xob_b rfl | exact xal_b rfl | (apply And.intro) | decide)) ?_
                    try dsimp only [xsto1, xsto2, xkill, xget, xset, gd_0, gd_s]
                    refine r2_i rfl rfl ?_
                    refine ⟨Or.inl ⟨j, hj, rfl, ⟨⟨hmk1, hmk2⟩, hww⟩, ?_⟩, kFr_t hk4 (kFr_c hc)⟩
                    unfold cheC cheV
                    rw [hzc, if_neg (fun q => q hrr0), if_pos hsp, nI_cl (by omega)]
                    first
                      | (rw [if_pos (Decidable.not_not.mp h206)]; done)
                      | (rw [if_neg h206]; done)
                  · refine xG_run 2 rfl (by repeat' (first | exact trivial | assumption | exact xob_b rfl | exact xal_b rfl | (apply And.intro) | decide)) ?_
                    try dsimp only [xsto1, xsto2, xkill, xget, xset, gd_0, gd_s]
                    refine r2_i rfl rfl ?_
                    refine ⟨Or.inl ⟨j, hj, rfl, ⟨⟨hmk1, hmk2⟩, hww⟩, ?_⟩, kFr_t hk4 (kFr_c hc)⟩
                    unfold cheC cheV
                    rw [hzc, if_neg (fun q => q hrr0), if_pos hsp, nI_cl (by omega)]
                    first
                      | (rw [if_pos (Decidable.not_not.mp h206)]; done)
                      | (rw [if_neg h206]; done)
              · have hsp : ¬ spOK (fun k => gI M (144 + 3 * j) k) z := fun c => by rw [if_pos c] at h71; exact h71 (by decide)
                refine xG_run 1 rfl (by repeat' (first | exact trivial | assumption | exact xob_b rfl | exact xal_b rfl | (apply And.intro) | decide)) ?_
                try dsimp only [xsto1, xsto2, xkill, xget, xset, gd_0, gd_s]
                refine r2_i rfl rfl ?_
                refine ⟨Or.inl ⟨j, hj, hij, ⟨⟨hmk1, hmk2⟩, hww⟩, ?_⟩, kFr_r⟩
                unfold cheC
                first
                  | (rw [if_pos h59]; done)
                  | (rw [if_neg (fun q => q hrr0), hzc, if_neg hsp]; done)
            · refine xG_run 1 rfl (by repeat' (first | exact trivial | assumption | exact xob_b rfl | exact xal_b rfl | (apply And.intro) | decide)) ?_
              try dsimp only [xsto1, xsto2, xkill, xget, xset, gd_0, gd_s]
              refine r2_i rfl rfl ?_
              refine ⟨Or.inl ⟨j, hj, hij, ⟨⟨hmk1, hmk2⟩, hww⟩, ?_⟩, kFr_r⟩
              unfold cheC
              first
                | (rw [if_pos h59]; done)
                | (rw [if_neg (fun q => q hrr0), hzc, if_neg hsp]; done)
