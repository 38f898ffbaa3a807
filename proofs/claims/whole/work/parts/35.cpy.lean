/-! ===== copy, offer, tell of the class ===== -/
abbrev cpN (M : xM) (a b : Nat) : Prop := gI M (142 + 3 * a) 0 = 0 ∨ gI M (142 + 3 * b) 0 = 0
abbrev cpS (M : xM) (a b : Nat) : Prop := gI M (142 + 3 * a) 0 = 2 ∧ gI M (142 + 3 * b) 0 = 2 ∧ gI M (142 + 3 * a) 2 = gI M (142 + 3 * b) 2
theorem sh_sp : ∀ j, j < 8 → shp[144 + 3 * j]? = some (.inr (0, 120)) := by decide +kernel
theorem cp_x {M : xM} {a b za zb : Nat} {s t n : Int32} (ha : a < 8) (hb : b < 8) (h1 : hsP M a s n) (h2 : hsP M b t n) (e1 : gI M (142 + 3 * a) 3 = nI za) (e2 : gI M (142 + 3 * b) 3 = nI zb) (l1 : za ≤ 120) (l2 : zb ≤ 120) : xcp (144 + 3 * a) (144 + 3 * b) z2.1 s t n := by
  obtain ⟨p1, p2, p3⟩ := h1
  obtain ⟨q1, q2, q3⟩ := h2
  rw [e1, nI_ti (by omega)] at p3
  rw [e2, nI_ti (by omega)] at q3
  rw [Int32.le_iff_toInt_le, Int32.toInt_zero] at p1 p2 q1
  exact ⟨120, 120, sh_sp a ha, sh_sp b hb, by show 144 + 3 * a < 182; omega, by show 144 + 3 * b < 182; omega, p1, q1, p2, by omega, by omega⟩
set_option maxRecDepth 4000 in
theorem e_x_copy {κ : xKK} {d : Nat} {M : xM} (hz : ∀ j, j < 8 → ∃ z, z ≤ 120 ∧ gI M (142 + 3 * j) 3 = nI z) {i s k t n : Int32} (hd : 1 ≤ d) : xE2 κ mX11_copy d [.ref 0, .int i, .int s, .int k, .int t, .int n] M (fun v M' => (∃ a b, a < 8 ∧ b < 8 ∧ i = nI a ∧ k = nI b ∧ ((cpN M a b ∧ v = some (.int (-11)) ∧ M' = M) ∨ (¬ cpN M a b ∧ ¬ cpS M a b ∧ v = some (.int (-12)) ∧ M' = M) ∨ (¬ cpN M a b ∧ cpS M a b ∧ ¬ (hsP M a s n ∧ hsP M b t n) ∧ v = some (.int (-13)) ∧ M' = M) ∨ (¬ cpN M a b ∧ cpS M a b ∧ (hsP M a s n ∧ hsP M b t n) ∧ v = some (.int n) ∧ M' = sC M (144 + 3 * a) s.toNatClampNeg (144 + 3 * b) t.toNatClampNeg n.toNatClampNeg))) ∨ (¬ ((∃ a, a < 8 ∧ i = nI a) ∧ ∃ b, b < 8 ∧ k = nI b) ∧ v = some (.int (-1)) ∧ M' = M)) := by
  refine xE2_of ci_X11_copy cl_X11_copy cw_X11_copy rfl (L := [some (.ref 0), some (.int i), some (.int s), some (.int k), some (.int t), some (.int n), none, none]) rfl ?_
  refine xG_run 2 rfl (by repeat' (first | exact trivial | assumption | exact xob_b rfl | exact xal_b rfl | (apply And.intro) | decide)) ?_
  try dsimp only [xsto1, xsto2, xkill, xget, xset, gd_0, gd_s]
  refine xG_c2 1 rfl (by repeat' (first | exact trivial | assumption | exact xob_b rfl | exact xal_b rfl | (apply And.intro) | decide)) rfl rfl (by decide) cw_X11_shelfAt (d' := d - 1) e_shelfAt (by omega) ?_
  rintro v M' ⟨hv, hM⟩
  subst M'
  rcases hv with ⟨rfl, hna⟩ | ⟨a, ha, hia, rfl⟩
  · dsimp only [Option.toList, List.cons_append, List.nil_append]
    refine xG_run 3 rfl (by repeat' (first | exact trivial | assumption | exact xob_b rfl | exact xal_b rfl | (apply And.intro) | decide)) ?_
    try dsimp only [xsto1, xsto2, xkill, xget, xset, gd_0, gd_s]
    refine xG_c2 1 rfl (by repeat' (first | exact trivial | assumption | exact xob_b rfl | exact xal_b rfl | (apply And.intro) | decide)) rfl rfl (by decide) cw_X11_shelfAt (d' := d - 1) e_shelfAt (by omega) ?_
    rintro v M' ⟨hv, hM⟩
    subst M'
    rcases hv with ⟨rfl, hnb⟩ | ⟨b, hb, hib, rfl⟩
    · dsimp only [Option.toList, List.cons_append, List.nil_append]
      refine xG_run 4 rfl (by repeat' (first | exact trivial | assumption | exact xob_b rfl | exact xal_b rfl | (apply And.intro) | decide)) ?_
      try dsimp only [xsto1, xsto2, xkill, xget, xset, gd_0, gd_s]
      refine r2_i rfl rfl ?_
      first
        | exact Or.inr ⟨fun q => by first | exact hna (by obtain ⟨⟨j9, a1, a2⟩, -⟩ := q; rw [a2]; exact inI a1 (by omega)) | exact hnb (by obtain ⟨-, ⟨j9, a1, a2⟩⟩ := q; rw [a2]; exact inI a1 (by omega)), rfl, rfl⟩
        | exact Or.inl ⟨a, b, ha, hb, hia, hib, Or.inl ⟨by first | exact Or.inl h31 | exact Or.inr (Decidable.not_not.mp h39), rfl, rfl⟩⟩
        | exact Or.inl ⟨a, b, ha, hb, hia, hib, Or.inr (Or.inl ⟨fun q => q.elim h31 h39, fun q => by first | exact h51 q.1 | exact h60 q.2.1 | exact h73 q.2.2, rfl, rfl⟩)⟩
        | (have hS : cpS M a b := ⟨Decidable.not_not.mp h51, Decidable.not_not.mp h60, h73⟩
           have hN : ¬ cpN M a b := fun q => q.elim h31 h39
           first
             | exact Or.inl ⟨a, b, ha, hb, hia, hib, Or.inr (Or.inr (Or.inl ⟨hN, hS, fun q => by first | exact b87 q.1 | exact b99 q.2, rfl, rfl⟩))⟩
             | exact Or.inl ⟨a, b, ha, hb, hia, hib, Or.inr (Or.inr (Or.inr ⟨hN, hS, ⟨b87, b99⟩, rfl, rfl⟩))⟩)
    · dsimp only [Option.toList, List.cons_append, List.nil_append]
      have hxb : xob (142 + 3 * b) 8 182 := xob_sh hb
      have hspb : xob (143 + 3 * b) 3 182 := xob_sp hb
      refine xG_run 4 rfl (by repeat' (first | exact trivial | assumption | exact xob_b rfl | exact xal_b rfl | (apply And.intro) | decide)) ?_
      try dsimp only [xsto1, xsto2, xkill, xget, xset, gd_0, gd_s]
      refine r2_i rfl rfl ?_
      first
        | exact Or.inr ⟨fun q => by first | exact hna (by obtain ⟨⟨j9, a1, a2⟩, -⟩ := q; rw [a2]; exact inI a1 (by omega)) | exact hnb (by obtain ⟨-, ⟨j9, a1, a2⟩⟩ := q; rw [a2]; exact inI a1 (by omega)), rfl, rfl⟩
        | exact Or.inl ⟨a, b, ha, hb, hia, hib, Or.inl ⟨by first | exact Or.inl h31 | exact Or.inr (Decidable.not_not.mp h39), rfl, rfl⟩⟩
        | exact Or.inl ⟨a, b, ha, hb, hia, hib, Or.inr (Or.inl ⟨fun q => q.elim h31 h39, fun q => by first | exact h51 q.1 | exact h60 q.2.1 | exact h73 q.2.2, rfl, rfl⟩)⟩
        | (have hS : cpS M a b := ⟨Decidable.not_not.mp h51, Decidable.not_not.mp h60, h73⟩
           have hN : ¬ cpN M a b := fun q => q.elim h31 h39
           first
             | exact Or.inl ⟨a, b, ha, hb, hia, hib, Or.inr (Or.inr (Or.inl ⟨hN, hS, fun q => by first | exact b87 q.1 | exact b99 q.2, rfl, rfl⟩))⟩
             | exact Or.inl ⟨a, b, ha, hb, hia, hib, Or.inr (Or.inr (Or.inr ⟨hN, hS, ⟨b87, b99⟩, rfl, rfl⟩))⟩)
  · dsimp only [Option.toList, List.cons_append, List.nil_append]
    have hxa : xob (142 + 3 * a) 8 182 := xob_sh ha
    have hspa : xob (143 + 3 * a) 3 182 := xob_sp ha
    refine xG_run 3 rfl (by repeat' (first | exact trivial | assumption | exact xob_b rfl | exact xal_b rfl | (apply And.intro) | decide)) ?_
    try dsimp only [xsto1, xsto2, xkill, xget, xset, gd_0, gd_s]
    refine xG_c2 1 rfl (by repeat' (first | exact trivial | assumption | exact xob_b rfl | exact xal_b rfl | (apply And.intro) | decide)) rfl rfl (by decide) cw_X11_shelfAt (d' := d - 1) e_shelfAt (by omega) ?_
    rintro v M' ⟨hv, hM⟩
    subst M'
    rcases hv with ⟨rfl, hnb⟩ | ⟨b, hb, hib, rfl⟩
    · dsimp only [Option.toList, List.cons_append, List.nil_append]
      refine xG_run 6 rfl (by repeat' (first | exact trivial | assumption | exact xob_b rfl | exact xal_b rfl | (apply And.intro) | decide)) ?_
      try dsimp only [xsto1, xsto2, xkill, xget, xset, gd_0, gd_s]
      refine r2_i rfl rfl ?_
      first
        | exact Or.inr ⟨fun q => by first | exact hna (by obtain ⟨⟨j9, a1, a2⟩, -⟩ := q; rw [a2]; exact inI a1 (by omega)) | exact hnb (by obtain ⟨-, ⟨j9, a1, a2⟩⟩ := q; rw [a2]; exact inI a1 (by omega)), rfl, rfl⟩
        | exact Or.inl ⟨a, b, ha, hb, hia, hib, Or.inl ⟨by first | exact Or.inl h31 | exact Or.inr (Decidable.not_not.mp h39), rfl, rfl⟩⟩
        | exact Or.inl ⟨a, b, ha, hb, hia, hib, Or.inr (Or.inl ⟨fun q => q.elim h31 h39, fun q => by first | exact h51 q.1 | exact h60 q.2.1 | exact h73 q.2.2, rfl, rfl⟩)⟩
        | (have hS : cpS M a b := ⟨Decidable.not_not.mp h51, Decidable.not_not.mp h60, h73⟩
           have hN : ¬ cpN M a b := fun q => q.elim h31 h39
           first
             | exact Or.inl ⟨a, b, ha, hb, hia, hib, Or.inr (Or.inr (Or.inl ⟨hN, hS, fun q => by first | exact b87 q.1 | exact b99 q.2, rfl, rfl⟩))⟩
             | exact Or.inl ⟨a, b, ha, hb, hia, hib, Or.inr (Or.inr (Or.inr ⟨hN, hS, ⟨b87, b99⟩, rfl, rfl⟩))⟩)
    · dsimp only [Option.toList, List.cons_append, List.nil_append]
      have hxb : xob (142 + 3 * b) 8 182 := xob_sh hb
      have hspb : xob (143 + 3 * b) 3 182 := xob_sp hb
      refine xG_run 7 rfl (by repeat' (first | exact trivial | assumption | exact xob_b rfl | exact xal_b rfl | (apply And.intro) | decide)) ?_
      try dsimp only [xsto1, xsto2, xkill, xget, xset, gd_0, gd_s]
      refine xG_br rfl (fun h31 => ?_) (fun h31 => ?_)
      · refine xG_run 1 rfl (by repeat' (first | exact trivial | assumption | exact xob_b rfl | exact xal_b rfl | (apply And.intro) | decide)) ?_
        try dsimp only [xsto1, xsto2, xkill, xget, xset, gd_0, gd_s]
        refine r2_i rfl rfl ?_
        first
          | exact Or.inr ⟨fun q => by first | exact hna (by obtain ⟨⟨j9, a1, a2⟩, -⟩ := q; rw [a2]; exact inI a1 (by omega)) | exact hnb (by obtain ⟨-, ⟨j9, a1, a2⟩⟩ := q; rw [a2]; exact inI a1 (by omega)), rfl, rfl⟩
          | exact Or.inl ⟨a, b, ha, hb, hia, hib, Or.inl ⟨by first | exact Or.inl h31 | exact Or.inr (Decidable.not_not.mp h39), rfl, rfl⟩⟩
          | exact Or.inl ⟨a, b, ha, hb, hia, hib, Or.inr (Or.inl ⟨fun q => q.elim h31 h39, fun q => by first | exact h51 q.1 | exact h60 q.2.1 | exact h73 q.2.2, rfl, rfl⟩)⟩
          | (have hS : cpS M a b := ⟨Decidable.not_not.mp h51, Decidable.not_not.mp h60, h73⟩
             have hN : ¬ cpN M a b := fun q => q.elim h31 h39
             first
               | exact Or.inl ⟨a, b, ha, hb, hia, hib, Or.inr (Or.inr (Or.inl ⟨hN, hS, fun q => by first | exact b87 q.1 | exact b99 q.2, rfl, rfl⟩))⟩
               | exact Or.inl ⟨a, b, ha, hb, hia, hib, Or.inr (Or.inr (Or.inr ⟨hN, hS, ⟨b87, b99⟩, rfl, rfl⟩))⟩)
      · refine xG_run 2 rfl (by repeat' (first | exact trivial | assumption | exact xob_b rfl | exact xal_b rfl | (apply And.intro) | decide)) ?_
        try dsimp only [xsto1, xsto2, xkill, xget, xset, gd_0, gd_s]
        refine xG_br rfl (fun h39 => ?_) (fun h39 => ?_)
        · refine xG_run 3 rfl (by repeat' (first | exact trivial | assumption | exact xob_b rfl | exact xal_b rfl | (apply And.intro) | decide)) ?_
          try dsimp only [xsto1, xsto2, xkill, xget, xset, gd_0, gd_s]
          refine xG_br rfl (fun h51 => ?_) (fun h51 => ?_)
          · refine xG_run 1 rfl (by repeat' (first | exact trivial | assumption | exact xob_b rfl | exact xal_b rfl | (apply And.intro) | decide)) ?_
            try dsimp only [xsto1, xsto2, xkill, xget, xset, gd_0, gd_s]
            refine r2_i rfl rfl ?_
            first
              | exact Or.inr ⟨fun q => by first | exact hna (by obtain ⟨⟨j9, a1, a2⟩, -⟩ := q; rw [a2]; exact inI a1 (by omega)) | exact hnb (by obtain ⟨-, ⟨j9, a1, a2⟩⟩ := q; rw [a2]; exact inI a1 (by omega)), rfl, rfl⟩
              | exact Or.inl ⟨a, b, ha, hb, hia, hib, Or.inl ⟨by first | exact Or.inl h31 | exact Or.inr (Decidable.not_not.mp h39), rfl, rfl⟩⟩
              | exact Or.inl ⟨a, b, ha, hb, hia, hib, Or.inr (Or.inl ⟨fun q => q.elim h31 h39, fun q => by first | exact h51 q.1 | exact h60 q.2.1 | exact h73 q.2.2, rfl, rfl⟩)⟩
              | (have hS : cpS M a b := ⟨Decidable.not_not.mp h51, Decidable.not_not.mp h60, h73⟩
                 have hN : ¬ cpN M a b := fun q => q.elim h31 h39
                 first
                   | exact Or.inl ⟨a, b, ha, hb, hia, hib, Or.inr (Or.inr (Or.inl ⟨hN, hS, fun q => by first | exact b87 q.1 | exact b99 q.2, rfl, rfl⟩))⟩
                   | exact Or.inl ⟨a, b, ha, hb, hia, hib, Or.inr (Or.inr (Or.inr ⟨hN, hS, ⟨b87, b99⟩, rfl, rfl⟩))⟩)
          · refine xG_run 3 rfl (by repeat' (first | exact trivial | assumption | exact xob_b rfl | exact xal_b rfl | (apply And.intro) | decide)) ?_
            try dsimp only [xsto1, xsto2, xkill, xget, xset, gd_0, gd_s]
            refine xG_br rfl (fun h60 => ?_) (fun h60 => ?_)
            · refine xG_run 1 rfl (by repeat' (first | exact trivial | assumption | exact xob_b rfl | exact xal_b rfl | (apply And.intro) | decide)) ?_
              try dsimp only [xsto1, xsto2, xkill, xget, xset, gd_0, gd_s]
              refine r2_i rfl rfl ?_
              first
                | exact Or.inr ⟨fun q => by first | exact hna (by obtain ⟨⟨j9, a1, a2⟩, -⟩ := q; rw [a2]; exact inI a1 (by omega)) | exact hnb (by obtain ⟨-, ⟨j9, a1, a2⟩⟩ := q; rw [a2]; exact inI a1 (by omega)), rfl, rfl⟩
                | exact Or.inl ⟨a, b, ha, hb, hia, hib, Or.inl ⟨by first | exact Or.inl h31 | exact Or.inr (Decidable.not_not.mp h39), rfl, rfl⟩⟩
                | exact Or.inl ⟨a, b, ha, hb, hia, hib, Or.inr (Or.inl ⟨fun q => q.elim h31 h39, fun q => by first | exact h51 q.1 | exact h60 q.2.1 | exact h73 q.2.2, rfl, rfl⟩)⟩
                | (have hS : cpS M a b := ⟨Decidable.not_not.mp h51, Decidable.not_not.mp h60, h73⟩
                   have hN : ¬ cpN M a b := fun q => q.elim h31 h39
                   first
                     | exact Or.inl ⟨a, b, ha, hb, hia, hib, Or.inr (Or.inr (Or.inl ⟨hN, hS, fun q => by first | exact b87 q.1 | exact b99 q.2, rfl, rfl⟩))⟩
                     | exact Or.inl ⟨a, b, ha, hb, hia, hib, Or.inr (Or.inr (Or.inr ⟨hN, hS, ⟨b87, b99⟩, rfl, rfl⟩))⟩)
            · refine xG_run 4 rfl (by repeat' (first | exact trivial | assumption | exact xob_b rfl | exact xal_b rfl | (apply And.intro) | decide)) ?_
              try dsimp only [xsto1, xsto2, xkill, xget, xset, gd_0, gd_s]
              refine xG_br rfl (fun h73 => ?_) (fun h73 => ?_)
              · refine xG_run 3 rfl (by repeat' (first | exact trivial | assumption | exact xob_b rfl | exact xal_b rfl | (apply And.intro) | decide)) ?_
                try dsimp only [xsto1, xsto2, xkill, xget, xset, gd_0, gd_s]
                refine xG_c2 2 rfl (by repeat' (first | exact trivial | assumption | exact xob_b rfl | exact xal_b rfl | (apply And.intro) | decide)) rfl rfl (by decide) cw_X8_hasSpan (d' := d - 1) (e_hasSpan ha) (by omega) ?_
                rintro v M' ⟨rfl, hM⟩
                subst M'
                dsimp only [Option.toList, List.cons_append, List.nil_append]
                refine xG_br rfl (fun h87 => ?_) (fun h87 => ?_)
                · have b87 := z0.mp h87
                  refine xG_run 1 rfl (by repeat' (first | exact trivial | assumption | exact xob_b rfl | exact xal_b rfl | (apply And.intro) | decide)) ?_
                  try dsimp only [xsto1, xsto2, xkill, xget, xset, gd_0, gd_s]
                  refine r2_i rfl rfl ?_
                  first
                    | exact Or.inr ⟨fun q => by first | exact hna (by obtain ⟨⟨j9, a1, a2⟩, -⟩ := q; rw [a2]; exact inI a1 (by omega)) | exact hnb (by obtain ⟨-, ⟨j9, a1, a2⟩⟩ := q; rw [a2]; exact inI a1 (by omega)), rfl, rfl⟩
                    | exact Or.inl ⟨a, b, ha, hb, hia, hib, Or.inl ⟨by first | exact Or.inl h31 | exact Or.inr (Decidable.not_not.mp h39), rfl, rfl⟩⟩
                    | exact Or.inl ⟨a, b, ha, hb, hia, hib, Or.inr (Or.inl ⟨fun q => q.elim h31 h39, fun q => by first | exact h51 q.1 | exact h60 q.2.1 | exact h73 q.2.2, rfl, rfl⟩)⟩
                    | (have hS : cpS M a b := ⟨Decidable.not_not.mp h51, Decidable.not_not.mp h60, h73⟩
                       have hN : ¬ cpN M a b := fun q => q.elim h31 h39
                       first
                         | exact Or.inl ⟨a, b, ha, hb, hia, hib, Or.inr (Or.inr (Or.inl ⟨hN, hS, fun q => by first | exact b87 q.1 | exact b99 q.2, rfl, rfl⟩))⟩
                         | exact Or.inl ⟨a, b, ha, hb, hia, hib, Or.inr (Or.inr (Or.inr ⟨hN, hS, ⟨b87, b99⟩, rfl, rfl⟩))⟩)
                · have b87 := z1.mp h87
                  refine xG_run 3 rfl (by repeat' (first | exact trivial | assumption | exact xob_b rfl | exact xal_b rfl | (apply And.intro) | decide)) ?_
                  try dsimp only [xsto1, xsto2, xkill, xget, xset, gd_0, gd_s]
                  refine xG_c2 2 rfl (by repeat' (first | exact trivial | assumption | exact xob_b rfl | exact xal_b rfl | (apply And.intro) | decide)) rfl rfl (by decide) cw_X8_hasSpan (d' := d - 1) (e_hasSpan hb) (by omega) ?_
                  rintro v M' ⟨rfl, hM⟩
                  subst M'
                  dsimp only [Option.toList, List.cons_append, List.nil_append]
                  refine xG_br rfl (fun h99 => ?_) (fun h99 => ?_)
                  · have b99 := z1.mp h99
                    obtain ⟨za, la, ea⟩ := hz a ha
                    obtain ⟨zb, lb, eb⟩ := hz b hb
                    have hcp := cp_x ha hb b87 b99 ea eb la lb
                    refine xG_run 2 rfl (by repeat' (first | exact trivial | assumption | exact xob_b rfl | exact xal_b rfl | (apply And.intro) | decide)) ?_
                    try dsimp only [xsto1, xsto2, xkill, xget, xset, gd_0, gd_s]
                    rw [sh_el ha]
                    refine xG_run 3 rfl (by repeat' (first | exact trivial | assumption | exact xob_b rfl | exact xal_b rfl | (apply And.intro) | decide)) ?_
                    try dsimp only [xsto1, xsto2, xkill, xget, xset, gd_0, gd_s]
                    rw [sh_el hb]
                    refine xG_run 4 rfl (by repeat' (first | exact trivial | assumption | exact xob_b rfl | exact xal_b rfl | (apply And.intro) | decide)) ?_
                    try dsimp only [xsto1, xsto2, xkill, xget, xset, gd_0, gd_s]
                    refine r2_i rfl rfl ?_
                    first
                      | exact Or.inr ⟨fun q => by first | exact hna (by obtain ⟨⟨j9, a1, a2⟩, -⟩ := q; rw [a2]; exact inI a1 (by omega)) | exact hnb (by obtain ⟨-, ⟨j9, a1, a2⟩⟩ := q; rw [a2]; exact inI a1 (by omega)), rfl, rfl⟩
                      | exact Or.inl ⟨a, b, ha, hb, hia, hib, Or.inl ⟨by first | exact Or.inl h31 | exact Or.inr (Decidable.not_not.mp h39), rfl, rfl⟩⟩
                      | exact Or.inl ⟨a, b, ha, hb, hia, hib, Or.inr (Or.inl ⟨fun q => q.elim h31 h39, fun q => by first | exact h51 q.1 | exact h60 q.2.1 | exact h73 q.2.2, rfl, rfl⟩)⟩
                      | (have hS : cpS M a b := ⟨Decidable.not_not.mp h51, Decidable.not_not.mp h60, h73⟩
                         have hN : ¬ cpN M a b := fun q => q.elim h31 h39
                         first
                           | exact Or.inl ⟨a, b, ha, hb, hia, hib, Or.inr (Or.inr (Or.inl ⟨hN, hS, fun q => by first | exact b87 q.1 | exact b99 q.2, rfl, rfl⟩))⟩
                           | exact Or.inl ⟨a, b, ha, hb, hia, hib, Or.inr (Or.inr (Or.inr ⟨hN, hS, ⟨b87, b99⟩, rfl, rfl⟩))⟩)
                  · have b99 := z0.mp (Decidable.not_not.mp h99)
                    refine xG_run 1 rfl (by repeat' (first | exact trivial | assumption | exact xob_b rfl | exact xal_b rfl | (apply And.intro) | decide)) ?_
                    try dsimp only [xsto1, xsto2, xkill, xget, xset, gd_0, gd_s]
                    refine r2_i rfl rfl ?_
                    first
                      | exact Or.inr ⟨fun q => by first | exact hna (by obtain ⟨⟨j9, a1, a2⟩, -⟩ := q; rw [a2]; exact inI a1 (by omega)) | exact hnb (by obtain ⟨-, ⟨j9, a1, a2⟩⟩ := q; rw [a2]; exact inI a1 (by omega)), rfl, rfl⟩
                      | exact Or.inl ⟨a, b, ha, hb, hia, hib, Or.inl ⟨by first | exact Or.inl h31 | exact Or.inr (Decidable.not_not.mp h39), rfl, rfl⟩⟩
                      | exact Or.inl ⟨a, b, ha, hb, hia, hib, Or.inr (Or.inl ⟨fun q => q.elim h31 h39, fun q => by first | exact h51 q.1 | exact h60 q.2.1 | exact h73 q.2.2, rfl, rfl⟩)⟩
                      | (have hS : cpS M a b := ⟨Decidable.not_not.mp h51, Decidable.not_not.mp h60, h73⟩
                         have hN : ¬ cpN M a b := fun q => q.elim h31 h39
                         first
                           | exact Or.inl ⟨a, b, ha, hb, hia, hib, Or.inr (Or.inr (Or.inl ⟨hN, hS, fun q => by first | exact b87 q.1 | exact b99 q.2, rfl, rfl⟩))⟩
                           | exact Or.inl ⟨a, b, ha, hb, hia, hib, Or.inr (Or.inr (Or.inr ⟨hN, hS, ⟨b87, b99⟩, rfl, rfl⟩))⟩)
              · refine xG_run 1 rfl (by repeat' (first | exact trivial | assumption | exact xob_b rfl | exact xal_b rfl | (apply And.intro) | decide)) ?_
                try dsimp only [xsto1, xsto2, xkill, xget, xset, gd_0, gd_s]
                refine r2_i rfl rfl ?_
                first
                  | exact Or.inr ⟨fun q => by first | exact hna (by obtain ⟨⟨j9, a1, a2⟩, -⟩ := q; rw [a2]; exact inI a1 (by omega)) | exact hnb (by obtain ⟨-, ⟨j9, a1, a2⟩⟩ := q; rw [a2]; exact inI a1 (by omega)), rfl, rfl⟩
                  | exact Or.inl ⟨a, b, ha, hb, hia, hib, Or.inl ⟨by first | exact Or.inl h31 | exact Or.inr (Decidable.not_not.mp h39), rfl, rfl⟩⟩
                  | exact Or.inl ⟨a, b, ha, hb, hia, hib, Or.inr (Or.inl ⟨fun q => q.elim h31 h39, fun q => by first | exact h51 q.1 | exact h60 q.2.1 | exact h73 q.2.2, rfl, rfl⟩)⟩
                  | (have hS : cpS M a b := ⟨Decidable.not_not.mp h51, Decidable.not_not.mp h60, h73⟩
                     have hN : ¬ cpN M a b := fun q => q.elim h31 h39
                     first
                       | exact Or.inl ⟨a, b, ha, hb, hia, hib, Or.inr (Or.inr (Or.inl ⟨hN, hS, fun q => by first | exact b87 q.1 | exact b99 q.2, rfl, rfl⟩))⟩
                       | exact Or.inl ⟨a, b, ha, hb, hia, hib, Or.inr (Or.inr (Or.inr ⟨hN, hS, ⟨b87, b99⟩, rfl, rfl⟩))⟩)
        · refine xG_run 1 rfl (by repeat' (first | exact trivial | assumption | exact xob_b rfl | exact xal_b rfl | (apply And.intro) | decide)) ?_
          try dsimp only [xsto1, xsto2, xkill, xget, xset, gd_0, gd_s]
          refine r2_i rfl rfl ?_
          first
            | exact Or.inr ⟨fun q => by first | exact hna (by obtain ⟨⟨j9, a1, a2⟩, -⟩ := q; rw [a2]; exact inI a1 (by omega)) | exact hnb (by obtain ⟨-, ⟨j9, a1, a2⟩⟩ := q; rw [a2]; exact inI a1 (by omega)), rfl, rfl⟩
            | exact Or.inl ⟨a, b, ha, hb, hia, hib, Or.inl ⟨by first | exact Or.inl h31 | exact Or.inr (Decidable.not_not.mp h39), rfl, rfl⟩⟩
            | exact Or.inl ⟨a, b, ha, hb, hia, hib, Or.inr (Or.inl ⟨fun q => q.elim h31 h39, fun q => by first | exact h51 q.1 | exact h60 q.2.1 | exact h73 q.2.2, rfl, rfl⟩)⟩
            | (have hS : cpS M a b := ⟨Decidable.not_not.mp h51, Decidable.not_not.mp h60, h73⟩
               have hN : ¬ cpN M a b := fun q => q.elim h31 h39
               first
                 | exact Or.inl ⟨a, b, ha, hb, hia, hib, Or.inr (Or.inr (Or.inl ⟨hN, hS, fun q => by first | exact b87 q.1 | exact b99 q.2, rfl, rfl⟩))⟩
                 | exact Or.inl ⟨a, b, ha, hb, hia, hib, Or.inr (Or.inr (Or.inr ⟨hN, hS, ⟨b87, b99⟩, rfl, rfl⟩))⟩)
set_option maxRecDepth 4000 in
theorem e_oadd {κ : xKK} {d : Nat} {M : xM} {no : Nat} (ho : gI M 71 3 = nI no) (ho2 : no ≤ 8) (hlt : no < 8) {x y z : Int32} : xE2 κ mX2_add d [.ref 71, .int x, .int y, .int z] M (fun v M' => v = some (.int (nI (no + 1))) ∧ M' = sI (sI (sI (sI M 72 no x) 73 no y) 74 no z) 71 3 (nI (no + 1))) := by
  refine xE2_of ci_X2_add cl_X2_add cw_X2_add rfl (L := [some (.ref 71), some (.int x), some (.int y), some (.int z)]) rfl ?_
  have hj1 : (nI no).toNatClampNeg = no := nI_cl (by omega)
  have hs0 : xar 72 0 182 (nI no) := xar_n rfl 8 rfl hlt (by omega)
  have hs1 : xar 73 0 182 (nI no) := xar_n rfl 8 rfl hlt (by omega)
  have hs2 : xar 74 0 182 (nI no) := xar_n rfl 8 rfl hlt (by omega)
  have g1 : ∀ v, gI (sI M 72 no v) 71 3 = nI no := fun v => (gI_ne (Or.inl (by decide))).trans ho
  have g2 : ∀ v u, gI (sI (sI M 72 no v) 73 no u) 71 3 = nI no := fun v u => (gI_ne (Or.inl (by decide))).trans (g1 v)
  have g3 : ∀ v u t, gI (sI (sI (sI M 72 no v) 73 no u) 74 no t) 71 3 = nI no := fun v u t => (gI_ne (Or.inl (by decide))).trans (g2 v u)
  refine xG_run 4 rfl (by repeat' (first | exact trivial | assumption | exact xob_b rfl | exact xal_b rfl | (apply And.intro) | decide)) ?_
  try dsimp only [xsto1, xsto2, xkill, xget, xset, gd_0, gd_s]
  try simp only [ho, g1, g2, g3, hj1, gI_self, nI_1]
  try simp only [ho, g1, g2, g3, hj1, gI_self, nI_1]
  refine xG_run 2 rfl (by repeat' (first | exact trivial | assumption | exact xob_b rfl | exact xal_b rfl | (apply And.intro) | decide)) ?_
  try dsimp only [xsto1, xsto2, xkill, xget, xset, gd_0, gd_s]
  try simp only [ho, g1, g2, g3, hj1, gI_self, nI_1]
  try simp only [ho, g1, g2, g3, hj1, gI_self, nI_1]
  refine xG_run 4 rfl (by repeat' (first | exact trivial | assumption | exact xob_b rfl | exact xal_b rfl | (apply And.intro) | decide)) ?_
  try dsimp only [xsto1, xsto2, xkill, xget, xset, gd_0, gd_s]
  try simp only [ho, g1, g2, g3, hj1, gI_self, nI_1]
  try simp only [ho, g1, g2, g3, hj1, gI_self, nI_1]
  refine xG_run 2 rfl (by repeat' (first | exact trivial | assumption | exact xob_b rfl | exact xal_b rfl | (apply And.intro) | decide)) ?_
  try dsimp only [xsto1, xsto2, xkill, xget, xset, gd_0, gd_s]
  try simp only [ho, g1, g2, g3, hj1, gI_self, nI_1]
  try simp only [ho, g1, g2, g3, hj1, gI_self, nI_1]
  refine xG_run 4 rfl (by repeat' (first | exact trivial | assumption | exact xob_b rfl | exact xal_b rfl | (apply And.intro) | decide)) ?_
  try dsimp only [xsto1, xsto2, xkill, xget, xset, gd_0, gd_s]
  try simp only [ho, g1, g2, g3, hj1, gI_self, nI_1]
  try simp only [ho, g1, g2, g3, hj1, gI_self, nI_1]
  refine xG_run 2 rfl (by repeat' (first | exact trivial | assumption | exact xob_b rfl | exact xal_b rfl | (apply And.intro) | decide)) ?_
  try dsimp only [xsto1, xsto2, xkill, xget, xset, gd_0, gd_s]
  try simp only [ho, g1, g2, g3, hj1, gI_self, nI_1]
  try simp only [ho, g1, g2, g3, hj1, gI_self, nI_1]
  refine xG_run 5 rfl (by repeat' (first | exact trivial | assumption | exact xob_b rfl | exact xal_b rfl | (apply And.intro) | decide)) ?_
  try dsimp only [xsto1, xsto2, xkill, xget, xset, gd_0, gd_s]
  try simp only [ho, g1, g2, g3, hj1, gI_self, nI_1]
  try simp only [ho, g1, g2, g3, hj1, gI_self, nI_1]
  refine xG_run 3 rfl (by repeat' (first | exact trivial | assumption | exact xob_b rfl | exact xal_b rfl | (apply And.intro) | decide)) ?_
  try dsimp only [xsto1, xsto2, xkill, xget, xset, gd_0, gd_s]
  try simp only [ho, g1, g2, g3, hj1, gI_self, nI_1]
  refine r2_i rfl rfl ?_
  exact ⟨rfl, rfl⟩
set_option maxRecDepth 4000 in
theorem e_x_offer {κ : xKK} {d : Nat} {M : xM} {nr : Nat} (hr : gI M 1 3 = nI nr) (hr2 : nr ≤ 12) {no : Nat} (ho : gI M 71 3 = nI no) (ho2 : no ≤ 8) {x y z : Int32} (hd : 1 ≤ d) : xE2 κ mX11_offer d [.ref 0, .int x, .int y, .int z] M (fun v M' => (∃ q, q < nr ∧ x = nI q ∧ (1 ≤ y ∧ y ≤ 99 ∧ 1 ≤ z ∧ z ≤ 999) ∧ ((no < 8 ∧ v = some (.int (nI (no + 1))) ∧ M' = sI (sI (sI (sI M 72 no x) 73 no y) 74 no z) 71 3 (nI (no + 1))) ∨ (no = 8 ∧ v = some (.int (-2)) ∧ M' = M))) ∨ (¬ ((∃ q, q < nr ∧ x = nI q) ∧ 1 ≤ y ∧ y ≤ 99 ∧ 1 ≤ z ∧ z ≤ 999) ∧ v = some (.int (-1)) ∧ M' = M)) := by
  refine xE2_of ci_X11_offer cl_X11_offer cw_X11_offer rfl (L := [some (.ref 0), some (.int x), some (.int y), some (.int z)]) rfl ?_
  refine xG_run 3 rfl (by repeat' (first | exact trivial | assumption | exact xob_b rfl | exact xal_b rfl | (apply And.intro) | decide)) ?_
  try dsimp only [xsto1, xsto2, xkill, xget, xset, gd_0, gd_s]
  refine xG_c2 1 rfl (by repeat' (first | exact trivial | assumption | exact xob_b rfl | exact xal_b rfl | (apply And.intro) | decide)) rfl rfl (by decide) cw_X1_ropeAt (d' := d - 1) (e_ropeAt hr hr2) (by omega) ?_
  rintro v M' ⟨hv, hM⟩
  subst M'
  rcases hv with ⟨rfl, hnq⟩ | ⟨q, hq, hiq, rfl⟩
  · dsimp only [Option.toList, List.cons_append, List.nil_append]
    refine xG_run 2 rfl (by repeat' (first | exact trivial | assumption | exact xob_b rfl | exact xal_b rfl | (apply And.intro) | decide)) ?_
    try dsimp only [xsto1, xsto2, xkill, xget, xset, gd_0, gd_s]
    refine r2_i rfl rfl ?_
    first
      | (refine Or.inr ⟨?_, rfl, rfl⟩
         rintro ⟨⟨q9, a1, a2⟩, a3, a4, a5, a6⟩
         first
           | exact hnq (by rw [a2]; exact inI a1 (by omega))
           | exact i_nlt a3 h13
           | exact i_nlt a4 h19
           | exact i_nlt a5 h24
           | exact h31 a6)
      | exact Or.inl ⟨q, hq, hiq, ⟨Int32.not_lt.mp h13, Int32.not_lt.mp h19, Int32.not_lt.mp h24, h31⟩, Or.inl ⟨hlt, rfl, rfl⟩⟩
      | exact Or.inl ⟨q, hq, hiq, ⟨Int32.not_lt.mp h13, Int32.not_lt.mp h19, Int32.not_lt.mp h24, h31⟩, Or.inr ⟨hlt, rfl, rfl⟩⟩
  · dsimp only [Option.toList, List.cons_append, List.nil_append]
    have hxq : xob (16 + q) 5 182 := xob_r1 (by omega)
    refine xG_run 3 rfl (by repeat' (first | exact trivial | assumption | exact xob_b rfl | exact xal_b rfl | (apply And.intro) | decide)) ?_
    try dsimp only [xsto1, xsto2, xkill, xget, xset, gd_0, gd_s]
    refine xG_br rfl (fun h13 => ?_) (fun h13 => ?_)
    · refine xG_run 1 rfl (by repeat' (first | exact trivial | assumption | exact xob_b rfl | exact xal_b rfl | (apply And.intro) | decide)) ?_
      try dsimp only [xsto1, xsto2, xkill, xget, xset, gd_0, gd_s]
      refine r2_i rfl rfl ?_
      first
        | (refine Or.inr ⟨?_, rfl, rfl⟩
           rintro ⟨⟨q9, a1, a2⟩, a3, a4, a5, a6⟩
           first
             | exact hnq (by rw [a2]; exact inI a1 (by omega))
             | exact i_nlt a3 h13
             | exact i_nlt a4 h19
             | exact i_nlt a5 h24
             | exact h31 a6)
        | exact Or.inl ⟨q, hq, hiq, ⟨Int32.not_lt.mp h13, Int32.not_lt.mp h19, Int32.not_lt.mp h24, h31⟩, Or.inl ⟨hlt, rfl, rfl⟩⟩
        | exact Or.inl ⟨q, hq, hiq, ⟨Int32.not_lt.mp h13, Int32.not_lt.mp h19, Int32.not_lt.mp h24, h31⟩, Or.inr ⟨hlt, rfl, rfl⟩⟩
    · refine xG_run 2 rfl (by repeat' (first | exact trivial | assumption | exact xob_b rfl | exact xal_b rfl | (apply And.intro) | decide)) ?_
      try dsimp only [xsto1, xsto2, xkill, xget, xset, gd_0, gd_s]
      refine xG_br rfl (fun h19 => ?_) (fun h19 => ?_)
      · refine xG_run 1 rfl (by repeat' (first | exact trivial | assumption | exact xob_b rfl | exact xal_b rfl | (apply And.intro) | decide)) ?_
        try dsimp only [xsto1, xsto2, xkill, xget, xset, gd_0, gd_s]
        refine r2_i rfl rfl ?_
        first
          | (refine Or.inr ⟨?_, rfl, rfl⟩
             rintro ⟨⟨q9, a1, a2⟩, a3, a4, a5, a6⟩
             first
               | exact hnq (by rw [a2]; exact inI a1 (by omega))
               | exact i_nlt a3 h13
               | exact i_nlt a4 h19
               | exact i_nlt a5 h24
               | exact h31 a6)
          | exact Or.inl ⟨q, hq, hiq, ⟨Int32.not_lt.mp h13, Int32.not_lt.mp h19, Int32.not_lt.mp h24, h31⟩, Or.inl ⟨hlt, rfl, rfl⟩⟩
          | exact Or.inl ⟨q, hq, hiq, ⟨Int32.not_lt.mp h13, Int32.not_lt.mp h19, Int32.not_lt.mp h24, h31⟩, Or.inr ⟨hlt, rfl, rfl⟩⟩
      · refine xG_run 2 rfl (by repeat' (first | exact trivial | assumption | exact xob_b rfl | exact xal_b rfl | (apply And.intro) | decide)) ?_
        try dsimp only [xsto1, xsto2, xkill, xget, xset, gd_0, gd_s]
        refine xG_br rfl (fun h24 => ?_) (fun h24 => ?_)
        · refine xG_run 1 rfl (by repeat' (first | exact trivial | assumption | exact xob_b rfl | exact xal_b rfl | (apply And.intro) | decide)) ?_
          try dsimp only [xsto1, xsto2, xkill, xget, xset, gd_0, gd_s]
          refine r2_i rfl rfl ?_
          first
            | (refine Or.inr ⟨?_, rfl, rfl⟩
               rintro ⟨⟨q9, a1, a2⟩, a3, a4, a5, a6⟩
               first
                 | exact hnq (by rw [a2]; exact inI a1 (by omega))
                 | exact i_nlt a3 h13
                 | exact i_nlt a4 h19
                 | exact i_nlt a5 h24
                 | exact h31 a6)
            | exact Or.inl ⟨q, hq, hiq, ⟨Int32.not_lt.mp h13, Int32.not_lt.mp h19, Int32.not_lt.mp h24, h31⟩, Or.inl ⟨hlt, rfl, rfl⟩⟩
            | exact Or.inl ⟨q, hq, hiq, ⟨Int32.not_lt.mp h13, Int32.not_lt.mp h19, Int32.not_lt.mp h24, h31⟩, Or.inr ⟨hlt, rfl, rfl⟩⟩
        · refine xG_run 2 rfl (by repeat' (first | exact trivial | assumption | exact xob_b rfl | exact xal_b rfl | (apply And.intro) | decide)) ?_
          try dsimp only [xsto1, xsto2, xkill, xget, xset, gd_0, gd_s]
          refine xG_br rfl (fun h31 => ?_) (fun h31 => ?_)
          · refine xG_run 4 rfl (by repeat' (first | exact trivial | assumption | exact xob_b rfl | exact xal_b rfl | (apply And.intro) | decide)) ?_
            try dsimp only [xsto1, xsto2, xkill, xget, xset, gd_0, gd_s]
            refine xG_br rfl (fun h45 => ?_) (fun h45 => ?_)
            · have hlt : no < 8 := by rw [ho] at h45; exact (nI_ltI (by omega) (by omega)).mp (show nI no < nI 8 from h45)
              refine xG_run 5 rfl (by repeat' (first | exact trivial | assumption | exact xob_b rfl | exact xal_b rfl | (apply And.intro) | decide)) ?_
              try dsimp only [xsto1, xsto2, xkill, xget, xset, gd_0, gd_s]
              refine xG_c2 3 rfl (by repeat' (first | exact trivial | assumption | exact xob_b rfl | exact xal_b rfl | (apply And.intro) | decide)) rfl rfl (by decide) cw_X2_add (d' := d - 1) (e_oadd ho ho2 hlt) (by omega) ?_
              rintro v M' ⟨rfl, hM⟩
              subst M'
              dsimp only [Option.toList, List.cons_append, List.nil_append]
              refine r2_i rfl rfl ?_
              first
                | (refine Or.inr ⟨?_, rfl, rfl⟩
                   rintro ⟨⟨q9, a1, a2⟩, a3, a4, a5, a6⟩
                   first
                     | exact hnq (by rw [a2]; exact inI a1 (by omega))
                     | exact i_nlt a3 h13
                     | exact i_nlt a4 h19
                     | exact i_nlt a5 h24
                     | exact h31 a6)
                | exact Or.inl ⟨q, hq, hiq, ⟨Int32.not_lt.mp h13, Int32.not_lt.mp h19, Int32.not_lt.mp h24, h31⟩, Or.inl ⟨hlt, rfl, rfl⟩⟩
                | exact Or.inl ⟨q, hq, hiq, ⟨Int32.not_lt.mp h13, Int32.not_lt.mp h19, Int32.not_lt.mp h24, h31⟩, Or.inr ⟨hlt, rfl, rfl⟩⟩
            · have hlt : no = 8 := by
                rw [ho] at h45
                have : ¬ no < 8 := fun q => h45 (show nI no < nI 8 from nI_lt q (by omega))
                omega
              refine xG_run 2 rfl (by repeat' (first | exact trivial | assumption | exact xob_b rfl | exact xal_b rfl | (apply And.intro) | decide)) ?_
              try dsimp only [xsto1, xsto2, xkill, xget, xset, gd_0, gd_s]
              refine r2_i rfl rfl ?_
              first
                | (refine Or.inr ⟨?_, rfl, rfl⟩
                   rintro ⟨⟨q9, a1, a2⟩, a3, a4, a5, a6⟩
                   first
                     | exact hnq (by rw [a2]; exact inI a1 (by omega))
                     | exact i_nlt a3 h13
                     | exact i_nlt a4 h19
                     | exact i_nlt a5 h24
                     | exact h31 a6)
                | exact Or.inl ⟨q, hq, hiq, ⟨Int32.not_lt.mp h13, Int32.not_lt.mp h19, Int32.not_lt.mp h24, h31⟩, Or.inl ⟨hlt, rfl, rfl⟩⟩
                | exact Or.inl ⟨q, hq, hiq, ⟨Int32.not_lt.mp h13, Int32.not_lt.mp h19, Int32.not_lt.mp h24, h31⟩, Or.inr ⟨hlt, rfl, rfl⟩⟩
          · refine xG_run 1 rfl (by repeat' (first | exact trivial | assumption | exact xob_b rfl | exact xal_b rfl | (apply And.intro) | decide)) ?_
            try dsimp only [xsto1, xsto2, xkill, xget, xset, gd_0, gd_s]
            refine r2_i rfl rfl ?_
            first
              | (refine Or.inr ⟨?_, rfl, rfl⟩
                 rintro ⟨⟨q9, a1, a2⟩, a3, a4, a5, a6⟩
                 first
                   | exact hnq (by rw [a2]; exact inI a1 (by omega))
                   | exact i_nlt a3 h13
                   | exact i_nlt a4 h19
                   | exact i_nlt a5 h24
                   | exact h31 a6)
              | exact Or.inl ⟨q, hq, hiq, ⟨Int32.not_lt.mp h13, Int32.not_lt.mp h19, Int32.not_lt.mp h24, h31⟩, Or.inl ⟨hlt, rfl, rfl⟩⟩
              | exact Or.inl ⟨q, hq, hiq, ⟨Int32.not_lt.mp h13, Int32.not_lt.mp h19, Int32.not_lt.mp h24, h31⟩, Or.inr ⟨hlt, rfl, rfl⟩⟩
set_option maxRecDepth 4000 in
theorem e_x_tell {κ : xKK} {d : Nat} {M : xM} {nu : Nat} (hu : gI M 55 3 = nI nu) (hu2 : nu ≤ 12) {i q : Int32} (hq : q &&& 1 = q) : xE2 κ mX11_tell d [.ref 0, .int i, .int q] M (fun v M' => (∃ n, n < nu ∧ i = nI n ∧ v = some (.int (if gI M 70 n = q then 0 else 1)) ∧ M' = sI M 70 n q) ∨ (¬ (∃ n, n < nu ∧ i = nI n) ∧ v = some (.int (-1)) ∧ M' = M)) := by
  refine xE2_of ci_X11_tell cl_X11_tell cw_X11_tell rfl (L := [some (.ref 0), some (.int i), some (.int q), none]) rfl ?_
  refine xG_run 1 rfl (by repeat' (first | exact trivial | assumption | exact xob_b rfl | exact xal_b rfl | (apply And.intro) | decide)) ?_
  try dsimp only [xsto1, xsto2, xkill, xget, xset, gd_0, gd_s]
  refine xG_br rfl (fun h1 => ?_) (fun h1 => ?_)
  · refine xG_run 1 rfl (by repeat' (first | exact trivial | assumption | exact xob_b rfl | exact xal_b rfl | (apply And.intro) | decide)) ?_
    try dsimp only [xsto1, xsto2, xkill, xget, xset, gd_0, gd_s]
    refine r2_i rfl rfl ?_
    first
      | (refine Or.inr ⟨?_, rfl, rfl⟩
         rintro ⟨j9, a1, a2⟩
         first
           | exact i_nlt (by rw [a2]; exact (inI a1 (by omega)).1) h1
           | exact h12 (by rw [a2]; exact (inI a1 (by omega)).2))
      | (refine Or.inl ⟨n, hn, rfl, ?_, by rw [hj1]⟩
         rw [hj1] at h39
         first
           | (rw [if_neg h39]; done)
           | (rw [if_pos (Decidable.not_not.mp h39)]; done))
  · refine xG_run 4 rfl (by repeat' (first | exact trivial | assumption | exact xob_b rfl | exact xal_b rfl | (apply And.intro) | decide)) ?_
    try dsimp only [xsto1, xsto2, xkill, xget, xset, gd_0, gd_s]
    refine xG_br rfl (fun h12 => ?_) (fun h12 => ?_)
    · rw [hu] at h12
      obtain ⟨n, hn, rfl⟩ := inI_of (n := nu) ⟨Int32.not_lt.mp h1, h12⟩ (by omega)
      have hj1 : (nI n).toNatClampNeg = n := nI_cl (by omega)
      have hs0 : xar 70 2 182 (nI n) := xar_n rfl 12 rfl (by omega) (by omega)
      refine xG_run 8 rfl (by repeat' (first | exact trivial | assumption | exact xob_b rfl | exact xal_b rfl | (apply And.intro) | decide)) ?_
      try dsimp only [xsto1, xsto2, xkill, xget, xset, gd_0, gd_s]
      refine xG_run 6 rfl (by repeat' (first | exact trivial | assumption | exact xob_b rfl | exact xal_b rfl | (apply And.intro) | decide)) ?_
      try dsimp only [xsto1, xsto2, xkill, xget, xset, gd_0, gd_s]
      refine xG_br rfl (fun h39 => ?_) (fun h39 => ?_)
      · refine xG_run 1 rfl (by repeat' (first | exact trivial | assumption | exact xob_b rfl | exact xal_b rfl | (apply And.intro) | decide)) ?_
        try dsimp only [xsto1, xsto2, xkill, xget, xset, gd_0, gd_s]
        refine r2_i rfl rfl ?_
        first
          | (refine Or.inr ⟨?_, rfl, rfl⟩
             rintro ⟨j9, a1, a2⟩
             first
               | exact i_nlt (by rw [a2]; exact (inI a1 (by omega)).1) h1
               | exact h12 (by rw [a2]; exact (inI a1 (by omega)).2))
          | (refine Or.inl ⟨n, hn, rfl, ?_, by rw [hj1]⟩
             rw [hj1] at h39
             first
               | (rw [if_neg h39]; done)
               | (rw [if_pos (Decidable.not_not.mp h39)]; done))
      · refine xG_run 2 rfl (by repeat' (first | exact trivial | assumption | exact xob_b rfl | exact xal_b rfl | (apply And.intro) | decide)) ?_
        try dsimp only [xsto1, xsto2, xkill, xget, xset, gd_0, gd_s]
        refine r2_i rfl rfl ?_
        first
          | (refine Or.inr ⟨?_, rfl, rfl⟩
             rintro ⟨j9, a1, a2⟩
             first
               | exact i_nlt (by rw [a2]; exact (inI a1 (by omega)).1) h1
               | exact h12 (by rw [a2]; exact (inI a1 (by omega)).2))
          | (refine Or.inl ⟨n, hn, rfl, ?_, by rw [hj1]⟩
             rw [hj1] at h39
             first
               | (rw [if_neg h39]; done)
               | (rw [if_pos (Decidable.not_not.mp h39)]; done))
    · rw [hu] at h12
      refine xG_run 1 rfl (by repeat' (first | exact trivial | assumption | exact xob_b rfl | exact xal_b rfl | (apply And.intro) | decide)) ?_
      try dsimp only [xsto1, xsto2, xkill, xget, xset, gd_0, gd_s]
      refine r2_i rfl rfl ?_
      first
        | (refine Or.inr ⟨?_, rfl, rfl⟩
           rintro ⟨j9, a1, a2⟩
           first
             | exact i_nlt (by rw [a2]; exact (inI a1 (by omega)).1) h1
             | exact h12 (by rw [a2]; exact (inI a1 (by omega)).2))
        | (refine Or.inl ⟨n, hn, rfl, ?_, by rw [hj1]⟩
           rw [hj1] at h39
           first
             | (rw [if_neg h39]; done)
             | (rw [if_pos (Decidable.not_not.mp h39)]; done))
set_option maxRecDepth 4000 in
theorem e_radd {κ : xKK} {d : Nat} {M : xM} {nu : Nat} (hu : gI M 55 3 = nI nu) (hu2 : nu ≤ 12) (hlt : nu < 12) {t z : Nat} (ht : shp[t]? = some (.inr (0, 120))) (ht2 : 141 < t ∧ t < 182) (hz : z ≤ 120) : xE2 κ mX7_add d [.ref 55, .ref t, .int (nI z)] M (fun v M' => v = some (.int (nI nu)) ∧ M' = sI (sI (sI (sC M t 0 (57 + nu) 0 z) 69 nu (nI z)) 70 nu 1) 55 3 (nI (nu + 1))) := by
  refine xE2_of ci_X7_add cl_X7_add cw_X7_add rfl (L := [some (.ref 55), some (.ref t), some (.int (nI z))]) rfl ?_
  have hj1 : (nI nu).toNatClampNeg = nu := nI_cl (by omega)
  have hj2 : (nI z).toNatClampNeg = z := nI_cl (by omega)
  have hj3 : (0 : Int32).toNatClampNeg = 0 := rfl
  have hqa : xqr 56 182 (nI nu) := xqr_n rfl 12 rfl hlt (by omega)
  have hcp : xcp t (57 + nu) z2.fst 0 0 (nI z) := ⟨120, 120, ht, (show ∀ j, j < 12 → shp[57 + j]? = some (.inr (0, 120)) from by decide +kernel) nu hlt, ht2.2, by show 57 + nu < 182; omega, by decide, by decide, by rw [nI_ti (by omega)]; omega, by rw [nI_ti (by omega)]; simp; omega, by rw [nI_ti (by omega)]; simp; omega⟩
  have hs0 : xar 69 0 182 (nI nu) := xar_n rfl 12 rfl hlt (by omega)
  have hs1 : xar 70 2 182 (nI nu) := xar_n rfl 12 rfl hlt (by omega)
  have g1 : gI (sC M t 0 (57 + nu) 0 z) 55 3 = nI nu := (g_co (Or.inl (by omega))).trans hu
  have g2 : ∀ v, gI (sI (sC M t 0 (57 + nu) 0 z) 69 nu v) 55 3 = nI nu := fun v => (gI_ne (Or.inl (by decide))).trans g1
  have g3 : ∀ v u, gI (sI (sI (sC M t 0 (57 + nu) 0 z) 69 nu v) 70 nu u) 55 3 = nI nu := fun v u => (gI_ne (Or.inl (by decide))).trans (g2 v)
  have e9 : nI nu + 1 - 1 = nI nu := by rw [Int32.sub_eq_add_neg, Int32.add_assoc, Int32.add_right_neg, Int32.add_zero]
  refine xG_run 1 rfl (by repeat' (first | exact trivial | assumption | exact xob_b rfl | exact xal_b rfl | (apply And.intro) | decide)) ?_
  try dsimp only [xsto1, xsto2, xkill, xget, xset, gd_0, gd_s]
  try simp only [hu, g1, g2, g3, hj1, hj2, hj3, gI_self, nI_1]
  refine xG_run 1 rfl (by repeat' (first | exact trivial | assumption | exact xob_b rfl | exact xal_b rfl | (apply And.intro) | decide)) ?_
  try dsimp only [xsto1, xsto2, xkill, xget, xset, gd_0, gd_s]
  try simp only [hu, g1, g2, g3, hj1, hj2, hj3, gI_self, nI_1]
  refine xG_run 1 rfl (by repeat' (first | exact trivial | assumption | exact xob_b rfl | exact xal_b rfl | (apply And.intro) | decide)) ?_
  try dsimp only [xsto1, xsto2, xkill, xget, xset, gd_0, gd_s]
  try simp only [hu, g1, g2, g3, hj1, hj2, hj3, gI_self, nI_1]
  refine xG_run 1 rfl (by repeat' (first | exact trivial | assumption | exact xob_b rfl | exact xal_b rfl | (apply And.intro) | decide)) ?_
  try dsimp only [xsto1, xsto2, xkill, xget, xset, gd_0, gd_s]
  try simp only [hu, g1, g2, g3, hj1, hj2, hj3, gI_self, nI_1]
  refine xG_run 1 rfl (by repeat' (first | exact trivial | assumption | exact xob_b rfl | exact xal_b rfl | (apply And.intro) | decide)) ?_
  try dsimp only [xsto1, xsto2, xkill, xget, xset, gd_0, gd_s]
  try simp only [hu, g1, g2, g3, hj1, hj2, hj3, gI_self, nI_1]
  refine xG_run 1 rfl (by repeat' (first | exact trivial | assumption | exact xob_b rfl | exact xal_b rfl | (apply And.intro) | decide)) ?_
  try dsimp only [xsto1, xsto2, xkill, xget, xset, gd_0, gd_s]
  try simp only [hu, g1, g2, g3, hj1, hj2, hj3, gI_self, nI_1]
  refine xG_run 1 rfl (by repeat' (first | exact trivial | assumption | exact xob_b rfl | exact xal_b rfl | (apply And.intro) | decide)) ?_
  try dsimp only [xsto1, xsto2, xkill, xget, xset, gd_0, gd_s]
  try simp only [hu, g1, g2, g3, hj1, hj2, hj3, gI_self, nI_1]
  refine xG_run 1 rfl (by repeat' (first | exact trivial | assumption | exact xob_b rfl | exact xal_b rfl | (apply And.intro) | decide)) ?_
  try dsimp only [xsto1, xsto2, xkill, xget, xset, gd_0, gd_s]
  try simp only [hu, g1, g2, g3, hj1, hj2, hj3, gI_self, nI_1]
  refine xG_run 1 rfl (by repeat' (first | exact trivial | assumption | exact xob_b rfl | exact xal_b rfl | (apply And.intro) | decide)) ?_
  try dsimp only [xsto1, xsto2, xkill, xget, xset, gd_0, gd_s]
  try simp only [hu, g1, g2, g3, hj1, hj2, hj3, gI_self, nI_1]
  refine xG_run 1 rfl (by repeat' (first | exact trivial | assumption | exact xob_b rfl | exact xal_b rfl | (apply And.intro) | decide)) ?_
  try dsimp only [xsto1, xsto2, xkill, xget, xset, gd_0, gd_s]
  try simp only [hu, g1, g2, g3, hj1, hj2, hj3, gI_self, nI_1]
  refine xG_run 1 rfl (by repeat' (first | exact trivial | assumption | exact xob_b rfl | exact xal_b rfl | (apply And.intro) | decide)) ?_
  try dsimp only [xsto1, xsto2, xkill, xget, xset, gd_0, gd_s]
  try simp only [hu, g1, g2, g3, hj1, hj2, hj3, gI_self, nI_1]
  refine xG_run 1 rfl (by repeat' (first | exact trivial | assumption | exact xob_b rfl | exact xal_b rfl | (apply And.intro) | decide)) ?_
  try dsimp only [xsto1, xsto2, xkill, xget, xset, gd_0, gd_s]
  try simp only [hu, g1, g2, g3, hj1, hj2, hj3, gI_self, nI_1]
  refine xG_run 1 rfl (by repeat' (first | exact trivial | assumption | exact xob_b rfl | exact xal_b rfl | (apply And.intro) | decide)) ?_
  try dsimp only [xsto1, xsto2, xkill, xget, xset, gd_0, gd_s]
  try simp only [hu, g1, g2, g3, hj1, hj2, hj3, gI_self, nI_1]
  refine xG_run 1 rfl (by repeat' (first | exact trivial | assumption | exact xob_b rfl | exact xal_b rfl | (apply And.intro) | decide)) ?_
  try dsimp only [xsto1, xsto2, xkill, xget, xset, gd_0, gd_s]
  try simp only [hu, g1, g2, g3, hj1, hj2, hj3, gI_self, nI_1]
  refine xG_run 1 rfl (by repeat' (first | exact trivial | assumption | exact xob_b rfl | exact xal_b rfl | (apply And.intro) | decide)) ?_
  try dsimp only [xsto1, xsto2, xkill, xget, xset, gd_0, gd_s]
  try simp only [hu, g1, g2, g3, hj1, hj2, hj3, gI_self, nI_1]
  refine xG_run 1 rfl (by repeat' (first | exact trivial | assumption | exact xob_b rfl | exact xal_b rfl | (apply And.intro) | decide)) ?_
  try dsimp only [xsto1, xsto2, xkill, xget, xset, gd_0, gd_s]
  try simp only [hu, g1, g2, g3, hj1, hj2, hj3, gI_self, nI_1]
  refine xG_run 1 rfl (by repeat' (first | exact trivial | assumption | exact xob_b rfl | exact xal_b rfl | (apply And.intro) | decide)) ?_
  try dsimp only [xsto1, xsto2, xkill, xget, xset, gd_0, gd_s]
  try simp only [hu, g1, g2, g3, hj1, hj2, hj3, gI_self, nI_1]
  refine xG_run 1 rfl (by repeat' (first | exact trivial | assumption | exact xob_b rfl | exact xal_b rfl | (apply And.intro) | decide)) ?_
  try dsimp only [xsto1, xsto2, xkill, xget, xset, gd_0, gd_s]
  try simp only [hu, g1, g2, g3, hj1, hj2, hj3, gI_self, nI_1]
  refine xG_run 1 rfl (by repeat' (first | exact trivial | assumption | exact xob_b rfl | exact xal_b rfl | (apply And.intro) | decide)) ?_
  try dsimp only [xsto1, xsto2, xkill, xget, xset, gd_0, gd_s]
  try simp only [hu, g1, g2, g3, hj1, hj2, hj3, gI_self, nI_1]
  refine xG_run 1 rfl (by repeat' (first | exact trivial | assumption | exact xob_b rfl | exact xal_b rfl | (apply And.intro) | decide)) ?_
  try dsimp only [xsto1, xsto2, xkill, xget, xset, gd_0, gd_s]
  try simp only [hu, g1, g2, g3, hj1, hj2, hj3, gI_self, nI_1]
  refine xG_run 1 rfl (by repeat' (first | exact trivial | assumption | exact xob_b rfl | exact xal_b rfl | (apply And.intro) | decide)) ?_
  try dsimp only [xsto1, xsto2, xkill, xget, xset, gd_0, gd_s]
  try simp only [hu, g1, g2, g3, hj1, hj2, hj3, gI_self, nI_1]
  refine xG_run 1 rfl (by repeat' (first | exact trivial | assumption | exact xob_b rfl | exact xal_b rfl | (apply And.intro) | decide)) ?_
  try dsimp only [xsto1, xsto2, xkill, xget, xset, gd_0, gd_s]
  try simp only [hu, g1, g2, g3, hj1, hj2, hj3, gI_self, nI_1]
  refine xG_run 1 rfl (by repeat' (first | exact trivial | assumption | exact xob_b rfl | exact xal_b rfl | (apply And.intro) | decide)) ?_
  try dsimp only [xsto1, xsto2, xkill, xget, xset, gd_0, gd_s]
  try simp only [hu, g1, g2, g3, hj1, hj2, hj3, gI_self, nI_1]
  refine xG_run 1 rfl (by repeat' (first | exact trivial | assumption | exact xob_b rfl | exact xal_b rfl | (apply And.intro) | decide)) ?_
  try dsimp only [xsto1, xsto2, xkill, xget, xset, gd_0, gd_s]
  try simp only [hu, g1, g2, g3, hj1, hj2, hj3, gI_self, nI_1]
  refine xG_run 1 rfl (by repeat' (first | exact trivial | assumption | exact xob_b rfl | exact xal_b rfl | (apply And.intro) | decide)) ?_
  try dsimp only [xsto1, xsto2, xkill, xget, xset, gd_0, gd_s]
  try simp only [hu, g1, g2, g3, hj1, hj2, hj3, gI_self, nI_1]
  refine xG_run 1 rfl (by repeat' (first | exact trivial | assumption | exact xob_b rfl | exact xal_b rfl | (apply And.intro) | decide)) ?_
  try dsimp only [xsto1, xsto2, xkill, xget, xset, gd_0, gd_s]
  try simp only [hu, g1, g2, g3, hj1, hj2, hj3, gI_self, nI_1]
  refine xG_run 1 rfl (by repeat' (first | exact trivial | assumption | exact xob_b rfl | exact xal_b rfl | (apply And.intro) | decide)) ?_
  try dsimp only [xsto1, xsto2, xkill, xget, xset, gd_0, gd_s]
  try simp only [hu, g1, g2, g3, hj1, hj2, hj3, gI_self, nI_1]
  refine xG_run 1 rfl (by repeat' (first | exact trivial | assumption | exact xob_b rfl | exact xal_b rfl | (apply And.intro) | decide)) ?_
  try dsimp only [xsto1, xsto2, xkill, xget, xset, gd_0, gd_s]
  try simp only [hu, g1, g2, g3, hj1, hj2, hj3, gI_self, nI_1]
  refine xG_run 1 rfl (by repeat' (first | exact trivial | assumption | exact xob_b rfl | exact xal_b rfl | (apply And.intro) | decide)) ?_
  try dsimp only [xsto1, xsto2, xkill, xget, xset, gd_0, gd_s]
  try simp only [hu, g1, g2, g3, hj1, hj2, hj3, gI_self, nI_1]
  refine xG_run 1 rfl (by repeat' (first | exact trivial | assumption | exact xob_b rfl | exact xal_b rfl | (apply And.intro) | decide)) ?_
  try dsimp only [xsto1, xsto2, xkill, xget, xset, gd_0, gd_s]
  try simp only [hu, g1, g2, g3, hj1, hj2, hj3, gI_self, nI_1]
  refine xG_run 1 rfl (by repeat' (first | exact trivial | assumption | exact xob_b rfl | exact xal_b rfl | (apply And.intro) | decide)) ?_
  try dsimp only [xsto1, xsto2, xkill, xget, xset, gd_0, gd_s]
  try simp only [hu, g1, g2, g3, hj1, hj2, hj3, gI_self, nI_1]
  refine xG_run 1 rfl (by repeat' (first | exact trivial | assumption | exact xob_b rfl | exact xal_b rfl | (apply And.intro) | decide)) ?_
  try dsimp only [xsto1, xsto2, xkill, xget, xset, gd_0, gd_s]
  try simp only [hu, g1, g2, g3, hj1, hj2, hj3, gI_self, nI_1]
  refine r2_i rfl rfl ?_
  refine ⟨?_, rfl⟩
  first
    | rfl
    | (rw [← nI_1, e9]; done)
