/-! ===== swings, years: the reference ===== -/
theorem w_eq {x y : Int32} : x.toInt64 = y.toInt64 ↔ x = y := ⟨fun h => by
  have := congrArg Int64.toInt h
  rw [Int32.toInt_toInt64, Int32.toInt_toInt64] at this
  exact Int32.toInt_inj.mp this, fun h => by rw [h]⟩
theorem w_lt {x y : Int32} : x.toInt64 < y.toInt64 ↔ x < y := by rw [Int64.lt_iff_toInt_lt, Int32.lt_iff_toInt_lt, Int32.toInt_toInt64, Int32.toInt_toInt64]
set_option maxRecDepth 4000 in
theorem e_findSwings {κ : xKK} {d : Nat} {M : xM} {j z : Nat} {E : Nat → Int32} (hj : j < 8) (hz2 : gI M 172 j = nI z) (hz1 : z ≤ 120) (hE9 : ∀ k, gI M 173 (120 * j + k) = E k) (hd : 1 ≤ d) : xE2 κ mX12_findSwings d [.ref 166, .int (nI j)] M (fun v M' => v = none ∧ M' = swX M 166 21 22 23 (swR E z)) := by
  refine xE2_of ci_X12_findSwings cl_X12_findSwings cw_X12_findSwings rfl (L := [some (.ref 166), some (.int (nI j)), none, none, none, none, none, none, none, none, none]) rfl ?_
  have hs : xar 172 0 182 (nI j) := xar_n rfl 8 rfl hj (by omega)
  have hj1 : (nI j).toNatClampNeg = j := nI_cl (by omega)
  have e9 : (120 : Int32) * nI j = nI (120 * j) := by show nI 120 * nI j = _; rw [pk_mul]
  have e8 : ((120 : Int32) * nI j).toNatClampNeg = 120 * j := by rw [e9]; exact nI_cl (by omega)
  have hs2 : xar 173 0 182 ((120 : Int32) * nI j) := by rw [e9]; exact el_ar (by omega)
  have hzr : gI (sJ (sJ (sI M 166 21 0) 166 22 0) 166 23 0) 172 (nI j).toNatClampNeg = nI z := by rw [hj1]; exact (show gI (sI M 166 21 0) 172 j = _ from (gI_ne (Or.inl (by decide))).trans hz2)
  have hE0 : gI (sJ (sJ (sI M 166 21 0) 166 22 0) 166 23 0) 173 ((120 : Int32) * nI j).toNatClampNeg = E 0 := by rw [e8]; exact (show gI (sI M 166 21 0) 173 (120 * j) = _ from (gI_ne (Or.inl (by decide))).trans (hE9 0))
  refine xG_run 8 rfl (by repeat' (first | exact trivial | assumption | exact xob_b rfl | exact xal_b rfl | (apply And.intro) | decide)) ?_
  try dsimp only [xsto1, xsto2, xkill, xget, xset, gd_0, gd_s]
  refine xG_run 5 rfl (by repeat' (first | exact trivial | assumption | exact xob_b rfl | exact xal_b rfl | (apply And.intro) | decide)) ?_
  try dsimp only [xsto1, xsto2, xkill, xget, xset, gd_0, gd_s]
  refine xG_br rfl (fun h21 => ?_) (fun h21 => ?_)
  · rw [hzr] at h21
    have hz0 : ¬ z = 0 := fun q => h21 (by rw [q]; rfl)
    refine xG_run 8 rfl (by repeat' (first | exact trivial | assumption | exact xob_b rfl | exact xal_b rfl | (apply And.intro) | decide)) ?_
    try dsimp only [xsto1, xsto2, xkill, xget, xset, gd_0, gd_s]
    refine xG_run 6 rfl (by repeat' (first | exact trivial | assumption | exact xob_b rfl | exact xal_b rfl | (apply And.intro) | decide)) ?_
    try dsimp only [xsto1, xsto2, xkill, xget, xset, gd_0, gd_s]
    have hzz : ∀ f g t, gI (swM M 166 21 22 23 f g t) 172 (nI j).toNatClampNeg = nI z := fun f g t => by rw [hj1]; exact (swM_g (Or.inl (by decide))).trans hz2
    have lp := xG_upP (κ := κ) (m := mX12_findSwings) (r := (d, 0, 0)) (YS := xRet mX12_findSwings false (fun v M' n' => n' = 182 ∧ (v = none ∧ M' = swX M 166 21 22 23 (swR E z)))) (fun k X => ∃ x8 x10 : Option Value, X = (45, [some (.ref 166), some (.int (nI j)), some (.long (sw E k).2.2.2.1.toInt64), none, some (.long (sw E k).2.2.2.2.1.toInt64), none, some (.int (sw E k).2.2.2.2.2), some (.int (nI (k + 1))), x8, none, x10], [], swM M 166 21 22 23 (sw E k).1 (sw E k).2.1 (sw E k).2.2.1, z2)) (z - 1) ?_ ?_ 0 (by omega)
    · exact lp _ ⟨none, none, by rw [hE0]; rfl⟩
    · rintro k X hk ⟨x8, x10, rfl⟩ ih
      have hk1 : (nI (k + 1)).toNatClampNeg = k + 1 := nI_cl (by omega)
      have e1 : (120 : Int32) * nI j + nI (k + 1) = nI (120 * j + (k + 1)) := ix120 j (k + 1)
      have e2 : ((120 : Int32) * nI j + nI (k + 1)).toNatClampNeg = 120 * j + (k + 1) := by rw [e1]; exact nI_cl (by omega)
      have hse : xar 173 0 182 ((120 : Int32) * nI j + nI (k + 1)) := by rw [e1]; exact el_ar (by omega)
      have hE : ∀ f g t, gI (swM M 166 21 22 23 f g t) 173 ((120 : Int32) * nI j + nI (k + 1)).toNatClampNeg = E (k + 1) := fun f g t => by rw [e2]; exact (swM_g (Or.inl (by decide))).trans (hE9 _)
      refine xG_run 5 rfl (by repeat' (first | exact trivial | assumption | exact xob_b rfl | exact xal_b rfl | (apply And.intro) | decide)) ?_
      try dsimp only [xsto1, xsto2, xkill, xget, xset, gd_0, gd_s]
      refine xG_brF rfl (by rw [hzz]; exact nI_ge (show k + 1 < z by omega) (by omega)) ?_
      refine xG_run 8 rfl (by repeat' (first | exact trivial | assumption | exact xob_b rfl | exact xal_b rfl | (apply And.intro) | decide)) ?_
      try dsimp only [xsto1, xsto2, xkill, xget, xset, gd_0, gd_s]
      rw [hE]
      refine xG_run 5 rfl (by repeat' (first | exact trivial | assumption | exact xob_b rfl | exact xal_b rfl | (apply And.intro) | decide)) ?_
      try dsimp only [xsto1, xsto2, xkill, xget, xset, gd_0, gd_s]
      refine xG_br rfl (fun h76 => ?_) (fun h76 => ?_)
      · refine xG_run 3 rfl (by repeat' (first | exact trivial | assumption | exact xob_b rfl | exact xal_b rfl | (apply And.intro) | decide)) ?_
        try dsimp only [xsto1, xsto2, xkill, xget, xset, gd_0, gd_s]
        refine xG_br rfl (fun h87 => ?_) (fun h87 => ?_)
        · refine xG_run 3 rfl (by repeat' (first | exact trivial | assumption | exact xob_b rfl | exact xal_b rfl | (apply And.intro) | decide)) ?_
          try dsimp only [xsto1, xsto2, xkill, xget, xset, gd_0, gd_s]
          refine xG_br rfl (fun h99 => ?_) (fun h99 => ?_)
          · refine xG_run 6 rfl (by repeat' (first | exact trivial | assumption | exact xob_b rfl | exact xal_b rfl | (apply And.intro) | decide)) ?_
            try dsimp only [xsto1, xsto2, xkill, xget, xset, gd_0, gd_s]
            first
              | exact ih _ ⟨_, _, by rw [nI_1, sw_eq (E := E) (k := k) (w_eq.mp ((lg_eq0 _ _).mp (Decidable.not_not.mp h76)))]⟩
              | (have g76 : ¬ E (k + 1) = (sw E k).2.2.2.2.1 := fun q => h76 ((lg_eq0 _ _).mpr (w_eq.mpr q))
                 have g87 : (if (sw E k).2.2.2.2.1 < E (k + 1) then (1 : Int32) else -1) = -1 ∨ (if (sw E k).2.2.2.2.1 < E (k + 1) then (1 : Int32) else -1) = 1 := by
                   first
                     | exact Or.inl (if_neg (fun q => by have := (lg_le0 _ _).mp h87; exact absurd (w_lt.mpr q) (Int64.not_lt.mpr this)))
                     | exact Or.inr (if_pos (w_lt.mp (Int64.not_le.mp (fun q => h87 ((lg_le0 _ _).mpr q)))))
                 first
                   | exact ih _ ⟨_, _, by rw [nI_1, sw_ad (E := E) (k := k) g76 (by first | exact if_neg (fun q => by have := (lg_le0 _ _).mp h87; exact absurd (w_lt.mpr q) (Int64.not_lt.mpr this)) | exact if_pos (w_lt.mp (Int64.not_le.mp (fun q => h87 ((lg_le0 _ _).mpr q))))) h99 h106]⟩
                   | exact ih _ ⟨_, _, by rw [nI_1, sw_no (E := E) (k := k) g76 (by first | exact if_neg (fun q => by have := (lg_le0 _ _).mp h87; exact absurd (w_lt.mpr q) (Int64.not_lt.mpr this)) | exact if_pos (w_lt.mp (Int64.not_le.mp (fun q => h87 ((lg_le0 _ _).mpr q))))) (by first | exact Or.inl h99 | exact Or.inl (Decidable.not_not.mp h99) | exact Or.inr h106 | exact Or.inr (Decidable.not_not.mp h106))]⟩)
          · refine xG_run 2 rfl (by repeat' (first | exact trivial | assumption | exact xob_b rfl | exact xal_b rfl | (apply And.intro) | decide)) ?_
            try dsimp only [xsto1, xsto2, xkill, xget, xset, gd_0, gd_s]
            refine xG_br rfl (fun h106 => ?_) (fun h106 => ?_)
            · refine xG_run 6 rfl (by repeat' (first | exact trivial | assumption | exact xob_b rfl | exact xal_b rfl | (apply And.intro) | decide)) ?_
              try dsimp only [xsto1, xsto2, xkill, xget, xset, gd_0, gd_s]
              first
                | exact ih _ ⟨_, _, by rw [nI_1, sw_eq (E := E) (k := k) (w_eq.mp ((lg_eq0 _ _).mp (Decidable.not_not.mp h76)))]⟩
                | (have g76 : ¬ E (k + 1) = (sw E k).2.2.2.2.1 := fun q => h76 ((lg_eq0 _ _).mpr (w_eq.mpr q))
                   have g87 : (if (sw E k).2.2.2.2.1 < E (k + 1) then (1 : Int32) else -1) = -1 ∨ (if (sw E k).2.2.2.2.1 < E (k + 1) then (1 : Int32) else -1) = 1 := by
                     first
                       | exact Or.inl (if_neg (fun q => by have := (lg_le0 _ _).mp h87; exact absurd (w_lt.mpr q) (Int64.not_lt.mpr this)))
                       | exact Or.inr (if_pos (w_lt.mp (Int64.not_le.mp (fun q => h87 ((lg_le0 _ _).mpr q)))))
                   first
                     | exact ih _ ⟨_, _, by rw [nI_1, sw_ad (E := E) (k := k) g76 (by first | exact if_neg (fun q => by have := (lg_le0 _ _).mp h87; exact absurd (w_lt.mpr q) (Int64.not_lt.mpr this)) | exact if_pos (w_lt.mp (Int64.not_le.mp (fun q => h87 ((lg_le0 _ _).mpr q))))) h99 h106]⟩
                     | exact ih _ ⟨_, _, by rw [nI_1, sw_no (E := E) (k := k) g76 (by first | exact if_neg (fun q => by have := (lg_le0 _ _).mp h87; exact absurd (w_lt.mpr q) (Int64.not_lt.mpr this)) | exact if_pos (w_lt.mp (Int64.not_le.mp (fun q => h87 ((lg_le0 _ _).mpr q))))) (by first | exact Or.inl h99 | exact Or.inl (Decidable.not_not.mp h99) | exact Or.inr h106 | exact Or.inr (Decidable.not_not.mp h106))]⟩)
            · refine xG_run 4 rfl (by repeat' (first | exact trivial | assumption | exact xob_b rfl | exact xal_b rfl | (apply And.intro) | decide)) ?_
              try dsimp only [xsto1, xsto2, xkill, xget, xset, gd_0, gd_s]
              refine xG_c2 1 rfl (by repeat' (first | exact trivial | assumption | exact xob_b rfl | exact xal_b rfl | (apply And.intro) | decide)) rfl rfl (by decide) cw_X12_adds (d' := d - 1) (e_radds (a := (sw E k).2.2.2.1) (b := (sw E k).2.2.2.2.1) rfl) (by omega) ?_
              rintro v M' ⟨rfl, hM⟩
              subst M'
              dsimp only [Option.toList, List.cons_append, List.nil_append]
              rw [swM_f, swM_gg (by decide), swM_t, swM_w (by decide)]
              refine xG_run 8 rfl (by repeat' (first | exact trivial | assumption | exact xob_b rfl | exact xal_b rfl | (apply And.intro) | decide)) ?_
              try dsimp only [xsto1, xsto2, xkill, xget, xset, gd_0, gd_s]
              first
                | exact ih _ ⟨_, _, by rw [nI_1, sw_eq (E := E) (k := k) (w_eq.mp ((lg_eq0 _ _).mp (Decidable.not_not.mp h76)))]⟩
                | (have g76 : ¬ E (k + 1) = (sw E k).2.2.2.2.1 := fun q => h76 ((lg_eq0 _ _).mpr (w_eq.mpr q))
                   have g87 : (if (sw E k).2.2.2.2.1 < E (k + 1) then (1 : Int32) else -1) = -1 ∨ (if (sw E k).2.2.2.2.1 < E (k + 1) then (1 : Int32) else -1) = 1 := by
                     first
                       | exact Or.inl (if_neg (fun q => by have := (lg_le0 _ _).mp h87; exact absurd (w_lt.mpr q) (Int64.not_lt.mpr this)))
                       | exact Or.inr (if_pos (w_lt.mp (Int64.not_le.mp (fun q => h87 ((lg_le0 _ _).mpr q)))))
                   first
                     | exact ih _ ⟨_, _, by rw [nI_1, sw_ad (E := E) (k := k) g76 (by first | exact if_neg (fun q => by have := (lg_le0 _ _).mp h87; exact absurd (w_lt.mpr q) (Int64.not_lt.mpr this)) | exact if_pos (w_lt.mp (Int64.not_le.mp (fun q => h87 ((lg_le0 _ _).mpr q))))) h99 h106]⟩
                     | exact ih _ ⟨_, _, by rw [nI_1, sw_no (E := E) (k := k) g76 (by first | exact if_neg (fun q => by have := (lg_le0 _ _).mp h87; exact absurd (w_lt.mpr q) (Int64.not_lt.mpr this)) | exact if_pos (w_lt.mp (Int64.not_le.mp (fun q => h87 ((lg_le0 _ _).mpr q))))) (by first | exact Or.inl h99 | exact Or.inl (Decidable.not_not.mp h99) | exact Or.inr h106 | exact Or.inr (Decidable.not_not.mp h106))]⟩)
        · refine xG_run 4 rfl (by repeat' (first | exact trivial | assumption | exact xob_b rfl | exact xal_b rfl | (apply And.intro) | decide)) ?_
          try dsimp only [xsto1, xsto2, xkill, xget, xset, gd_0, gd_s]
          refine xG_br rfl (fun h99 => ?_) (fun h99 => ?_)
          · refine xG_run 6 rfl (by repeat' (first | exact trivial | assumption | exact xob_b rfl | exact xal_b rfl | (apply And.intro) | decide)) ?_
            try dsimp only [xsto1, xsto2, xkill, xget, xset, gd_0, gd_s]
            first
              | exact ih _ ⟨_, _, by rw [nI_1, sw_eq (E := E) (k := k) (w_eq.mp ((lg_eq0 _ _).mp (Decidable.not_not.mp h76)))]⟩
              | (have g76 : ¬ E (k + 1) = (sw E k).2.2.2.2.1 := fun q => h76 ((lg_eq0 _ _).mpr (w_eq.mpr q))
                 have g87 : (if (sw E k).2.2.2.2.1 < E (k + 1) then (1 : Int32) else -1) = -1 ∨ (if (sw E k).2.2.2.2.1 < E (k + 1) then (1 : Int32) else -1) = 1 := by
                   first
                     | exact Or.inl (if_neg (fun q => by have := (lg_le0 _ _).mp h87; exact absurd (w_lt.mpr q) (Int64.not_lt.mpr this)))
                     | exact Or.inr (if_pos (w_lt.mp (Int64.not_le.mp (fun q => h87 ((lg_le0 _ _).mpr q)))))
                 first
                   | exact ih _ ⟨_, _, by rw [nI_1, sw_ad (E := E) (k := k) g76 (by first | exact if_neg (fun q => by have := (lg_le0 _ _).mp h87; exact absurd (w_lt.mpr q) (Int64.not_lt.mpr this)) | exact if_pos (w_lt.mp (Int64.not_le.mp (fun q => h87 ((lg_le0 _ _).mpr q))))) h99 h106]⟩
                   | exact ih _ ⟨_, _, by rw [nI_1, sw_no (E := E) (k := k) g76 (by first | exact if_neg (fun q => by have := (lg_le0 _ _).mp h87; exact absurd (w_lt.mpr q) (Int64.not_lt.mpr this)) | exact if_pos (w_lt.mp (Int64.not_le.mp (fun q => h87 ((lg_le0 _ _).mpr q))))) (by first | exact Or.inl h99 | exact Or.inl (Decidable.not_not.mp h99) | exact Or.inr h106 | exact Or.inr (Decidable.not_not.mp h106))]⟩)
          · refine xG_run 2 rfl (by repeat' (first | exact trivial | assumption | exact xob_b rfl | exact xal_b rfl | (apply And.intro) | decide)) ?_
            try dsimp only [xsto1, xsto2, xkill, xget, xset, gd_0, gd_s]
            refine xG_br rfl (fun h106 => ?_) (fun h106 => ?_)
            · refine xG_run 6 rfl (by repeat' (first | exact trivial | assumption | exact xob_b rfl | exact xal_b rfl | (apply And.intro) | decide)) ?_
              try dsimp only [xsto1, xsto2, xkill, xget, xset, gd_0, gd_s]
              first
                | exact ih _ ⟨_, _, by rw [nI_1, sw_eq (E := E) (k := k) (w_eq.mp ((lg_eq0 _ _).mp (Decidable.not_not.mp h76)))]⟩
                | (have g76 : ¬ E (k + 1) = (sw E k).2.2.2.2.1 := fun q => h76 ((lg_eq0 _ _).mpr (w_eq.mpr q))
                   have g87 : (if (sw E k).2.2.2.2.1 < E (k + 1) then (1 : Int32) else -1) = -1 ∨ (if (sw E k).2.2.2.2.1 < E (k + 1) then (1 : Int32) else -1) = 1 := by
                     first
                       | exact Or.inl (if_neg (fun q => by have := (lg_le0 _ _).mp h87; exact absurd (w_lt.mpr q) (Int64.not_lt.mpr this)))
                       | exact Or.inr (if_pos (w_lt.mp (Int64.not_le.mp (fun q => h87 ((lg_le0 _ _).mpr q)))))
                   first
                     | exact ih _ ⟨_, _, by rw [nI_1, sw_ad (E := E) (k := k) g76 (by first | exact if_neg (fun q => by have := (lg_le0 _ _).mp h87; exact absurd (w_lt.mpr q) (Int64.not_lt.mpr this)) | exact if_pos (w_lt.mp (Int64.not_le.mp (fun q => h87 ((lg_le0 _ _).mpr q))))) h99 h106]⟩
                     | exact ih _ ⟨_, _, by rw [nI_1, sw_no (E := E) (k := k) g76 (by first | exact if_neg (fun q => by have := (lg_le0 _ _).mp h87; exact absurd (w_lt.mpr q) (Int64.not_lt.mpr this)) | exact if_pos (w_lt.mp (Int64.not_le.mp (fun q => h87 ((lg_le0 _ _).mpr q))))) (by first | exact Or.inl h99 | exact Or.inl (Decidable.not_not.mp h99) | exact Or.inr h106 | exact Or.inr (Decidable.not_not.mp h106))]⟩)
            · refine xG_run 4 rfl (by repeat' (first | exact trivial | assumption | exact xob_b rfl | exact xal_b rfl | (apply And.intro) | decide)) ?_
              try dsimp only [xsto1, xsto2, xkill, xget, xset, gd_0, gd_s]
              refine xG_c2 1 rfl (by repeat' (first | exact trivial | assumption | exact xob_b rfl | exact xal_b rfl | (apply And.intro) | decide)) rfl rfl (by decide) cw_X12_adds (d' := d - 1) (e_radds (a := (sw E k).2.2.2.1) (b := (sw E k).2.2.2.2.1) rfl) (by omega) ?_
              rintro v M' ⟨rfl, hM⟩
              subst M'
              dsimp only [Option.toList, List.cons_append, List.nil_append]
              rw [swM_f, swM_gg (by decide), swM_t, swM_w (by decide)]
              refine xG_run 8 rfl (by repeat' (first | exact trivial | assumption | exact xob_b rfl | exact xal_b rfl | (apply And.intro) | decide)) ?_
              try dsimp only [xsto1, xsto2, xkill, xget, xset, gd_0, gd_s]
              first
                | exact ih _ ⟨_, _, by rw [nI_1, sw_eq (E := E) (k := k) (w_eq.mp ((lg_eq0 _ _).mp (Decidable.not_not.mp h76)))]⟩
                | (have g76 : ¬ E (k + 1) = (sw E k).2.2.2.2.1 := fun q => h76 ((lg_eq0 _ _).mpr (w_eq.mpr q))
                   have g87 : (if (sw E k).2.2.2.2.1 < E (k + 1) then (1 : Int32) else -1) = -1 ∨ (if (sw E k).2.2.2.2.1 < E (k + 1) then (1 : Int32) else -1) = 1 := by
                     first
                       | exact Or.inl (if_neg (fun q => by have := (lg_le0 _ _).mp h87; exact absurd (w_lt.mpr q) (Int64.not_lt.mpr this)))
                       | exact Or.inr (if_pos (w_lt.mp (Int64.not_le.mp (fun q => h87 ((lg_le0 _ _).mpr q)))))
                   first
                     | exact ih _ ⟨_, _, by rw [nI_1, sw_ad (E := E) (k := k) g76 (by first | exact if_neg (fun q => by have := (lg_le0 _ _).mp h87; exact absurd (w_lt.mpr q) (Int64.not_lt.mpr this)) | exact if_pos (w_lt.mp (Int64.not_le.mp (fun q => h87 ((lg_le0 _ _).mpr q))))) h99 h106]⟩
                     | exact ih _ ⟨_, _, by rw [nI_1, sw_no (E := E) (k := k) g76 (by first | exact if_neg (fun q => by have := (lg_le0 _ _).mp h87; exact absurd (w_lt.mpr q) (Int64.not_lt.mpr this)) | exact if_pos (w_lt.mp (Int64.not_le.mp (fun q => h87 ((lg_le0 _ _).mpr q))))) (by first | exact Or.inl h99 | exact Or.inl (Decidable.not_not.mp h99) | exact Or.inr h106 | exact Or.inr (Decidable.not_not.mp h106))]⟩)
      · refine xG_run 3 rfl (by repeat' (first | exact trivial | assumption | exact xob_b rfl | exact xal_b rfl | (apply And.intro) | decide)) ?_
        try dsimp only [xsto1, xsto2, xkill, xget, xset, gd_0, gd_s]
        first
          | exact ih _ ⟨_, _, by rw [nI_1, sw_eq (E := E) (k := k) (w_eq.mp ((lg_eq0 _ _).mp (Decidable.not_not.mp h76)))]⟩
          | (have g76 : ¬ E (k + 1) = (sw E k).2.2.2.2.1 := fun q => h76 ((lg_eq0 _ _).mpr (w_eq.mpr q))
             have g87 : (if (sw E k).2.2.2.2.1 < E (k + 1) then (1 : Int32) else -1) = -1 ∨ (if (sw E k).2.2.2.2.1 < E (k + 1) then (1 : Int32) else -1) = 1 := by
               first
                 | exact Or.inl (if_neg (fun q => by have := (lg_le0 _ _).mp h87; exact absurd (w_lt.mpr q) (Int64.not_lt.mpr this)))
                 | exact Or.inr (if_pos (w_lt.mp (Int64.not_le.mp (fun q => h87 ((lg_le0 _ _).mpr q)))))
             first
               | exact ih _ ⟨_, _, by rw [nI_1, sw_ad (E := E) (k := k) g76 (by first | exact if_neg (fun q => by have := (lg_le0 _ _).mp h87; exact absurd (w_lt.mpr q) (Int64.not_lt.mpr this)) | exact if_pos (w_lt.mp (Int64.not_le.mp (fun q => h87 ((lg_le0 _ _).mpr q))))) h99 h106]⟩
               | exact ih _ ⟨_, _, by rw [nI_1, sw_no (E := E) (k := k) g76 (by first | exact if_neg (fun q => by have := (lg_le0 _ _).mp h87; exact absurd (w_lt.mpr q) (Int64.not_lt.mpr this)) | exact if_pos (w_lt.mp (Int64.not_le.mp (fun q => h87 ((lg_le0 _ _).mpr q))))) (by first | exact Or.inl h99 | exact Or.inl (Decidable.not_not.mp h99) | exact Or.inr h106 | exact Or.inr (Decidable.not_not.mp h106))]⟩)
    · rintro X ⟨x8, x10, rfl⟩
      refine xG_run 5 rfl (by repeat' (first | exact trivial | assumption | exact xob_b rfl | exact xal_b rfl | (apply And.intro) | decide)) ?_
      try dsimp only [xsto1, xsto2, xkill, xget, xset, gd_0, gd_s]
      refine xG_brT rfl (by rw [hzz, show z - 1 + 1 = z by omega]; exact Int32.le_refl _) ?_
      refine xG_run 1 rfl (by repeat' (first | exact trivial | assumption | exact xob_b rfl | exact xal_b rfl | (apply And.intro) | decide)) ?_
      try dsimp only [xsto1, xsto2, xkill, xget, xset, gd_0, gd_s]
      refine xG_br rfl (fun h136 => ?_) (fun h136 => ?_)
      · refine r2_v rfl rfl ?_
        refine ⟨rfl, ?_⟩
        unfold swX swR swF
        rw [if_neg hz0]
        first
          | (rw [if_pos h136]; done)
          | (rw [if_pos (Decidable.not_not.mp h136)]; done)
          | (rw [if_neg h136]; done)
      · refine xG_run 4 rfl (by repeat' (first | exact trivial | assumption | exact xob_b rfl | exact xal_b rfl | (apply And.intro) | decide)) ?_
        try dsimp only [xsto1, xsto2, xkill, xget, xset, gd_0, gd_s]
        refine xG_c2 1 rfl (by repeat' (first | exact trivial | assumption | exact xob_b rfl | exact xal_b rfl | (apply And.intro) | decide)) rfl rfl (by decide) cw_X12_adds (d' := d - 1) (e_radds (a := (sw E (z - 1)).2.2.2.1) (b := (sw E (z - 1)).2.2.2.2.1) rfl) (by omega) ?_
        rintro v M' ⟨rfl, hM⟩
        subst M'
        dsimp only [Option.toList, List.cons_append, List.nil_append]
        rw [swM_f, swM_gg (by decide), swM_t, swM_w (by decide)]
        refine r2_v rfl rfl ?_
        refine ⟨rfl, ?_⟩
        unfold swX swR swF
        rw [if_neg hz0]
        first
          | (rw [if_pos h136]; done)
          | (rw [if_pos (Decidable.not_not.mp h136)]; done)
          | (rw [if_neg h136]; done)
  · rw [hzr] at h21
    have hz0 : z = 0 := (nI_eq (a := z) (b := 0) (by omega) (by omega)).mp (Decidable.not_not.mp h21)
    refine r2_v rfl rfl ?_
    refine ⟨rfl, ?_⟩
    unfold swX swR
    rw [if_pos hz0]
    rfl
set_option maxRecDepth 4000 in
theorem e_m_swings {κ : xKK} {d : Nat} {M : xM} (hz : ∀ j, j < 8 → ∃ z, z ≤ 120 ∧ gI M 172 j = nI z) {i w : Int32} (hd : 3 ≤ d) : xE2 κ mX12_swings d [.ref 166, .int i, .int w] M (fun v M' => (∃ j, j < 8 ∧ i = nI j ∧ (0 ≤ w ∧ w ≤ 2) ∧ ((rWR M j 2 = 0 ∧ v = some (.long (swV w (swR (fun k => gI M 173 (120 * j + k)) (gI M 172 j).toNatClampNeg))) ∧ M' = swX M 166 21 22 23 (swR (fun k => gI M 173 (120 * j + k)) (gI M 172 j).toNatClampNeg)) ∨ (¬ rWR M j 2 = 0 ∧ v = some (.long (rWR M j 2).toInt64) ∧ M' = M))) ∨ (¬ ((∃ j, j < 8 ∧ i = nI j) ∧ 0 ≤ w ∧ w ≤ 2) ∧ v = some (.long (-1)) ∧ M' = M)) := by
  refine xE2_of ci_X12_swings cl_X12_swings cw_X12_swings rfl (L := [some (.ref 166), some (.int i), some (.int w), none]) rfl ?_
  refine xG_run 1 rfl (by repeat' (first | exact trivial | assumption | exact xob_b rfl | exact xal_b rfl | (apply And.intro) | decide)) ?_
  try dsimp only [xsto1, xsto2, xkill, xget, xset, gd_0, gd_s]
  refine xG_c2 1 rfl (by repeat' (first | exact trivial | assumption | exact xob_b rfl | exact xal_b rfl | (apply And.intro) | decide)) rfl rfl (by decide) cw_X12_isShelf (d' := d - 1) (e_isShelf (by omega)) (by omega) ?_
  rintro v M' ⟨rfl, hM⟩
  subst M'
  dsimp only [Option.toList, List.cons_append, List.nil_append]
  refine xG_br rfl (fun h4 => ?_) (fun h4 => ?_)
  · have b4 := z0.mp h4
    refine xG_run 1 rfl (by repeat' (first | exact trivial | assumption | exact xob_b rfl | exact xal_b rfl | (apply And.intro) | decide)) ?_
    try dsimp only [xsto1, xsto2, xkill, xget, xset, gd_0, gd_s]
    refine r2_l rfl rfl ?_
    first
      | (refine Or.inr ⟨?_, rfl, rfl⟩
         rintro ⟨a1, a2⟩
         first
           | exact no8 b4 a1
           | exact b16 a2)
      | exact absurd hk4 hno
      | exact Or.inl ⟨j, hj, hij, b16, Or.inr ⟨h31, rfl, rfl⟩⟩
      | (refine Or.inl ⟨j, hj, rfl, b16, Or.inl ⟨by first | exact h31 | exact Decidable.not_not.mp h31, ?_, by rw [ez]⟩⟩
         rw [ez]
         unfold swV
         have g1 : gJ (swX M 166 21 22 23 (swR (fun k => gI M 173 (120 * j + k)) z)) 166 22 = (swR (fun k => gI M 173 (120 * j + k)) z).2.1 := swM_gg (by decide)
         have g2 : gJ (swX M 166 21 22 23 (swR (fun k => gI M 173 (120 * j + k)) z)) 166 23 = (swR (fun k => gI M 173 (120 * j + k)) z).2.2 := swM_t
         have g0 : gI (swX M 166 21 22 23 (swR (fun k => gI M 173 (120 * j + k)) z)) 166 21 = (swR (fun k => gI M 173 (120 * j + k)) z).1 := swM_f
         (try rw [g1] at h67)
         (try rw [g0])
         (try rw [g1])
         (try rw [g2])
         first
           | (rw [if_pos (Decidable.not_not.mp h43)]; done)
           | (rw [if_neg h43, if_pos (Decidable.not_not.mp h56), if_neg (Int64.not_lt.mpr ((lg_le0 _ _).mp h67))]; done)
           | (rw [if_neg h43, if_pos (Decidable.not_not.mp h56), if_pos (Int64.not_le.mp (fun q => h67 ((lg_le0 _ _).mpr q)))]; done)
           | (rw [if_neg h43, if_neg h56]; done))
  · have b4 := z1.mp h4
    have hk4 : ∃ j, j < 8 ∧ i = nI j := by obtain ⟨j, hj, e⟩ := inI_of (n := 8) (show 0 ≤ i ∧ i < nI 8 from b4) (by omega); exact ⟨j, hj, e⟩
    refine xG_run 4 rfl (by repeat' (first | exact trivial | assumption | exact xob_b rfl | exact xal_b rfl | (apply And.intro) | decide)) ?_
    try dsimp only [xsto1, xsto2, xkill, xget, xset, gd_0, gd_s]
    refine xG_c2 3 rfl (by repeat' (first | exact trivial | assumption | exact xob_b rfl | exact xal_b rfl | (apply And.intro) | decide)) rfl rfl (by decide) cw_X12_isIn (d' := d - 1) (e_isIn (c := 0 ≤ w ∧ w ≤ 2) (in32 rfl rfl)) (by omega) ?_
    rintro v M' ⟨rfl, hM⟩
    subst M'
    dsimp only [Option.toList, List.cons_append, List.nil_append]
    refine xG_br rfl (fun h16 => ?_) (fun h16 => ?_)
    · have b16 := z1.mp h16
      refine xG_run 3 rfl (by repeat' (first | exact trivial | assumption | exact xob_b rfl | exact xal_b rfl | (apply And.intro) | decide)) ?_
      try dsimp only [xsto1, xsto2, xkill, xget, xset, gd_0, gd_s]
      refine xG_c2 2 rfl (by repeat' (first | exact trivial | assumption | exact xob_b rfl | exact xal_b rfl | (apply And.intro) | decide)) rfl rfl (by decide) cw_X12_wrongRow (d' := d - 1) (e_wrongRow (s := 2) (by omega)) (by omega) ?_
      rintro v M' ⟨hv, hM⟩
      subst M'
      rcases hv with ⟨j, hj, hij, rfl⟩ | ⟨hno, rfl⟩
      · dsimp only [Option.toList, List.cons_append, List.nil_append]
        obtain ⟨z, hz1, hz2⟩ := hz j hj
        have ez : (gI M 172 j).toNatClampNeg = z := by rw [hz2]; exact nI_cl (by omega)
        refine xG_run 2 rfl (by repeat' (first | exact trivial | assumption | exact xob_b rfl | exact xal_b rfl | (apply And.intro) | decide)) ?_
        try dsimp only [xsto1, xsto2, xkill, xget, xset, gd_0, gd_s]
        refine xG_br rfl (fun h31 => ?_) (fun h31 => ?_)
        · first
            | (exfalso; first | exact absurd h31 (by decide) | exact hno hk4)
            | (subst hij
               refine xG_run 2 rfl (by repeat' (first | exact trivial | assumption | exact xob_b rfl | exact xal_b rfl | (apply And.intro) | decide)) ?_
               try dsimp only [xsto1, xsto2, xkill, xget, xset, gd_0, gd_s]
               refine xG_c2 1 rfl (by repeat' (first | exact trivial | assumption | exact xob_b rfl | exact xal_b rfl | (apply And.intro) | decide)) rfl rfl (by decide) cw_X12_findSwings (d' := d - 1) (e_findSwings (E := fun k => gI M 173 (120 * j + k)) hj hz2 hz1 (fun _ => rfl) (by omega)) (by omega) ?_
               rintro v M' ⟨rfl, hM⟩
               subst M'
               dsimp only [Option.toList, List.cons_append, List.nil_append]
               refine xG_run 1 rfl (by repeat' (first | exact trivial | assumption | exact xob_b rfl | exact xal_b rfl | (apply And.intro) | decide)) ?_
               try dsimp only [xsto1, xsto2, xkill, xget, xset, gd_0, gd_s]
               refine xG_br rfl (fun h43 => ?_) (fun h43 => ?_)
               · refine xG_run 2 rfl (by repeat' (first | exact trivial | assumption | exact xob_b rfl | exact xal_b rfl | (apply And.intro) | decide)) ?_
                 try dsimp only [xsto1, xsto2, xkill, xget, xset, gd_0, gd_s]
                 refine xG_br rfl (fun h56 => ?_) (fun h56 => ?_)
                 · refine xG_run 2 rfl (by repeat' (first | exact trivial | assumption | exact xob_b rfl | exact xal_b rfl | (apply And.intro) | decide)) ?_
                   try dsimp only [xsto1, xsto2, xkill, xget, xset, gd_0, gd_s]
                   refine r2_l rfl rfl ?_
                   first
                     | (refine Or.inr ⟨?_, rfl, rfl⟩
                        rintro ⟨a1, a2⟩
                        first
                          | exact no8 b4 a1
                          | exact b16 a2)
                     | exact absurd hk4 hno
                     | exact Or.inl ⟨j, hj, hij, b16, Or.inr ⟨h31, rfl, rfl⟩⟩
                     | (refine Or.inl ⟨j, hj, rfl, b16, Or.inl ⟨by first | exact h31 | exact Decidable.not_not.mp h31, ?_, by rw [ez]⟩⟩
                        rw [ez]
                        unfold swV
                        have g1 : gJ (swX M 166 21 22 23 (swR (fun k => gI M 173 (120 * j + k)) z)) 166 22 = (swR (fun k => gI M 173 (120 * j + k)) z).2.1 := swM_gg (by decide)
                        have g2 : gJ (swX M 166 21 22 23 (swR (fun k => gI M 173 (120 * j + k)) z)) 166 23 = (swR (fun k => gI M 173 (120 * j + k)) z).2.2 := swM_t
                        have g0 : gI (swX M 166 21 22 23 (swR (fun k => gI M 173 (120 * j + k)) z)) 166 21 = (swR (fun k => gI M 173 (120 * j + k)) z).1 := swM_f
                        (try rw [g1] at h67)
                        (try rw [g0])
                        (try rw [g1])
                        (try rw [g2])
                        first
                          | (rw [if_pos (Decidable.not_not.mp h43)]; done)
                          | (rw [if_neg h43, if_pos (Decidable.not_not.mp h56), if_neg (Int64.not_lt.mpr ((lg_le0 _ _).mp h67))]; done)
                          | (rw [if_neg h43, if_pos (Decidable.not_not.mp h56), if_pos (Int64.not_le.mp (fun q => h67 ((lg_le0 _ _).mpr q)))]; done)
                          | (rw [if_neg h43, if_neg h56]; done))
                 · refine xG_run 4 rfl (by repeat' (first | exact trivial | assumption | exact xob_b rfl | exact xal_b rfl | (apply And.intro) | decide)) ?_
                   try dsimp only [xsto1, xsto2, xkill, xget, xset, gd_0, gd_s]
                   refine xG_br rfl (fun h67 => ?_) (fun h67 => ?_)
                   · refine xG_run 3 rfl (by repeat' (first | exact trivial | assumption | exact xob_b rfl | exact xal_b rfl | (apply And.intro) | decide)) ?_
                     try dsimp only [xsto1, xsto2, xkill, xget, xset, gd_0, gd_s]
                     refine r2_l rfl rfl ?_
                     first
                       | (refine Or.inr ⟨?_, rfl, rfl⟩
                          rintro ⟨a1, a2⟩
                          first
                            | exact no8 b4 a1
                            | exact b16 a2)
                       | exact absurd hk4 hno
                       | exact Or.inl ⟨j, hj, hij, b16, Or.inr ⟨h31, rfl, rfl⟩⟩
                       | (refine Or.inl ⟨j, hj, rfl, b16, Or.inl ⟨by first | exact h31 | exact Decidable.not_not.mp h31, ?_, by rw [ez]⟩⟩
                          rw [ez]
                          unfold swV
                          have g1 : gJ (swX M 166 21 22 23 (swR (fun k => gI M 173 (120 * j + k)) z)) 166 22 = (swR (fun k => gI M 173 (120 * j + k)) z).2.1 := swM_gg (by decide)
                          have g2 : gJ (swX M 166 21 22 23 (swR (fun k => gI M 173 (120 * j + k)) z)) 166 23 = (swR (fun k => gI M 173 (120 * j + k)) z).2.2 := swM_t
                          have g0 : gI (swX M 166 21 22 23 (swR (fun k => gI M 173 (120 * j + k)) z)) 166 21 = (swR (fun k => gI M 173 (120 * j + k)) z).1 := swM_f
                          (try rw [g1] at h67)
                          (try rw [g0])
                          (try rw [g1])
                          (try rw [g2])
                          first
                            | (rw [if_pos (Decidable.not_not.mp h43)]; done)
                            | (rw [if_neg h43, if_pos (Decidable.not_not.mp h56), if_neg (Int64.not_lt.mpr ((lg_le0 _ _).mp h67))]; done)
                            | (rw [if_neg h43, if_pos (Decidable.not_not.mp h56), if_pos (Int64.not_le.mp (fun q => h67 ((lg_le0 _ _).mpr q)))]; done)
                            | (rw [if_neg h43, if_neg h56]; done))
                   · refine xG_run 2 rfl (by repeat' (first | exact trivial | assumption | exact xob_b rfl | exact xal_b rfl | (apply And.intro) | decide)) ?_
                     try dsimp only [xsto1, xsto2, xkill, xget, xset, gd_0, gd_s]
                     refine r2_l rfl rfl ?_
                     first
                       | (refine Or.inr ⟨?_, rfl, rfl⟩
                          rintro ⟨a1, a2⟩
                          first
                            | exact no8 b4 a1
                            | exact b16 a2)
                       | exact absurd hk4 hno
                       | exact Or.inl ⟨j, hj, hij, b16, Or.inr ⟨h31, rfl, rfl⟩⟩
                       | (refine Or.inl ⟨j, hj, rfl, b16, Or.inl ⟨by first | exact h31 | exact Decidable.not_not.mp h31, ?_, by rw [ez]⟩⟩
                          rw [ez]
                          unfold swV
                          have g1 : gJ (swX M 166 21 22 23 (swR (fun k => gI M 173 (120 * j + k)) z)) 166 22 = (swR (fun k => gI M 173 (120 * j + k)) z).2.1 := swM_gg (by decide)
                          have g2 : gJ (swX M 166 21 22 23 (swR (fun k => gI M 173 (120 * j + k)) z)) 166 23 = (swR (fun k => gI M 173 (120 * j + k)) z).2.2 := swM_t
                          have g0 : gI (swX M 166 21 22 23 (swR (fun k => gI M 173 (120 * j + k)) z)) 166 21 = (swR (fun k => gI M 173 (120 * j + k)) z).1 := swM_f
                          (try rw [g1] at h67)
                          (try rw [g0])
                          (try rw [g1])
                          (try rw [g2])
                          first
                            | (rw [if_pos (Decidable.not_not.mp h43)]; done)
                            | (rw [if_neg h43, if_pos (Decidable.not_not.mp h56), if_neg (Int64.not_lt.mpr ((lg_le0 _ _).mp h67))]; done)
                            | (rw [if_neg h43, if_pos (Decidable.not_not.mp h56), if_pos (Int64.not_le.mp (fun q => h67 ((lg_le0 _ _).mpr q)))]; done)
                            | (rw [if_neg h43, if_neg h56]; done))
               · refine xG_run 4 rfl (by repeat' (first | exact trivial | assumption | exact xob_b rfl | exact xal_b rfl | (apply And.intro) | decide)) ?_
                 try dsimp only [xsto1, xsto2, xkill, xget, xset, gd_0, gd_s]
                 refine r2_l rfl rfl ?_
                 first
                   | (refine Or.inr ⟨?_, rfl, rfl⟩
                      rintro ⟨a1, a2⟩
                      first
                        | exact no8 b4 a1
                        | exact b16 a2)
                   | exact absurd hk4 hno
                   | exact Or.inl ⟨j, hj, hij, b16, Or.inr ⟨h31, rfl, rfl⟩⟩
                   | (refine Or.inl ⟨j, hj, rfl, b16, Or.inl ⟨by first | exact h31 | exact Decidable.not_not.mp h31, ?_, by rw [ez]⟩⟩
                      rw [ez]
                      unfold swV
                      have g1 : gJ (swX M 166 21 22 23 (swR (fun k => gI M 173 (120 * j + k)) z)) 166 22 = (swR (fun k => gI M 173 (120 * j + k)) z).2.1 := swM_gg (by decide)
                      have g2 : gJ (swX M 166 21 22 23 (swR (fun k => gI M 173 (120 * j + k)) z)) 166 23 = (swR (fun k => gI M 173 (120 * j + k)) z).2.2 := swM_t
                      have g0 : gI (swX M 166 21 22 23 (swR (fun k => gI M 173 (120 * j + k)) z)) 166 21 = (swR (fun k => gI M 173 (120 * j + k)) z).1 := swM_f
                      (try rw [g1] at h67)
                      (try rw [g0])
                      (try rw [g1])
                      (try rw [g2])
                      first
                        | (rw [if_pos (Decidable.not_not.mp h43)]; done)
                        | (rw [if_neg h43, if_pos (Decidable.not_not.mp h56), if_neg (Int64.not_lt.mpr ((lg_le0 _ _).mp h67))]; done)
                        | (rw [if_neg h43, if_pos (Decidable.not_not.mp h56), if_pos (Int64.not_le.mp (fun q => h67 ((lg_le0 _ _).mpr q)))]; done)
                        | (rw [if_neg h43, if_neg h56]; done)))
        · first
            | (exfalso; first | exact absurd h31 (by decide) | exact hno hk4)
            | (refine xG_run 2 rfl (by repeat' (first | exact trivial | assumption | exact xob_b rfl | exact xal_b rfl | (apply And.intro) | decide)) ?_
               try dsimp only [xsto1, xsto2, xkill, xget, xset, gd_0, gd_s]
               refine r2_l rfl rfl ?_
               first
                 | (refine Or.inr ⟨?_, rfl, rfl⟩
                    rintro ⟨a1, a2⟩
                    first
                      | exact no8 b4 a1
                      | exact b16 a2)
                 | exact absurd hk4 hno
                 | exact Or.inl ⟨j, hj, hij, b16, Or.inr ⟨h31, rfl, rfl⟩⟩
                 | (refine Or.inl ⟨j, hj, rfl, b16, Or.inl ⟨by first | exact h31 | exact Decidable.not_not.mp h31, ?_, by rw [ez]⟩⟩
                    rw [ez]
                    unfold swV
                    have g1 : gJ (swX M 166 21 22 23 (swR (fun k => gI M 173 (120 * j + k)) z)) 166 22 = (swR (fun k => gI M 173 (120 * j + k)) z).2.1 := swM_gg (by decide)
                    have g2 : gJ (swX M 166 21 22 23 (swR (fun k => gI M 173 (120 * j + k)) z)) 166 23 = (swR (fun k => gI M 173 (120 * j + k)) z).2.2 := swM_t
                    have g0 : gI (swX M 166 21 22 23 (swR (fun k => gI M 173 (120 * j + k)) z)) 166 21 = (swR (fun k => gI M 173 (120 * j + k)) z).1 := swM_f
                    (try rw [g1] at h67)
                    (try rw [g0])
                    (try rw [g1])
                    (try rw [g2])
                    first
                      | (rw [if_pos (Decidable.not_not.mp h43)]; done)
                      | (rw [if_neg h43, if_pos (Decidable.not_not.mp h56), if_neg (Int64.not_lt.mpr ((lg_le0 _ _).mp h67))]; done)
                      | (rw [if_neg h43, if_pos (Decidable.not_not.mp h56), if_pos (Int64.not_le.mp (fun q => h67 ((lg_le0 _ _).mpr q)))]; done)
                      | (rw [if_neg h43, if_neg h56]; done)))
      · dsimp only [Option.toList, List.cons_append, List.nil_append]
        refine xG_run 2 rfl (by repeat' (first | exact trivial | assumption | exact xob_b rfl | exact xal_b rfl | (apply And.intro) | decide)) ?_
        try dsimp only [xsto1, xsto2, xkill, xget, xset, gd_0, gd_s]
        refine xG_br rfl (fun h31 => ?_) (fun h31 => ?_)
        · first
            | (exfalso; first | exact absurd h31 (by decide) | exact hno hk4)
            | (subst hij
               refine xG_run 2 rfl (by repeat' (first | exact trivial | assumption | exact xob_b rfl | exact xal_b rfl | (apply And.intro) | decide)) ?_
               try dsimp only [xsto1, xsto2, xkill, xget, xset, gd_0, gd_s]
               refine xG_c2 1 rfl (by repeat' (first | exact trivial | assumption | exact xob_b rfl | exact xal_b rfl | (apply And.intro) | decide)) rfl rfl (by decide) cw_X12_findSwings (d' := d - 1) (e_findSwings (E := fun k => gI M 173 (120 * j + k)) hj hz2 hz1 (fun _ => rfl) (by omega)) (by omega) ?_
               rintro v M' ⟨rfl, hM⟩
               subst M'
               dsimp only [Option.toList, List.cons_append, List.nil_append]
               refine xG_run 1 rfl (by repeat' (first | exact trivial | assumption | exact xob_b rfl | exact xal_b rfl | (apply And.intro) | decide)) ?_
               try dsimp only [xsto1, xsto2, xkill, xget, xset, gd_0, gd_s]
               refine xG_br rfl (fun h43 => ?_) (fun h43 => ?_)
               · refine xG_run 2 rfl (by repeat' (first | exact trivial | assumption | exact xob_b rfl | exact xal_b rfl | (apply And.intro) | decide)) ?_
                 try dsimp only [xsto1, xsto2, xkill, xget, xset, gd_0, gd_s]
                 refine xG_br rfl (fun h56 => ?_) (fun h56 => ?_)
                 · refine xG_run 2 rfl (by repeat' (first | exact trivial | assumption | exact xob_b rfl | exact xal_b rfl | (apply And.intro) | decide)) ?_
                   try dsimp only [xsto1, xsto2, xkill, xget, xset, gd_0, gd_s]
                   refine r2_l rfl rfl ?_
                   first
                     | (refine Or.inr ⟨?_, rfl, rfl⟩
                        rintro ⟨a1, a2⟩
                        first
                          | exact no8 b4 a1
                          | exact b16 a2)
                     | exact absurd hk4 hno
                     | exact Or.inl ⟨j, hj, hij, b16, Or.inr ⟨h31, rfl, rfl⟩⟩
                     | (refine Or.inl ⟨j, hj, rfl, b16, Or.inl ⟨by first | exact h31 | exact Decidable.not_not.mp h31, ?_, by rw [ez]⟩⟩
                        rw [ez]
                        unfold swV
                        have g1 : gJ (swX M 166 21 22 23 (swR (fun k => gI M 173 (120 * j + k)) z)) 166 22 = (swR (fun k => gI M 173 (120 * j + k)) z).2.1 := swM_gg (by decide)
                        have g2 : gJ (swX M 166 21 22 23 (swR (fun k => gI M 173 (120 * j + k)) z)) 166 23 = (swR (fun k => gI M 173 (120 * j + k)) z).2.2 := swM_t
                        have g0 : gI (swX M 166 21 22 23 (swR (fun k => gI M 173 (120 * j + k)) z)) 166 21 = (swR (fun k => gI M 173 (120 * j + k)) z).1 := swM_f
                        (try rw [g1] at h67)
                        (try rw [g0])
                        (try rw [g1])
                        (try rw [g2])
                        first
                          | (rw [if_pos (Decidable.not_not.mp h43)]; done)
                          | (rw [if_neg h43, if_pos (Decidable.not_not.mp h56), if_neg (Int64.not_lt.mpr ((lg_le0 _ _).mp h67))]; done)
                          | (rw [if_neg h43, if_pos (Decidable.not_not.mp h56), if_pos (Int64.not_le.mp (fun q => h67 ((lg_le0 _ _).mpr q)))]; done)
                          | (rw [if_neg h43, if_neg h56]; done))
                 · refine xG_run 4 rfl (by repeat' (first | exact trivial | assumption | exact xob_b rfl | exact xal_b rfl | (apply And.intro) | decide)) ?_
                   try dsimp only [xsto1, xsto2, xkill, xget, xset, gd_0, gd_s]
                   refine xG_br rfl (fun h67 => ?_) (fun h67 => ?_)
                   · refine xG_run 3 rfl (by repeat' (first | exact trivial | assumption | exact xob_b rfl | exact xal_b rfl | (apply And.intro) | decide)) ?_
                     try dsimp only [xsto1, xsto2, xkill, xget, xset, gd_0, gd_s]
                     refine r2_l rfl rfl ?_
                     first
                       | (refine Or.inr ⟨?_, rfl, rfl⟩
                          rintro ⟨a1, a2⟩
                          first
                            | exact no8 b4 a1
                            | exact b16 a2)
                       | exact absurd hk4 hno
                       | exact Or.inl ⟨j, hj, hij, b16, Or.inr ⟨h31, rfl, rfl⟩⟩
                       | (refine Or.inl ⟨j, hj, rfl, b16, Or.inl ⟨by first | exact h31 | exact Decidable.not_not.mp h31, ?_, by rw [ez]⟩⟩
                          rw [ez]
                          unfold swV
                          have g1 : gJ (swX M 166 21 22 23 (swR (fun k => gI M 173 (120 * j + k)) z)) 166 22 = (swR (fun k => gI M 173 (120 * j + k)) z).2.1 := swM_gg (by decide)
                          have g2 : gJ (swX M 166 21 22 23 (swR (fun k => gI M 173 (120 * j + k)) z)) 166 23 = (swR (fun k => gI M 173 (120 * j + k)) z).2.2 := swM_t
                          have g0 : gI (swX M 166 21 22 23 (swR (fun k => gI M 173 (120 * j + k)) z)) 166 21 = (swR (fun k => gI M 173 (120 * j + k)) z).1 := swM_f
                          (try rw [g1] at h67)
                          (try rw [g0])
                          (try rw [g1])
                          (try rw [g2])
                          first
                            | (rw [if_pos (Decidable.not_not.mp h43)]; done)
                            | (rw [if_neg h43, if_pos (Decidable.not_not.mp h56), if_neg (Int64.not_lt.mpr ((lg_le0 _ _).mp h67))]; done)
                            | (rw [if_neg h43, if_pos (Decidable.not_not.mp h56), if_pos (Int64.not_le.mp (fun q => h67 ((lg_le0 _ _).mpr q)))]; done)
                            | (rw [if_neg h43, if_neg h56]; done))
                   · refine xG_run 2 rfl (by repeat' (first | exact trivial | assumption | exact xob_b rfl | exact xal_b rfl | (apply And.intro) | decide)) ?_
                     try dsimp only [xsto1, xsto2, xkill, xget, xset, gd_0, gd_s]
                     refine r2_l rfl rfl ?_
                     first
                       | (refine Or.inr ⟨?_, rfl, rfl⟩
                          rintro ⟨a1, a2⟩
                          first
                            | exact no8 b4 a1
                            | exact b16 a2)
                       | exact absurd hk4 hno
                       | exact Or.inl ⟨j, hj, hij, b16, Or.inr ⟨h31, rfl, rfl⟩⟩
                       | (refine Or.inl ⟨j, hj, rfl, b16, Or.inl ⟨by first | exact h31 | exact Decidable.not_not.mp h31, ?_, by rw [ez]⟩⟩
                          rw [ez]
                          unfold swV
                          have g1 : gJ (swX M 166 21 22 23 (swR (fun k => gI M 173 (120 * j + k)) z)) 166 22 = (swR (fun k => gI M 173 (120 * j + k)) z).2.1 := swM_gg (by decide)
                          have g2 : gJ (swX M 166 21 22 23 (swR (fun k => gI M 173 (120 * j + k)) z)) 166 23 = (swR (fun k => gI M 173 (120 * j + k)) z).2.2 := swM_t
                          have g0 : gI (swX M 166 21 22 23 (swR (fun k => gI M 173 (120 * j + k)) z)) 166 21 = (swR (fun k => gI M 173 (120 * j + k)) z).1 := swM_f
                          (try rw [g1] at h67)
                          (try rw [g0])
                          (try rw [g1])
                          (try rw [g2])
                          first
                            | (rw [if_pos (Decidable.not_not.mp h43)]; done)
                            | (rw [if_neg h43, if_pos (Decidable.not_not.mp h56), if_neg (Int64.not_lt.mpr ((lg_le0 _ _).mp h67))]; done)
                            | (rw [if_neg h43, if_pos (Decidable.not_not.mp h56), if_pos (Int64.not_le.mp (fun q => h67 ((lg_le0 _ _).mpr q)))]; done)
                            | (rw [if_neg h43, if_neg h56]; done))
               · refine xG_run 4 rfl (by repeat' (first | exact trivial | assumption | exact xob_b rfl | exact xal_b rfl | (apply And.intro) | decide)) ?_
                 try dsimp only [xsto1, xsto2, xkill, xget, xset, gd_0, gd_s]
                 refine r2_l rfl rfl ?_
                 first
                   | (refine Or.inr ⟨?_, rfl, rfl⟩
                      rintro ⟨a1, a2⟩
                      first
                        | exact no8 b4 a1
                        | exact b16 a2)
                   | exact absurd hk4 hno
                   | exact Or.inl ⟨j, hj, hij, b16, Or.inr ⟨h31, rfl, rfl⟩⟩
                   | (refine Or.inl ⟨j, hj, rfl, b16, Or.inl ⟨by first | exact h31 | exact Decidable.not_not.mp h31, ?_, by rw [ez]⟩⟩
                      rw [ez]
                      unfold swV
                      have g1 : gJ (swX M 166 21 22 23 (swR (fun k => gI M 173 (120 * j + k)) z)) 166 22 = (swR (fun k => gI M 173 (120 * j + k)) z).2.1 := swM_gg (by decide)
                      have g2 : gJ (swX M 166 21 22 23 (swR (fun k => gI M 173 (120 * j + k)) z)) 166 23 = (swR (fun k => gI M 173 (120 * j + k)) z).2.2 := swM_t
                      have g0 : gI (swX M 166 21 22 23 (swR (fun k => gI M 173 (120 * j + k)) z)) 166 21 = (swR (fun k => gI M 173 (120 * j + k)) z).1 := swM_f
                      (try rw [g1] at h67)
                      (try rw [g0])
                      (try rw [g1])
                      (try rw [g2])
                      first
                        | (rw [if_pos (Decidable.not_not.mp h43)]; done)
                        | (rw [if_neg h43, if_pos (Decidable.not_not.mp h56), if_neg (Int64.not_lt.mpr ((lg_le0 _ _).mp h67))]; done)
                        | (rw [if_neg h43, if_pos (Decidable.not_not.mp h56), if_pos (Int64.not_le.mp (fun q => h67 ((lg_le0 _ _).mpr q)))]; done)
                        | (rw [if_neg h43, if_neg h56]; done)))
        · first
            | (exfalso; first | exact absurd h31 (by decide) | exact hno hk4)
            | (refine xG_run 2 rfl (by repeat' (first | exact trivial | assumption | exact xob_b rfl | exact xal_b rfl | (apply And.intro) | decide)) ?_
               try dsimp only [xsto1, xsto2, xkill, xget, xset, gd_0, gd_s]
               refine r2_l rfl rfl ?_
               first
                 | (refine Or.inr ⟨?_, rfl, rfl⟩
                    rintro ⟨a1, a2⟩
                    first
                      | exact no8 b4 a1
                      | exact b16 a2)
                 | exact absurd hk4 hno
                 | exact Or.inl ⟨j, hj, hij, b16, Or.inr ⟨h31, rfl, rfl⟩⟩
                 | (refine Or.inl ⟨j, hj, rfl, b16, Or.inl ⟨by first | exact h31 | exact Decidable.not_not.mp h31, ?_, by rw [ez]⟩⟩
                    rw [ez]
                    unfold swV
                    have g1 : gJ (swX M 166 21 22 23 (swR (fun k => gI M 173 (120 * j + k)) z)) 166 22 = (swR (fun k => gI M 173 (120 * j + k)) z).2.1 := swM_gg (by decide)
                    have g2 : gJ (swX M 166 21 22 23 (swR (fun k => gI M 173 (120 * j + k)) z)) 166 23 = (swR (fun k => gI M 173 (120 * j + k)) z).2.2 := swM_t
                    have g0 : gI (swX M 166 21 22 23 (swR (fun k => gI M 173 (120 * j + k)) z)) 166 21 = (swR (fun k => gI M 173 (120 * j + k)) z).1 := swM_f
                    (try rw [g1] at h67)
                    (try rw [g0])
                    (try rw [g1])
                    (try rw [g2])
                    first
                      | (rw [if_pos (Decidable.not_not.mp h43)]; done)
                      | (rw [if_neg h43, if_pos (Decidable.not_not.mp h56), if_neg (Int64.not_lt.mpr ((lg_le0 _ _).mp h67))]; done)
                      | (rw [if_neg h43, if_pos (Decidable.not_not.mp h56), if_pos (Int64.not_le.mp (fun q => h67 ((lg_le0 _ _).mpr q)))]; done)
                      | (rw [if_neg h43, if_neg h56]; done)))
    · have b16 := z0.mp (Decidable.not_not.mp h16)
      refine xG_run 1 rfl (by repeat' (first | exact trivial | assumption | exact xob_b rfl | exact xal_b rfl | (apply And.intro) | decide)) ?_
      try dsimp only [xsto1, xsto2, xkill, xget, xset, gd_0, gd_s]
      refine r2_l rfl rfl ?_
      first
        | (refine Or.inr ⟨?_, rfl, rfl⟩
           rintro ⟨a1, a2⟩
           first
             | exact no8 b4 a1
             | exact b16 a2)
        | exact absurd hk4 hno
        | exact Or.inl ⟨j, hj, hij, b16, Or.inr ⟨h31, rfl, rfl⟩⟩
        | (refine Or.inl ⟨j, hj, rfl, b16, Or.inl ⟨by first | exact h31 | exact Decidable.not_not.mp h31, ?_, by rw [ez]⟩⟩
           rw [ez]
           unfold swV
           have g1 : gJ (swX M 166 21 22 23 (swR (fun k => gI M 173 (120 * j + k)) z)) 166 22 = (swR (fun k => gI M 173 (120 * j + k)) z).2.1 := swM_gg (by decide)
           have g2 : gJ (swX M 166 21 22 23 (swR (fun k => gI M 173 (120 * j + k)) z)) 166 23 = (swR (fun k => gI M 173 (120 * j + k)) z).2.2 := swM_t
           have g0 : gI (swX M 166 21 22 23 (swR (fun k => gI M 173 (120 * j + k)) z)) 166 21 = (swR (fun k => gI M 173 (120 * j + k)) z).1 := swM_f
           (try rw [g1] at h67)
           (try rw [g0])
           (try rw [g1])
           (try rw [g2])
           first
             | (rw [if_pos (Decidable.not_not.mp h43)]; done)
             | (rw [if_neg h43, if_pos (Decidable.not_not.mp h56), if_neg (Int64.not_lt.mpr ((lg_le0 _ _).mp h67))]; done)
             | (rw [if_neg h43, if_pos (Decidable.not_not.mp h56), if_pos (Int64.not_le.mp (fun q => h67 ((lg_le0 _ _).mpr q)))]; done)
             | (rw [if_neg h43, if_neg h56]; done))
set_option maxRecDepth 4000 in
theorem e_m_years {κ : xKK} {d : Nat} {M : xM} (hz : ∀ j, j < 8 → ∃ z, z ≤ 120 ∧ gI M 172 j = nI z) {i w : Int32} (hd : 3 ≤ d) : xE2 κ mX12_years d [.ref 166, .int i, .int w] M (fun v M' => (∃ j, j < 8 ∧ i = nI j ∧ (1 ≤ w ∧ w ≤ 1000000000) ∧ ((rWR M j 2 = 0 ∧ v = some (.int (if (swR (fun k => gI M 173 (120 * j + k)) (gI M 172 j).toNatClampNeg).2.2 = 0 then -4 else swY w (swR (fun k => gI M 173 (120 * j + k)) (gI M 172 j).toNatClampNeg).2.2)) ∧ M' = swX M 166 21 22 23 (swR (fun k => gI M 173 (120 * j + k)) (gI M 172 j).toNatClampNeg)) ∨ (¬ rWR M j 2 = 0 ∧ v = some (.int (rWR M j 2)) ∧ M' = M))) ∨ (¬ ((∃ j, j < 8 ∧ i = nI j) ∧ 1 ≤ w ∧ w ≤ 1000000000) ∧ v = some (.int (-1)) ∧ M' = M)) := by
  refine xE2_of ci_X12_years cl_X12_years cw_X12_years rfl (L := [some (.ref 166), some (.int i), some (.int w), none, none, none]) rfl ?_
  refine xG_run 1 rfl (by repeat' (first | exact trivial | assumption | exact xob_b rfl | exact xal_b rfl | (apply And.intro) | decide)) ?_
  try dsimp only [xsto1, xsto2, xkill, xget, xset, gd_0, gd_s]
  refine xG_c2 1 rfl (by repeat' (first | exact trivial | assumption | exact xob_b rfl | exact xal_b rfl | (apply And.intro) | decide)) rfl rfl (by decide) cw_X12_isShelf (d' := d - 1) (e_isShelf (by omega)) (by omega) ?_
  rintro v M' ⟨rfl, hM⟩
  subst M'
  dsimp only [Option.toList, List.cons_append, List.nil_append]
  refine xG_br rfl (fun h4 => ?_) (fun h4 => ?_)
  · have b4 := z0.mp h4
    refine xG_run 1 rfl (by repeat' (first | exact trivial | assumption | exact xob_b rfl | exact xal_b rfl | (apply And.intro) | decide)) ?_
    try dsimp only [xsto1, xsto2, xkill, xget, xset, gd_0, gd_s]
    refine r2_i rfl rfl ?_
    first
      | (refine Or.inr ⟨?_, rfl, rfl⟩
         rintro ⟨a1, a2⟩
         first
           | exact no8 b4 a1
           | exact b16 a2)
      | exact absurd hk4 hno
      | exact Or.inl ⟨j, hj, hij, b16, Or.inr ⟨h29, rfl, rfl⟩⟩
      | (refine Or.inl ⟨j, hj, rfl, b16, Or.inl ⟨by first | exact h29 | exact Decidable.not_not.mp h29, ?_, by rw [ez]⟩⟩
         rw [ez]
         have g2 : gJ (swX M 166 21 22 23 (swR (fun k => gI M 173 (120 * j + k)) z)) 166 23 = (swR (fun k => gI M 173 (120 * j + k)) z).2.2 := swM_t
         rw [g2] at h45
         (try rw [g2] at h73)
         (try rw [g2])
         first
           | (rw [if_pos ((lg_eq0 _ _).mp (Decidable.not_not.mp h45))]; done)
           | (rw [if_neg (fun q => h45 ((lg_eq0 _ _).mpr q))]
              unfold swY
              first
                | (rw [if_neg (Int64.not_lt.mpr ((lg_le0 _ _).mp h73))]; done)
                | (rw [if_pos (Int64.not_le.mp (fun q => h73 ((lg_le0 _ _).mpr q)))]; rfl)))
  · have b4 := z1.mp h4
    have hk4 : ∃ j, j < 8 ∧ i = nI j := by obtain ⟨j, hj, e⟩ := inI_of (n := 8) (show 0 ≤ i ∧ i < nI 8 from b4) (by omega); exact ⟨j, hj, e⟩
    refine xG_run 4 rfl (by repeat' (first | exact trivial | assumption | exact xob_b rfl | exact xal_b rfl | (apply And.intro) | decide)) ?_
    try dsimp only [xsto1, xsto2, xkill, xget, xset, gd_0, gd_s]
    refine xG_c2 3 rfl (by repeat' (first | exact trivial | assumption | exact xob_b rfl | exact xal_b rfl | (apply And.intro) | decide)) rfl rfl (by decide) cw_X12_isIn (d' := d - 1) (e_isIn (c := 1 ≤ w ∧ w ≤ 1000000000) (in32 rfl rfl)) (by omega) ?_
    rintro v M' ⟨rfl, hM⟩
    subst M'
    dsimp only [Option.toList, List.cons_append, List.nil_append]
    refine xG_br rfl (fun h16 => ?_) (fun h16 => ?_)
    · have b16 := z1.mp h16
      refine xG_run 3 rfl (by repeat' (first | exact trivial | assumption | exact xob_b rfl | exact xal_b rfl | (apply And.intro) | decide)) ?_
      try dsimp only [xsto1, xsto2, xkill, xget, xset, gd_0, gd_s]
      refine xG_c2 2 rfl (by repeat' (first | exact trivial | assumption | exact xob_b rfl | exact xal_b rfl | (apply And.intro) | decide)) rfl rfl (by decide) cw_X12_wrongRow (d' := d - 1) (e_wrongRow (s := 2) (by omega)) (by omega) ?_
      rintro v M' ⟨hv, hM⟩
      subst M'
      rcases hv with ⟨j, hj, hij, rfl⟩ | ⟨hno, rfl⟩
      · dsimp only [Option.toList, List.cons_append, List.nil_append]
        obtain ⟨z, hz1, hz2⟩ := hz j hj
        have ez : (gI M 172 j).toNatClampNeg = z := by rw [hz2]; exact nI_cl (by omega)
        refine xG_run 2 rfl (by repeat' (first | exact trivial | assumption | exact xob_b rfl | exact xal_b rfl | (apply And.intro) | decide)) ?_
        try dsimp only [xsto1, xsto2, xkill, xget, xset, gd_0, gd_s]
        refine xG_br rfl (fun h29 => ?_) (fun h29 => ?_)
        · first
            | (exfalso; first | exact absurd h29 (by decide) | exact hno hk4)
            | (subst hij
               refine xG_run 2 rfl (by repeat' (first | exact trivial | assumption | exact xob_b rfl | exact xal_b rfl | (apply And.intro) | decide)) ?_
               try dsimp only [xsto1, xsto2, xkill, xget, xset, gd_0, gd_s]
               refine xG_c2 1 rfl (by repeat' (first | exact trivial | assumption | exact xob_b rfl | exact xal_b rfl | (apply And.intro) | decide)) rfl rfl (by decide) cw_X12_findSwings (d' := d - 1) (e_findSwings (E := fun k => gI M 173 (120 * j + k)) hj hz2 hz1 (fun _ => rfl) (by omega)) (by omega) ?_
               rintro v M' ⟨rfl, hM⟩
               subst M'
               dsimp only [Option.toList, List.cons_append, List.nil_append]
               refine xG_run 4 rfl (by repeat' (first | exact trivial | assumption | exact xob_b rfl | exact xal_b rfl | (apply And.intro) | decide)) ?_
               try dsimp only [xsto1, xsto2, xkill, xget, xset, gd_0, gd_s]
               refine xG_br rfl (fun h45 => ?_) (fun h45 => ?_)
               · have hne : ¬ gJ (swX M 166 21 22 23 (swR (fun k => gI M 173 (120 * j + k)) z)) 166 23 = 0 := fun q => h45 ((lg_eq0 _ _).mpr q)
                 refine xG_run 8 rfl (by repeat' (first | exact trivial | assumption | exact xob_b rfl | exact xal_b rfl | (apply And.intro) | decide)) ?_
                 try dsimp only [xsto1, xsto2, xkill, xget, xset, gd_0, gd_s]
                 refine xG_run 6 rfl (by repeat' (first | exact trivial | assumption | exact xob_b rfl | exact xal_b rfl | (apply And.intro) | decide)) ?_
                 try dsimp only [xsto1, xsto2, xkill, xget, xset, gd_0, gd_s]
                 refine xG_br rfl (fun h73 => ?_) (fun h73 => ?_)
                 · refine xG_run 2 rfl (by repeat' (first | exact trivial | assumption | exact xob_b rfl | exact xal_b rfl | (apply And.intro) | decide)) ?_
                   try dsimp only [xsto1, xsto2, xkill, xget, xset, gd_0, gd_s]
                   refine r2_i rfl rfl ?_
                   first
                     | (refine Or.inr ⟨?_, rfl, rfl⟩
                        rintro ⟨a1, a2⟩
                        first
                          | exact no8 b4 a1
                          | exact b16 a2)
                     | exact absurd hk4 hno
                     | exact Or.inl ⟨j, hj, hij, b16, Or.inr ⟨h29, rfl, rfl⟩⟩
                     | (refine Or.inl ⟨j, hj, rfl, b16, Or.inl ⟨by first | exact h29 | exact Decidable.not_not.mp h29, ?_, by rw [ez]⟩⟩
                        rw [ez]
                        have g2 : gJ (swX M 166 21 22 23 (swR (fun k => gI M 173 (120 * j + k)) z)) 166 23 = (swR (fun k => gI M 173 (120 * j + k)) z).2.2 := swM_t
                        rw [g2] at h45
                        (try rw [g2] at h73)
                        (try rw [g2])
                        first
                          | (rw [if_pos ((lg_eq0 _ _).mp (Decidable.not_not.mp h45))]; done)
                          | (rw [if_neg (fun q => h45 ((lg_eq0 _ _).mpr q))]
                             unfold swY
                             first
                               | (rw [if_neg (Int64.not_lt.mpr ((lg_le0 _ _).mp h73))]; done)
                               | (rw [if_pos (Int64.not_le.mp (fun q => h73 ((lg_le0 _ _).mpr q)))]; rfl)))
                 · refine xG_run 2 rfl (by repeat' (first | exact trivial | assumption | exact xob_b rfl | exact xal_b rfl | (apply And.intro) | decide)) ?_
                   try dsimp only [xsto1, xsto2, xkill, xget, xset, gd_0, gd_s]
                   refine r2_i rfl rfl ?_
                   first
                     | (refine Or.inr ⟨?_, rfl, rfl⟩
                        rintro ⟨a1, a2⟩
                        first
                          | exact no8 b4 a1
                          | exact b16 a2)
                     | exact absurd hk4 hno
                     | exact Or.inl ⟨j, hj, hij, b16, Or.inr ⟨h29, rfl, rfl⟩⟩
                     | (refine Or.inl ⟨j, hj, rfl, b16, Or.inl ⟨by first | exact h29 | exact Decidable.not_not.mp h29, ?_, by rw [ez]⟩⟩
                        rw [ez]
                        have g2 : gJ (swX M 166 21 22 23 (swR (fun k => gI M 173 (120 * j + k)) z)) 166 23 = (swR (fun k => gI M 173 (120 * j + k)) z).2.2 := swM_t
                        rw [g2] at h45
                        (try rw [g2] at h73)
                        (try rw [g2])
                        first
                          | (rw [if_pos ((lg_eq0 _ _).mp (Decidable.not_not.mp h45))]; done)
                          | (rw [if_neg (fun q => h45 ((lg_eq0 _ _).mpr q))]
                             unfold swY
                             first
                               | (rw [if_neg (Int64.not_lt.mpr ((lg_le0 _ _).mp h73))]; done)
                               | (rw [if_pos (Int64.not_le.mp (fun q => h73 ((lg_le0 _ _).mpr q)))]; rfl)))
               · refine xG_run 1 rfl (by repeat' (first | exact trivial | assumption | exact xob_b rfl | exact xal_b rfl | (apply And.intro) | decide)) ?_
                 try dsimp only [xsto1, xsto2, xkill, xget, xset, gd_0, gd_s]
                 refine r2_i rfl rfl ?_
                 first
                   | (refine Or.inr ⟨?_, rfl, rfl⟩
                      rintro ⟨a1, a2⟩
                      first
                        | exact no8 b4 a1
                        | exact b16 a2)
                   | exact absurd hk4 hno
                   | exact Or.inl ⟨j, hj, hij, b16, Or.inr ⟨h29, rfl, rfl⟩⟩
                   | (refine Or.inl ⟨j, hj, rfl, b16, Or.inl ⟨by first | exact h29 | exact Decidable.not_not.mp h29, ?_, by rw [ez]⟩⟩
                      rw [ez]
                      have g2 : gJ (swX M 166 21 22 23 (swR (fun k => gI M 173 (120 * j + k)) z)) 166 23 = (swR (fun k => gI M 173 (120 * j + k)) z).2.2 := swM_t
                      rw [g2] at h45
                      (try rw [g2] at h73)
                      (try rw [g2])
                      first
                        | (rw [if_pos ((lg_eq0 _ _).mp (Decidable.not_not.mp h45))]; done)
                        | (rw [if_neg (fun q => h45 ((lg_eq0 _ _).mpr q))]
                           unfold swY
                           first
                             | (rw [if_neg (Int64.not_lt.mpr ((lg_le0 _ _).mp h73))]; done)
                             | (rw [if_pos (Int64.not_le.mp (fun q => h73 ((lg_le0 _ _).mpr q)))]; rfl))))
        · first
            | (exfalso; first | exact absurd h29 (by decide) | exact hno hk4)
            | (refine xG_run 1 rfl (by repeat' (first | exact trivial | assumption | exact xob_b rfl | exact xal_b rfl | (apply And.intro) | decide)) ?_
               try dsimp only [xsto1, xsto2, xkill, xget, xset, gd_0, gd_s]
               refine r2_i rfl rfl ?_
               first
                 | (refine Or.inr ⟨?_, rfl, rfl⟩
                    rintro ⟨a1, a2⟩
                    first
                      | exact no8 b4 a1
                      | exact b16 a2)
                 | exact absurd hk4 hno
                 | exact Or.inl ⟨j, hj, hij, b16, Or.inr ⟨h29, rfl, rfl⟩⟩
                 | (refine Or.inl ⟨j, hj, rfl, b16, Or.inl ⟨by first | exact h29 | exact Decidable.not_not.mp h29, ?_, by rw [ez]⟩⟩
                    rw [ez]
                    have g2 : gJ (swX M 166 21 22 23 (swR (fun k => gI M 173 (120 * j + k)) z)) 166 23 = (swR (fun k => gI M 173 (120 * j + k)) z).2.2 := swM_t
                    rw [g2] at h45
                    (try rw [g2] at h73)
                    (try rw [g2])
                    first
                      | (rw [if_pos ((lg_eq0 _ _).mp (Decidable.not_not.mp h45))]; done)
                      | (rw [if_neg (fun q => h45 ((lg_eq0 _ _).mpr q))]
                         unfold swY
                         first
                           | (rw [if_neg (Int64.not_lt.mpr ((lg_le0 _ _).mp h73))]; done)
                           | (rw [if_pos (Int64.not_le.mp (fun q => h73 ((lg_le0 _ _).mpr q)))]; rfl))))
      · dsimp only [Option.toList, List.cons_append, List.nil_append]
        refine xG_run 2 rfl (by repeat' (first | exact trivial | assumption | exact xob_b rfl | exact xal_b rfl | (apply And.intro) | decide)) ?_
        try dsimp only [xsto1, xsto2, xkill, xget, xset, gd_0, gd_s]
        refine xG_br rfl (fun h29 => ?_) (fun h29 => ?_)
        · first
            | (exfalso; first | exact absurd h29 (by decide) | exact hno hk4)
            | (subst hij
               refine xG_run 2 rfl (by repeat' (first | exact trivial | assumption | exact xob_b rfl | exact xal_b rfl | (apply And.intro) | decide)) ?_
               try dsimp only [xsto1, xsto2, xkill, xget, xset, gd_0, gd_s]
               refine xG_c2 1 rfl (by repeat' (first | exact trivial | assumption | exact xob_b rfl | exact xal_b rfl | (apply And.intro) | decide)) rfl rfl (by decide) cw_X12_findSwings (d' := d - 1) (e_findSwings (E := fun k => gI M 173 (120 * j + k)) hj hz2 hz1 (fun _ => rfl) (by omega)) (by omega) ?_
               rintro v M' ⟨rfl, hM⟩
               subst M'
               dsimp only [Option.toList, List.cons_append, List.nil_append]
               refine xG_run 4 rfl (by repeat' (first | exact trivial | assumption | exact xob_b rfl | exact xal_b rfl | (apply And.intro) | decide)) ?_
               try dsimp only [xsto1, xsto2, xkill, xget, xset, gd_0, gd_s]
               refine xG_br rfl (fun h45 => ?_) (fun h45 => ?_)
               · have hne : ¬ gJ (swX M 166 21 22 23 (swR (fun k => gI M 173 (120 * j + k)) z)) 166 23 = 0 := fun q => h45 ((lg_eq0 _ _).mpr q)
                 refine xG_run 8 rfl (by repeat' (first | exact trivial | assumption | exact xob_b rfl | exact xal_b rfl | (apply And.intro) | decide)) ?_
                 try dsimp only [xsto1, xsto2, xkill, xget, xset, gd_0, gd_s]
                 refine xG_run 6 rfl (by repeat' (first | exact trivial | assumption | exact xob_b rfl | exact xal_b rfl | (apply And.intro) | decide)) ?_
                 try dsimp only [xsto1, xsto2, xkill, xget, xset, gd_0, gd_s]
                 refine xG_br rfl (fun h73 => ?_) (fun h73 => ?_)
                 · refine xG_run 2 rfl (by repeat' (first | exact trivial | assumption | exact xob_b rfl | exact xal_b rfl | (apply And.intro) | decide)) ?_
                   try dsimp only [xsto1, xsto2, xkill, xget, xset, gd_0, gd_s]
                   refine r2_i rfl rfl ?_
                   first
                     | (refine Or.inr ⟨?_, rfl, rfl⟩
                        rintro ⟨a1, a2⟩
                        first
                          | exact no8 b4 a1
                          | exact b16 a2)
                     | exact absurd hk4 hno
                     | exact Or.inl ⟨j, hj, hij, b16, Or.inr ⟨h29, rfl, rfl⟩⟩
                     | (refine Or.inl ⟨j, hj, rfl, b16, Or.inl ⟨by first | exact h29 | exact Decidable.not_not.mp h29, ?_, by rw [ez]⟩⟩
                        rw [ez]
                        have g2 : gJ (swX M 166 21 22 23 (swR (fun k => gI M 173 (120 * j + k)) z)) 166 23 = (swR (fun k => gI M 173 (120 * j + k)) z).2.2 := swM_t
                        rw [g2] at h45
                        (try rw [g2] at h73)
                        (try rw [g2])
                        first
                          | (rw [if_pos ((lg_eq0 _ _).mp (Decidable.not_not.mp h45))]; done)
                          | (rw [if_neg (fun q => h45 ((lg_eq0 _ _).mpr q))]
                             unfold swY
                             first
                               | (rw [if_neg (Int64.not_lt.mpr ((lg_le0 _ _).mp h73))]; done)
                               | (rw [if_pos (Int64.not_le.mp (fun q => h73 ((lg_le0 _ _).mpr q)))]; rfl)))
                 · refine xG_run 2 rfl (by repeat' (first | exact trivial | assumption | exact xob_b rfl | exact xal_b rfl | (apply And.intro) | decide)) ?_
                   try dsimp only [xsto1, xsto2, xkill, xget, xset, gd_0, gd_s]
                   refine r2_i rfl rfl ?_
                   first
                     | (refine Or.inr ⟨?_, rfl, rfl⟩
                        rintro ⟨a1, a2⟩
                        first
                          | exact no8 b4 a1
                          | exact b16 a2)
                     | exact absurd hk4 hno
                     | exact Or.inl ⟨j, hj, hij, b16, Or.inr ⟨h29, rfl, rfl⟩⟩
                     | (refine Or.inl ⟨j, hj, rfl, b16, Or.inl ⟨by first | exact h29 | exact Decidable.not_not.mp h29, ?_, by rw [ez]⟩⟩
                        rw [ez]
                        have g2 : gJ (swX M 166 21 22 23 (swR (fun k => gI M 173 (120 * j + k)) z)) 166 23 = (swR (fun k => gI M 173 (120 * j + k)) z).2.2 := swM_t
                        rw [g2] at h45
                        (try rw [g2] at h73)
                        (try rw [g2])
                        first
                          | (rw [if_pos ((lg_eq0 _ _).mp (Decidable.not_not.mp h45))]; done)
                          | (rw [if_neg (fun q => h45 ((lg_eq0 _ _).mpr q))]
                             unfold swY
                             first
                               | (rw [if_neg (Int64.not_lt.mpr ((lg_le0 _ _).mp h73))]; done)
                               | (rw [if_pos (Int64.not_le.mp (fun q => h73 ((lg_le0 _ _).mpr q)))]; rfl)))
               · refine xG_run 1 rfl (by repeat' (first | exact trivial | assumption | exact xob_b rfl | exact xal_b rfl | (apply And.intro) | decide)) ?_
                 try dsimp only [xsto1, xsto2, xkill, xget, xset, gd_0, gd_s]
                 refine r2_i rfl rfl ?_
                 first
                   | (refine Or.inr ⟨?_, rfl, rfl⟩
                      rintro ⟨a1, a2⟩
                      first
                        | exact no8 b4 a1
                        | exact b16 a2)
                   | exact absurd hk4 hno
                   | exact Or.inl ⟨j, hj, hij, b16, Or.inr ⟨h29, rfl, rfl⟩⟩
                   | (refine Or.inl ⟨j, hj, rfl, b16, Or.inl ⟨by first | exact h29 | exact Decidable.not_not.mp h29, ?_, by rw [ez]⟩⟩
                      rw [ez]
                      have g2 : gJ (swX M 166 21 22 23 (swR (fun k => gI M 173 (120 * j + k)) z)) 166 23 = (swR (fun k => gI M 173 (120 * j + k)) z).2.2 := swM_t
                      rw [g2] at h45
                      (try rw [g2] at h73)
                      (try rw [g2])
                      first
                        | (rw [if_pos ((lg_eq0 _ _).mp (Decidable.not_not.mp h45))]; done)
                        | (rw [if_neg (fun q => h45 ((lg_eq0 _ _).mpr q))]
                           unfold swY
                           first
                             | (rw [if_neg (Int64.not_lt.mpr ((lg_le0 _ _).mp h73))]; done)
                             | (rw [if_pos (Int64.not_le.mp (fun q => h73 ((lg_le0 _ _).mpr q)))]; rfl))))
        · first
            | (exfalso; first | exact absurd h29 (by decide) | exact hno hk4)
            | (refine xG_run 1 rfl (by repeat' (first | exact trivial | assumption | exact xob_b rfl | exact xal_b rfl | (apply And.intro) | decide)) ?_
               try dsimp only [xsto1, xsto2, xkill, xget, xset, gd_0, gd_s]
               refine r2_i rfl rfl ?_
               first
                 | (refine Or.inr ⟨?_, rfl, rfl⟩
                    rintro ⟨a1, a2⟩
                    first
                      | exact no8 b4 a1
                      | exact b16 a2)
                 | exact absurd hk4 hno
                 | exact Or.inl ⟨j, hj, hij, b16, Or.inr ⟨h29, rfl, rfl⟩⟩
                 | (refine Or.inl ⟨j, hj, rfl, b16, Or.inl ⟨by first | exact h29 | exact Decidable.not_not.mp h29, ?_, by rw [ez]⟩⟩
                    rw [ez]
                    have g2 : gJ (swX M 166 21 22 23 (swR (fun k => gI M 173 (120 * j + k)) z)) 166 23 = (swR (fun k => gI M 173 (120 * j + k)) z).2.2 := swM_t
                    rw [g2] at h45
                    (try rw [g2] at h73)
                    (try rw [g2])
                    first
                      | (rw [if_pos ((lg_eq0 _ _).mp (Decidable.not_not.mp h45))]; done)
                      | (rw [if_neg (fun q => h45 ((lg_eq0 _ _).mpr q))]
                         unfold swY
                         first
                           | (rw [if_neg (Int64.not_lt.mpr ((lg_le0 _ _).mp h73))]; done)
                           | (rw [if_pos (Int64.not_le.mp (fun q => h73 ((lg_le0 _ _).mpr q)))]; rfl))))
    · have b16 := z0.mp (Decidable.not_not.mp h16)
      refine xG_run 1 rfl (by repeat' (first | exact trivial | assumption | exact xob_b rfl | exact xal_b rfl | (apply And.intro) | decide)) ?_
      try dsimp only [xsto1, xsto2, xkill, xget, xset, gd_0, gd_s]
      refine r2_i rfl rfl ?_
      first
        | (refine Or.inr ⟨?_, rfl, rfl⟩
           rintro ⟨a1, a2⟩
           first
             | exact no8 b4 a1
             | exact b16 a2)
        | exact absurd hk4 hno
        | exact Or.inl ⟨j, hj, hij, b16, Or.inr ⟨h29, rfl, rfl⟩⟩
        | (refine Or.inl ⟨j, hj, rfl, b16, Or.inl ⟨by first | exact h29 | exact Decidable.not_not.mp h29, ?_, by rw [ez]⟩⟩
           rw [ez]
           have g2 : gJ (swX M 166 21 22 23 (swR (fun k => gI M 173 (120 * j + k)) z)) 166 23 = (swR (fun k => gI M 173 (120 * j + k)) z).2.2 := swM_t
           rw [g2] at h45
           (try rw [g2] at h73)
           (try rw [g2])
           first
             | (rw [if_pos ((lg_eq0 _ _).mp (Decidable.not_not.mp h45))]; done)
             | (rw [if_neg (fun q => h45 ((lg_eq0 _ _).mpr q))]
                unfold swY
                first
                  | (rw [if_neg (Int64.not_lt.mpr ((lg_le0 _ _).mp h73))]; done)
                  | (rw [if_pos (Int64.not_le.mp (fun q => h73 ((lg_le0 _ _).mpr q)))]; rfl)))
