/-! ===== count and tone ===== -/
def cNa (M : xM) (np : Nat) (x : Int32) (j : Nat) : Int64 := (gI M (6 + j) 5 + (if j + 1 < np then gI M (6 + (j + 1)) 5 else 0) - x * cW M (6 + j) / 100).toInt64
def cQ (M : xM) (np : Nat) (x : Int32) : Nat → Int64
  | 0 => 0
  | j + 1 => 1000 * cNa M np x j - (if j = 0 then 0 else 1000000 * (gI M (6 + j) 5).toInt64 * (gI M (6 + j) 5).toInt64) / (if cQ M np x j = 0 then 1 else cQ M np x j)
def cCn (M : xM) (np : Nat) (x : Int32) : Nat → Int32
  | 0 => 0
  | j + 1 => if cQ M np x (j + 1) < 0 then cCn M np x j + 1 else cCn M np x j
def rNa (M : xM) (np : Nat) (x : Int32) (j : Nat) : Int64 := (rs M j 4).toInt64 + (if j + 1 < np then rs M (j + 1) 4 else 0).toInt64 - (x * rW M j / 100).toInt64
def rQ (M : xM) (np : Nat) (x : Int32) : Nat → Int64
  | 0 => 0
  | j + 1 => 1000 * rNa M np x j - (if j = 0 then 0 else 1000000 * (rs M j 4).toInt64 * (rs M j 4).toInt64 / (if rQ M np x j = 0 then 1 else rQ M np x j))
def rCn (M : xM) (np : Nat) (x : Int32) : Nat → Int32
  | 0 => 0
  | j + 1 => if rQ M np x (j + 1) < 0 then rCn M np x j + 1 else rCn M np x j
theorem gd_0 {α : Type} (a : α) (l : List α) (d : α) : (a :: l).getD 0 d = a := rfl
theorem gd_s {α : Type} (a : α) (l : List α) (i : Nat) (d : α) : (a :: l).getD (i + 1) d = l.getD i d := rfl
theorem nI_z {j : Nat} (hj : j < 2147483648) : nI j = 0 ↔ j = 0 := nI_eq (a := j) (b := 0) hj (by omega)
set_option maxRecDepth 4000 in
theorem e_signsBelow {κ : xKK} {d : Nat} {M : xM} {np : Nat} (hn : gI M 1 1 = nI np) (hn2 : np ≤ 10) {x : Int32} (hd : 1 ≤ d) : xE2 κ mX1_signsBelow d [.ref 1, .int x] M (fun v M' => v = some (.int (cCn M np x np)) ∧ M' = M) := by
  refine xE2_of ci_X1_signsBelow cl_X1_signsBelow cw_X1_signsBelow rfl (L := [some (.ref 1), some (.int x), none, none, none, none, none, none, none, none, none, none]) rfl ?_
  refine xG_run 6 rfl (by repeat' (first | exact trivial | assumption | exact xob_b rfl | exact xal_b rfl | (apply And.intro) | decide)) ?_
  have lp := xG_upP (κ := κ) (m := mX1_signsBelow) (r := (d, 0, 0)) (YS := xRet mX1_signsBelow false (fun v M' n' => n' = 182 ∧ (v = some (.int (cCn M np x np)) ∧ M' = M))) (fun j X => ∃ y6 y7 y8 y9 y10 y11 : Option Value, X = (7, [some (.ref 1), some (.int x), some (.int (cCn M np x j)), some (.long (cQ M np x j)), none, some (.int (nI j)), y6, y7, y8, y9, y10, y11], [], M, z2)) np ?_ ?_ 0 (by omega)
  · exact lp _ ⟨_, _, _, _, _, _, rfl⟩
  · rintro j X hj ⟨y6, y7, y8, y9, y10, y11, rfl⟩ ih
    have hj0 : j < np := hj
    have hj1 : (nI j).toNatClampNeg = j := nI_cl (by omega)
    have hj2 : (nI j + 1).toNatClampNeg = j + 1 := by rw [nI_1]; exact nI_cl (by omega)
    have hx : xob (6 + (nI j).toNatClampNeg) 3 182 := by rw [hj1]; exact xob_p1 (by omega)
    have hq : xqr 2 182 (nI j) := xqr_n rfl 10 rfl (by omega) (by omega)
    refine xG_run 3 rfl (by repeat' (first | exact trivial | assumption | exact xob_b rfl | exact xal_b rfl | (apply And.intro) | decide | exact fun z => h115 ((lg_eq0 _ _).mpr z))) ?_
    try dsimp only [xsto1, xsto2, xkill, xget, xset, gd_0, gd_s]
    refine xG_brF rfl (by rw [hn]; exact nI_ge hj (by omega)) ?_
    refine xG_run 6 rfl (by repeat' (first | exact trivial | assumption | exact xob_b rfl | exact xal_b rfl | (apply And.intro) | decide | exact fun z => h115 ((lg_eq0 _ _).mpr z))) ?_
    try dsimp only [xsto1, xsto2, xkill, xget, xset, gd_0, gd_s]
    refine xG_run 4 rfl (by repeat' (first | exact trivial | assumption | exact xob_b rfl | exact xal_b rfl | (apply And.intro) | decide | exact fun z => h115 ((lg_eq0 _ _).mpr z))) ?_
    try dsimp only [xsto1, xsto2, xkill, xget, xset, gd_0, gd_s]
    refine xG_br rfl (fun h33 => ?_) (fun h33 => ?_)
    · have c33 : ¬ j + 1 < np := by
        rw [hn, nI_1] at h33
        exact Nat.not_lt.mpr ((nI_leI (by omega) (by omega)).mp h33)
      refine xG_run 6 rfl (by repeat' (first | exact trivial | assumption | exact xob_b rfl | exact xal_b rfl | (apply And.intro) | decide | exact fun z => h115 ((lg_eq0 _ _).mpr z))) ?_
      try dsimp only [xsto1, xsto2, xkill, xget, xset, gd_0, gd_s]
      refine xG_run 2 rfl (by repeat' (first | exact trivial | assumption | exact xob_b rfl | exact xal_b rfl | (apply And.intro) | decide | exact fun z => h115 ((lg_eq0 _ _).mpr z))) ?_
      try dsimp only [xsto1, xsto2, xkill, xget, xset, gd_0, gd_s]
      refine xG_c2 0 rfl (by repeat' (first | exact trivial | assumption | exact xob_b rfl | exact xal_b rfl | (apply And.intro) | decide | exact fun z => h115 ((lg_eq0 _ _).mpr z))) rfl rfl (by decide) cw_X3_weight (d' := d - 1) (e_weight hx) (by omega) ?_
      rintro v M' ⟨rfl, hM⟩
      subst M'
      dsimp only [Option.toList, List.cons_append, List.nil_append]
      refine xG_run 6 rfl (by repeat' (first | exact trivial | assumption | exact xob_b rfl | exact xal_b rfl | (apply And.intro) | decide | exact fun z => h115 ((lg_eq0 _ _).mpr z))) ?_
      try dsimp only [xsto1, xsto2, xkill, xget, xset, gd_0, gd_s]
      refine xG_run 1 rfl (by repeat' (first | exact trivial | assumption | exact xob_b rfl | exact xal_b rfl | (apply And.intro) | decide | exact fun z => h115 ((lg_eq0 _ _).mpr z))) ?_
      try dsimp only [xsto1, xsto2, xkill, xget, xset, gd_0, gd_s]
      refine xG_br rfl (fun h78 => ?_) (fun h78 => ?_)
      · have c78 : ¬ j = 0 := fun q => h78 ((nI_z (by omega)).mpr q)
        refine xG_run 6 rfl (by repeat' (first | exact trivial | assumption | exact xob_b rfl | exact xal_b rfl | (apply And.intro) | decide | exact fun z => h115 ((lg_eq0 _ _).mpr z))) ?_
        try dsimp only [xsto1, xsto2, xkill, xget, xset, gd_0, gd_s]
        refine xG_run 6 rfl (by repeat' (first | exact trivial | assumption | exact xob_b rfl | exact xal_b rfl | (apply And.intro) | decide | exact fun z => h115 ((lg_eq0 _ _).mpr z))) ?_
        try dsimp only [xsto1, xsto2, xkill, xget, xset, gd_0, gd_s]
        refine xG_run 5 rfl (by repeat' (first | exact trivial | assumption | exact xob_b rfl | exact xal_b rfl | (apply And.intro) | decide | exact fun z => h115 ((lg_eq0 _ _).mpr z))) ?_
        try dsimp only [xsto1, xsto2, xkill, xget, xset, gd_0, gd_s]
        refine xG_br rfl (fun h115 => ?_) (fun h115 => ?_)
        · have c115 : ¬ cQ M np x j = 0 := fun z => h115 ((lg_eq0 _ _).mpr z)
          refine xG_run 6 rfl (by repeat' (first | exact trivial | assumption | exact xob_b rfl | exact xal_b rfl | (apply And.intro) | decide | exact fun z => h115 ((lg_eq0 _ _).mpr z))) ?_
          try dsimp only [xsto1, xsto2, xkill, xget, xset, gd_0, gd_s]
          refine xG_run 1 rfl (by repeat' (first | exact trivial | assumption | exact xob_b rfl | exact xal_b rfl | (apply And.intro) | decide | exact fun z => h115 ((lg_eq0 _ _).mpr z))) ?_
          try dsimp only [xsto1, xsto2, xkill, xget, xset, gd_0, gd_s]
          refine xG_br rfl (fun h129 => ?_) (fun h129 => ?_)
          · refine xG_run 2 rfl (by repeat' (first | exact trivial | assumption | exact xob_b rfl | exact xal_b rfl | (apply And.intro) | decide | exact fun z => h115 ((lg_eq0 _ _).mpr z))) ?_
            try dsimp only [xsto1, xsto2, xkill, xget, xset, gd_0, gd_s]
            simp only [hj1, hj2] at h129 ⊢
            have k1 : cQ M np x (j + 1) = 1000 * cNa M np x j - (if j = 0 then 0 else 1000000 * (gI M (6 + j) 5).toInt64 * (gI M (6 + j) 5).toInt64) / (if cQ M np x j = 0 then 1 else cQ M np x j) := rfl
            rw [cNa] at k1
            first | rw [if_pos c33] at k1 | rw [if_neg c33] at k1
            first | rw [if_pos c78] at k1 | rw [if_neg c78] at k1
            first | rw [if_pos c115] at k1 | rw [if_neg c115] at k1
            have k2 : cCn M np x (j + 1) = if cQ M np x (j + 1) < 0 then cCn M np x j + 1 else cCn M np x j := rfl
            rw [k1] at k2
            first
              | rw [if_pos ((lg_lt0 _ _).mp (Int32.not_le.mp h129))] at k2
              | rw [if_neg (Int64.not_lt.mpr ((lg_ge0 _ _).mp h129))] at k2
            exact ih _ ⟨_, _, _, _, _, _, by first | (rw [k1, k2, nI_1]; done) | (rw [k1, k2, nI_1]; rfl)⟩
          · refine xG_run 3 rfl (by repeat' (first | exact trivial | assumption | exact xob_b rfl | exact xal_b rfl | (apply And.intro) | decide | exact fun z => h115 ((lg_eq0 _ _).mpr z))) ?_
            try dsimp only [xsto1, xsto2, xkill, xget, xset, gd_0, gd_s]
            simp only [hj1, hj2] at h129 ⊢
            have k1 : cQ M np x (j + 1) = 1000 * cNa M np x j - (if j = 0 then 0 else 1000000 * (gI M (6 + j) 5).toInt64 * (gI M (6 + j) 5).toInt64) / (if cQ M np x j = 0 then 1 else cQ M np x j) := rfl
            rw [cNa] at k1
            first | rw [if_pos c33] at k1 | rw [if_neg c33] at k1
            first | rw [if_pos c78] at k1 | rw [if_neg c78] at k1
            first | rw [if_pos c115] at k1 | rw [if_neg c115] at k1
            have k2 : cCn M np x (j + 1) = if cQ M np x (j + 1) < 0 then cCn M np x j + 1 else cCn M np x j := rfl
            rw [k1] at k2
            first
              | rw [if_pos ((lg_lt0 _ _).mp (Int32.not_le.mp h129))] at k2
              | rw [if_neg (Int64.not_lt.mpr ((lg_ge0 _ _).mp h129))] at k2
            exact ih _ ⟨_, _, _, _, _, _, by first | (rw [k1, k2, nI_1]; done) | (rw [k1, k2, nI_1]; rfl)⟩
        · have c115 : cQ M np x j = 0 := (lg_eq0 _ _).mp (Decidable.not_not.mp h115)
          refine xG_run 6 rfl (by repeat' (first | exact trivial | assumption | exact xob_b rfl | exact xal_b rfl | (apply And.intro) | decide | exact fun z => h115 ((lg_eq0 _ _).mpr z))) ?_
          try dsimp only [xsto1, xsto2, xkill, xget, xset, gd_0, gd_s]
          refine xG_run 2 rfl (by repeat' (first | exact trivial | assumption | exact xob_b rfl | exact xal_b rfl | (apply And.intro) | decide | exact fun z => h115 ((lg_eq0 _ _).mpr z))) ?_
          try dsimp only [xsto1, xsto2, xkill, xget, xset, gd_0, gd_s]
          refine xG_br rfl (fun h129 => ?_) (fun h129 => ?_)
          · refine xG_run 2 rfl (by repeat' (first | exact trivial | assumption | exact xob_b rfl | exact xal_b rfl | (apply And.intro) | decide | exact fun z => h115 ((lg_eq0 _ _).mpr z))) ?_
            try dsimp only [xsto1, xsto2, xkill, xget, xset, gd_0, gd_s]
            simp only [hj1, hj2] at h129 ⊢
            have k1 : cQ M np x (j + 1) = 1000 * cNa M np x j - (if j = 0 then 0 else 1000000 * (gI M (6 + j) 5).toInt64 * (gI M (6 + j) 5).toInt64) / (if cQ M np x j = 0 then 1 else cQ M np x j) := rfl
            rw [cNa] at k1
            first | rw [if_pos c33] at k1 | rw [if_neg c33] at k1
            first | rw [if_pos c78] at k1 | rw [if_neg c78] at k1
            first | rw [if_pos c115] at k1 | rw [if_neg c115] at k1
            have k2 : cCn M np x (j + 1) = if cQ M np x (j + 1) < 0 then cCn M np x j + 1 else cCn M np x j := rfl
            rw [k1] at k2
            first
              | rw [if_pos ((lg_lt0 _ _).mp (Int32.not_le.mp h129))] at k2
              | rw [if_neg (Int64.not_lt.mpr ((lg_ge0 _ _).mp h129))] at k2
            exact ih _ ⟨_, _, _, _, _, _, by first | (rw [k1, k2, nI_1]; done) | (rw [k1, k2, nI_1]; rfl)⟩
          · refine xG_run 3 rfl (by repeat' (first | exact trivial | assumption | exact xob_b rfl | exact xal_b rfl | (apply And.intro) | decide | exact fun z => h115 ((lg_eq0 _ _).mpr z))) ?_
            try dsimp only [xsto1, xsto2, xkill, xget, xset, gd_0, gd_s]
            simp only [hj1, hj2] at h129 ⊢
            have k1 : cQ M np x (j + 1) = 1000 * cNa M np x j - (if j = 0 then 0 else 1000000 * (gI M (6 + j) 5).toInt64 * (gI M (6 + j) 5).toInt64) / (if cQ M np x j = 0 then 1 else cQ M np x j) := rfl
            rw [cNa] at k1
            first | rw [if_pos c33] at k1 | rw [if_neg c33] at k1
            first | rw [if_pos c78] at k1 | rw [if_neg c78] at k1
            first | rw [if_pos c115] at k1 | rw [if_neg c115] at k1
            have k2 : cCn M np x (j + 1) = if cQ M np x (j + 1) < 0 then cCn M np x j + 1 else cCn M np x j := rfl
            rw [k1] at k2
            first
              | rw [if_pos ((lg_lt0 _ _).mp (Int32.not_le.mp h129))] at k2
              | rw [if_neg (Int64.not_lt.mpr ((lg_ge0 _ _).mp h129))] at k2
            exact ih _ ⟨_, _, _, _, _, _, by first | (rw [k1, k2, nI_1]; done) | (rw [k1, k2, nI_1]; rfl)⟩
      · have c78 : j = 0 := (nI_z (by omega)).mp (Decidable.not_not.mp h78)
        refine xG_run 6 rfl (by repeat' (first | exact trivial | assumption | exact xob_b rfl | exact xal_b rfl | (apply And.intro) | decide | exact fun z => h115 ((lg_eq0 _ _).mpr z))) ?_
        try dsimp only [xsto1, xsto2, xkill, xget, xset, gd_0, gd_s]
        refine xG_run 4 rfl (by repeat' (first | exact trivial | assumption | exact xob_b rfl | exact xal_b rfl | (apply And.intro) | decide | exact fun z => h115 ((lg_eq0 _ _).mpr z))) ?_
        try dsimp only [xsto1, xsto2, xkill, xget, xset, gd_0, gd_s]
        refine xG_br rfl (fun h115 => ?_) (fun h115 => ?_)
        · have c115 : ¬ cQ M np x j = 0 := fun z => h115 ((lg_eq0 _ _).mpr z)
          refine xG_run 6 rfl (by repeat' (first | exact trivial | assumption | exact xob_b rfl | exact xal_b rfl | (apply And.intro) | decide | exact fun z => h115 ((lg_eq0 _ _).mpr z))) ?_
          try dsimp only [xsto1, xsto2, xkill, xget, xset, gd_0, gd_s]
          refine xG_run 1 rfl (by repeat' (first | exact trivial | assumption | exact xob_b rfl | exact xal_b rfl | (apply And.intro) | decide | exact fun z => h115 ((lg_eq0 _ _).mpr z))) ?_
          try dsimp only [xsto1, xsto2, xkill, xget, xset, gd_0, gd_s]
          refine xG_br rfl (fun h129 => ?_) (fun h129 => ?_)
          · refine xG_run 2 rfl (by repeat' (first | exact trivial | assumption | exact xob_b rfl | exact xal_b rfl | (apply And.intro) | decide | exact fun z => h115 ((lg_eq0 _ _).mpr z))) ?_
            try dsimp only [xsto1, xsto2, xkill, xget, xset, gd_0, gd_s]
            simp only [hj1, hj2] at h129 ⊢
            have k1 : cQ M np x (j + 1) = 1000 * cNa M np x j - (if j = 0 then 0 else 1000000 * (gI M (6 + j) 5).toInt64 * (gI M (6 + j) 5).toInt64) / (if cQ M np x j = 0 then 1 else cQ M np x j) := rfl
            rw [cNa] at k1
            first | rw [if_pos c33] at k1 | rw [if_neg c33] at k1
            first | rw [if_pos c78] at k1 | rw [if_neg c78] at k1
            first | rw [if_pos c115] at k1 | rw [if_neg c115] at k1
            have k2 : cCn M np x (j + 1) = if cQ M np x (j + 1) < 0 then cCn M np x j + 1 else cCn M np x j := rfl
            rw [k1] at k2
            first
              | rw [if_pos ((lg_lt0 _ _).mp (Int32.not_le.mp h129))] at k2
              | rw [if_neg (Int64.not_lt.mpr ((lg_ge0 _ _).mp h129))] at k2
            exact ih _ ⟨_, _, _, _, _, _, by first | (rw [k1, k2, nI_1]; done) | (rw [k1, k2, nI_1]; rfl)⟩
          · refine xG_run 3 rfl (by repeat' (first | exact trivial | assumption | exact xob_b rfl | exact xal_b rfl | (apply And.intro) | decide | exact fun z => h115 ((lg_eq0 _ _).mpr z))) ?_
            try dsimp only [xsto1, xsto2, xkill, xget, xset, gd_0, gd_s]
            simp only [hj1, hj2] at h129 ⊢
            have k1 : cQ M np x (j + 1) = 1000 * cNa M np x j - (if j = 0 then 0 else 1000000 * (gI M (6 + j) 5).toInt64 * (gI M (6 + j) 5).toInt64) / (if cQ M np x j = 0 then 1 else cQ M np x j) := rfl
            rw [cNa] at k1
            first | rw [if_pos c33] at k1 | rw [if_neg c33] at k1
            first | rw [if_pos c78] at k1 | rw [if_neg c78] at k1
            first | rw [if_pos c115] at k1 | rw [if_neg c115] at k1
            have k2 : cCn M np x (j + 1) = if cQ M np x (j + 1) < 0 then cCn M np x j + 1 else cCn M np x j := rfl
            rw [k1] at k2
            first
              | rw [if_pos ((lg_lt0 _ _).mp (Int32.not_le.mp h129))] at k2
              | rw [if_neg (Int64.not_lt.mpr ((lg_ge0 _ _).mp h129))] at k2
            exact ih _ ⟨_, _, _, _, _, _, by first | (rw [k1, k2, nI_1]; done) | (rw [k1, k2, nI_1]; rfl)⟩
        · have c115 : cQ M np x j = 0 := (lg_eq0 _ _).mp (Decidable.not_not.mp h115)
          refine xG_run 6 rfl (by repeat' (first | exact trivial | assumption | exact xob_b rfl | exact xal_b rfl | (apply And.intro) | decide | exact fun z => h115 ((lg_eq0 _ _).mpr z))) ?_
          try dsimp only [xsto1, xsto2, xkill, xget, xset, gd_0, gd_s]
          refine xG_run 2 rfl (by repeat' (first | exact trivial | assumption | exact xob_b rfl | exact xal_b rfl | (apply And.intro) | decide | exact fun z => h115 ((lg_eq0 _ _).mpr z))) ?_
          try dsimp only [xsto1, xsto2, xkill, xget, xset, gd_0, gd_s]
          refine xG_br rfl (fun h129 => ?_) (fun h129 => ?_)
          · refine xG_run 2 rfl (by repeat' (first | exact trivial | assumption | exact xob_b rfl | exact xal_b rfl | (apply And.intro) | decide | exact fun z => h115 ((lg_eq0 _ _).mpr z))) ?_
            try dsimp only [xsto1, xsto2, xkill, xget, xset, gd_0, gd_s]
            simp only [hj1, hj2] at h129 ⊢
            have k1 : cQ M np x (j + 1) = 1000 * cNa M np x j - (if j = 0 then 0 else 1000000 * (gI M (6 + j) 5).toInt64 * (gI M (6 + j) 5).toInt64) / (if cQ M np x j = 0 then 1 else cQ M np x j) := rfl
            rw [cNa] at k1
            first | rw [if_pos c33] at k1 | rw [if_neg c33] at k1
            first | rw [if_pos c78] at k1 | rw [if_neg c78] at k1
            first | rw [if_pos c115] at k1 | rw [if_neg c115] at k1
            have k2 : cCn M np x (j + 1) = if cQ M np x (j + 1) < 0 then cCn M np x j + 1 else cCn M np x j := rfl
            rw [k1] at k2
            first
              | rw [if_pos ((lg_lt0 _ _).mp (Int32.not_le.mp h129))] at k2
              | rw [if_neg (Int64.not_lt.mpr ((lg_ge0 _ _).mp h129))] at k2
            exact ih _ ⟨_, _, _, _, _, _, by first | (rw [k1, k2, nI_1]; done) | (rw [k1, k2, nI_1]; rfl)⟩
          · refine xG_run 3 rfl (by repeat' (first | exact trivial | assumption | exact xob_b rfl | exact xal_b rfl | (apply And.intro) | decide | exact fun z => h115 ((lg_eq0 _ _).mpr z))) ?_
            try dsimp only [xsto1, xsto2, xkill, xget, xset, gd_0, gd_s]
            simp only [hj1, hj2] at h129 ⊢
            have k1 : cQ M np x (j + 1) = 1000 * cNa M np x j - (if j = 0 then 0 else 1000000 * (gI M (6 + j) 5).toInt64 * (gI M (6 + j) 5).toInt64) / (if cQ M np x j = 0 then 1 else cQ M np x j) := rfl
            rw [cNa] at k1
            first | rw [if_pos c33] at k1 | rw [if_neg c33] at k1
            first | rw [if_pos c78] at k1 | rw [if_neg c78] at k1
            first | rw [if_pos c115] at k1 | rw [if_neg c115] at k1
            have k2 : cCn M np x (j + 1) = if cQ M np x (j + 1) < 0 then cCn M np x j + 1 else cCn M np x j := rfl
            rw [k1] at k2
            first
              | rw [if_pos ((lg_lt0 _ _).mp (Int32.not_le.mp h129))] at k2
              | rw [if_neg (Int64.not_lt.mpr ((lg_ge0 _ _).mp h129))] at k2
            exact ih _ ⟨_, _, _, _, _, _, by first | (rw [k1, k2, nI_1]; done) | (rw [k1, k2, nI_1]; rfl)⟩
    · have c33 : j + 1 < np := by
        rw [hn, nI_1] at h33
        exact Nat.not_le.mp (fun q => h33 ((nI_leI (by omega) (by omega)).mpr q))
      have hx2 : xob (6 + (nI j + 1).toNatClampNeg) 3 182 := by rw [hj2]; exact xob_p1 (by omega)
      have hq2 : xqr 2 182 (nI j + 1) := by rw [nI_1]; exact xqr_n rfl 10 rfl (by omega) (by omega)
      refine xG_run 6 rfl (by repeat' (first | exact trivial | assumption | exact xob_b rfl | exact xal_b rfl | (apply And.intro) | decide | exact fun z => h115 ((lg_eq0 _ _).mpr z))) ?_
      try dsimp only [xsto1, xsto2, xkill, xget, xset, gd_0, gd_s]
      refine xG_run 6 rfl (by repeat' (first | exact trivial | assumption | exact xob_b rfl | exact xal_b rfl | (apply And.intro) | decide | exact fun z => h115 ((lg_eq0 _ _).mpr z))) ?_
      try dsimp only [xsto1, xsto2, xkill, xget, xset, gd_0, gd_s]
      refine xG_run 3 rfl (by repeat' (first | exact trivial | assumption | exact xob_b rfl | exact xal_b rfl | (apply And.intro) | decide | exact fun z => h115 ((lg_eq0 _ _).mpr z))) ?_
      try dsimp only [xsto1, xsto2, xkill, xget, xset, gd_0, gd_s]
      refine xG_c2 0 rfl (by repeat' (first | exact trivial | assumption | exact xob_b rfl | exact xal_b rfl | (apply And.intro) | decide | exact fun z => h115 ((lg_eq0 _ _).mpr z))) rfl rfl (by decide) cw_X3_weight (d' := d - 1) (e_weight hx) (by omega) ?_
      rintro v M' ⟨rfl, hM⟩
      subst M'
      dsimp only [Option.toList, List.cons_append, List.nil_append]
      refine xG_run 6 rfl (by repeat' (first | exact trivial | assumption | exact xob_b rfl | exact xal_b rfl | (apply And.intro) | decide | exact fun z => h115 ((lg_eq0 _ _).mpr z))) ?_
      try dsimp only [xsto1, xsto2, xkill, xget, xset, gd_0, gd_s]
      refine xG_run 1 rfl (by repeat' (first | exact trivial | assumption | exact xob_b rfl | exact xal_b rfl | (apply And.intro) | decide | exact fun z => h115 ((lg_eq0 _ _).mpr z))) ?_
      try dsimp only [xsto1, xsto2, xkill, xget, xset, gd_0, gd_s]
      refine xG_br rfl (fun h78 => ?_) (fun h78 => ?_)
      · have c78 : ¬ j = 0 := fun q => h78 ((nI_z (by omega)).mpr q)
        refine xG_run 6 rfl (by repeat' (first | exact trivial | assumption | exact xob_b rfl | exact xal_b rfl | (apply And.intro) | decide | exact fun z => h115 ((lg_eq0 _ _).mpr z))) ?_
        try dsimp only [xsto1, xsto2, xkill, xget, xset, gd_0, gd_s]
        refine xG_run 6 rfl (by repeat' (first | exact trivial | assumption | exact xob_b rfl | exact xal_b rfl | (apply And.intro) | decide | exact fun z => h115 ((lg_eq0 _ _).mpr z))) ?_
        try dsimp only [xsto1, xsto2, xkill, xget, xset, gd_0, gd_s]
        refine xG_run 5 rfl (by repeat' (first | exact trivial | assumption | exact xob_b rfl | exact xal_b rfl | (apply And.intro) | decide | exact fun z => h115 ((lg_eq0 _ _).mpr z))) ?_
        try dsimp only [xsto1, xsto2, xkill, xget, xset, gd_0, gd_s]
        refine xG_br rfl (fun h115 => ?_) (fun h115 => ?_)
        · have c115 : ¬ cQ M np x j = 0 := fun z => h115 ((lg_eq0 _ _).mpr z)
          refine xG_run 6 rfl (by repeat' (first | exact trivial | assumption | exact xob_b rfl | exact xal_b rfl | (apply And.intro) | decide | exact fun z => h115 ((lg_eq0 _ _).mpr z))) ?_
          try dsimp only [xsto1, xsto2, xkill, xget, xset, gd_0, gd_s]
          refine xG_run 1 rfl (by repeat' (first | exact trivial | assumption | exact xob_b rfl | exact xal_b rfl | (apply And.intro) | decide | exact fun z => h115 ((lg_eq0 _ _).mpr z))) ?_
          try dsimp only [xsto1, xsto2, xkill, xget, xset, gd_0, gd_s]
          refine xG_br rfl (fun h129 => ?_) (fun h129 => ?_)
          · refine xG_run 2 rfl (by repeat' (first | exact trivial | assumption | exact xob_b rfl | exact xal_b rfl | (apply And.intro) | decide | exact fun z => h115 ((lg_eq0 _ _).mpr z))) ?_
            try dsimp only [xsto1, xsto2, xkill, xget, xset, gd_0, gd_s]
            simp only [hj1, hj2] at h129 ⊢
            have k1 : cQ M np x (j + 1) = 1000 * cNa M np x j - (if j = 0 then 0 else 1000000 * (gI M (6 + j) 5).toInt64 * (gI M (6 + j) 5).toInt64) / (if cQ M np x j = 0 then 1 else cQ M np x j) := rfl
            rw [cNa] at k1
            first | rw [if_pos c33] at k1 | rw [if_neg c33] at k1
            first | rw [if_pos c78] at k1 | rw [if_neg c78] at k1
            first | rw [if_pos c115] at k1 | rw [if_neg c115] at k1
            have k2 : cCn M np x (j + 1) = if cQ M np x (j + 1) < 0 then cCn M np x j + 1 else cCn M np x j := rfl
            rw [k1] at k2
            first
              | rw [if_pos ((lg_lt0 _ _).mp (Int32.not_le.mp h129))] at k2
              | rw [if_neg (Int64.not_lt.mpr ((lg_ge0 _ _).mp h129))] at k2
            exact ih _ ⟨_, _, _, _, _, _, by first | (rw [k1, k2, nI_1]; done) | (rw [k1, k2, nI_1]; rfl)⟩
          · refine xG_run 3 rfl (by repeat' (first | exact trivial | assumption | exact xob_b rfl | exact xal_b rfl | (apply And.intro) | decide | exact fun z => h115 ((lg_eq0 _ _).mpr z))) ?_
            try dsimp only [xsto1, xsto2, xkill, xget, xset, gd_0, gd_s]
            simp only [hj1, hj2] at h129 ⊢
            have k1 : cQ M np x (j + 1) = 1000 * cNa M np x j - (if j = 0 then 0 else 1000000 * (gI M (6 + j) 5).toInt64 * (gI M (6 + j) 5).toInt64) / (if cQ M np x j = 0 then 1 else cQ M np x j) := rfl
            rw [cNa] at k1
            first | rw [if_pos c33] at k1 | rw [if_neg c33] at k1
            first | rw [if_pos c78] at k1 | rw [if_neg c78] at k1
            first | rw [if_pos c115] at k1 | rw [if_neg c115] at k1
            have k2 : cCn M np x (j + 1) = if cQ M np x (j + 1) < 0 then cCn M np x j + 1 else cCn M np x j := rfl
            rw [k1] at k2
            first
              | rw [if_pos ((lg_lt0 _ _).mp (Int32.not_le.mp h129))] at k2
              | rw [if_neg (Int64.not_lt.mpr ((lg_ge0 _ _).mp h129))] at k2
            exact ih _ ⟨_, _, _, _, _, _, by first | (rw [k1, k2, nI_1]; done) | (rw [k1, k2, nI_1]; rfl)⟩
        · have c115 : cQ M np x j = 0 := (lg_eq0 _ _).mp (Decidable.not_not.mp h115)
          refine xG_run 6 rfl (by repeat' (first | exact trivial | assumption | exact xob_b rfl | exact xal_b rfl | (apply And.intro) | decide | exact fun z => h115 ((lg_eq0 _ _).mpr z))) ?_
          try dsimp only [xsto1, xsto2, xkill, xget, xset, gd_0, gd_s]
          refine xG_run 2 rfl (by repeat' (first | exact trivial | assumption | exact xob_b rfl | exact xal_b rfl | (apply And.intro) | decide | exact fun z => h115 ((lg_eq0 _ _).mpr z))) ?_
          try dsimp only [xsto1, xsto2, xkill, xget, xset, gd_0, gd_s]
          refine xG_br rfl (fun h129 => ?_) (fun h129 => ?_)
          · refine xG_run 2 rfl (by repeat' (first | exact trivial | assumption | exact xob_b rfl | exact xal_b rfl | (apply And.intro) | decide | exact fun z => h115 ((lg_eq0 _ _).mpr z))) ?_
            try dsimp only [xsto1, xsto2, xkill, xget, xset, gd_0, gd_s]
            simp only [hj1, hj2] at h129 ⊢
            have k1 : cQ M np x (j + 1) = 1000 * cNa M np x j - (if j = 0 then 0 else 1000000 * (gI M (6 + j) 5).toInt64 * (gI M (6 + j) 5).toInt64) / (if cQ M np x j = 0 then 1 else cQ M np x j) := rfl
            rw [cNa] at k1
            first | rw [if_pos c33] at k1 | rw [if_neg c33] at k1
            first | rw [if_pos c78] at k1 | rw [if_neg c78] at k1
            first | rw [if_pos c115] at k1 | rw [if_neg c115] at k1
            have k2 : cCn M np x (j + 1) = if cQ M np x (j + 1) < 0 then cCn M np x j + 1 else cCn M np x j := rfl
            rw [k1] at k2
            first
              | rw [if_pos ((lg_lt0 _ _).mp (Int32.not_le.mp h129))] at k2
              | rw [if_neg (Int64.not_lt.mpr ((lg_ge0 _ _).mp h129))] at k2
            exact ih _ ⟨_, _, _, _, _, _, by first | (rw [k1, k2, nI_1]; done) | (rw [k1, k2, nI_1]; rfl)⟩
          · refine xG_run 3 rfl (by repeat' (first | exact trivial | assumption | exact xob_b rfl | exact xal_b rfl | (apply And.intro) | decide | exact fun z => h115 ((lg_eq0 _ _).mpr z))) ?_
            try dsimp only [xsto1, xsto2, xkill, xget, xset, gd_0, gd_s]
            simp only [hj1, hj2] at h129 ⊢
            have k1 : cQ M np x (j + 1) = 1000 * cNa M np x j - (if j = 0 then 0 else 1000000 * (gI M (6 + j) 5).toInt64 * (gI M (6 + j) 5).toInt64) / (if cQ M np x j = 0 then 1 else cQ M np x j) := rfl
            rw [cNa] at k1
            first | rw [if_pos c33] at k1 | rw [if_neg c33] at k1
            first | rw [if_pos c78] at k1 | rw [if_neg c78] at k1
            first | rw [if_pos c115] at k1 | rw [if_neg c115] at k1
            have k2 : cCn M np x (j + 1) = if cQ M np x (j + 1) < 0 then cCn M np x j + 1 else cCn M np x j := rfl
            rw [k1] at k2
            first
              | rw [if_pos ((lg_lt0 _ _).mp (Int32.not_le.mp h129))] at k2
              | rw [if_neg (Int64.not_lt.mpr ((lg_ge0 _ _).mp h129))] at k2
            exact ih _ ⟨_, _, _, _, _, _, by first | (rw [k1, k2, nI_1]; done) | (rw [k1, k2, nI_1]; rfl)⟩
      · have c78 : j = 0 := (nI_z (by omega)).mp (Decidable.not_not.mp h78)
        refine xG_run 6 rfl (by repeat' (first | exact trivial | assumption | exact xob_b rfl | exact xal_b rfl | (apply And.intro) | decide | exact fun z => h115 ((lg_eq0 _ _).mpr z))) ?_
        try dsimp only [xsto1, xsto2, xkill, xget, xset, gd_0, gd_s]
        refine xG_run 4 rfl (by repeat' (first | exact trivial | assumption | exact xob_b rfl | exact xal_b rfl | (apply And.intro) | decide | exact fun z => h115 ((lg_eq0 _ _).mpr z))) ?_
        try dsimp only [xsto1, xsto2, xkill, xget, xset, gd_0, gd_s]
        refine xG_br rfl (fun h115 => ?_) (fun h115 => ?_)
        · have c115 : ¬ cQ M np x j = 0 := fun z => h115 ((lg_eq0 _ _).mpr z)
          refine xG_run 6 rfl (by repeat' (first | exact trivial | assumption | exact xob_b rfl | exact xal_b rfl | (apply And.intro) | decide | exact fun z => h115 ((lg_eq0 _ _).mpr z))) ?_
          try dsimp only [xsto1, xsto2, xkill, xget, xset, gd_0, gd_s]
          refine xG_run 1 rfl (by repeat' (first | exact trivial | assumption | exact xob_b rfl | exact xal_b rfl | (apply And.intro) | decide | exact fun z => h115 ((lg_eq0 _ _).mpr z))) ?_
          try dsimp only [xsto1, xsto2, xkill, xget, xset, gd_0, gd_s]
          refine xG_br rfl (fun h129 => ?_) (fun h129 => ?_)
          · refine xG_run 2 rfl (by repeat' (first | exact trivial | assumption | exact xob_b rfl | exact xal_b rfl | (apply And.intro) | decide | exact fun z => h115 ((lg_eq0 _ _).mpr z))) ?_
            try dsimp only [xsto1, xsto2, xkill, xget, xset, gd_0, gd_s]
            simp only [hj1, hj2] at h129 ⊢
            have k1 : cQ M np x (j + 1) = 1000 * cNa M np x j - (if j = 0 then 0 else 1000000 * (gI M (6 + j) 5).toInt64 * (gI M (6 + j) 5).toInt64) / (if cQ M np x j = 0 then 1 else cQ M np x j) := rfl
            rw [cNa] at k1
            first | rw [if_pos c33] at k1 | rw [if_neg c33] at k1
            first | rw [if_pos c78] at k1 | rw [if_neg c78] at k1
            first | rw [if_pos c115] at k1 | rw [if_neg c115] at k1
            have k2 : cCn M np x (j + 1) = if cQ M np x (j + 1) < 0 then cCn M np x j + 1 else cCn M np x j := rfl
            rw [k1] at k2
            first
              | rw [if_pos ((lg_lt0 _ _).mp (Int32.not_le.mp h129))] at k2
              | rw [if_neg (Int64.not_lt.mpr ((lg_ge0 _ _).mp h129))] at k2
            exact ih _ ⟨_, _, _, _, _, _, by first | (rw [k1, k2, nI_1]; done) | (rw [k1, k2, nI_1]; rfl)⟩
          · refine xG_run 3 rfl (by repeat' (first | exact trivial | assumption | exact xob_b rfl | exact xal_b rfl | (apply And.intro) | decide | exact fun z => h115 ((lg_eq0 _ _).mpr z))) ?_
            try dsimp only [xsto1, xsto2, xkill, xget, xset, gd_0, gd_s]
            simp only [hj1, hj2] at h129 ⊢
            have k1 : cQ M np x (j + 1) = 1000 * cNa M np x j - (if j = 0 then 0 else 1000000 * (gI M (6 + j) 5).toInt64 * (gI M (6 + j) 5).toInt64) / (if cQ M np x j = 0 then 1 else cQ M np x j) := rfl
            rw [cNa] at k1
            first | rw [if_pos c33] at k1 | rw [if_neg c33] at k1
            first | rw [if_pos c78] at k1 | rw [if_neg c78] at k1
            first | rw [if_pos c115] at k1 | rw [if_neg c115] at k1
            have k2 : cCn M np x (j + 1) = if cQ M np x (j + 1) < 0 then cCn M np x j + 1 else cCn M np x j := rfl
            rw [k1] at k2
            first
              | rw [if_pos ((lg_lt0 _ _).mp (Int32.not_le.mp h129))] at k2
              | rw [if_neg (Int64.not_lt.mpr ((lg_ge0 _ _).mp h129))] at k2
            exact ih _ ⟨_, _, _, _, _, _, by first | (rw [k1, k2, nI_1]; done) | (rw [k1, k2, nI_1]; rfl)⟩
        · have c115 : cQ M np x j = 0 := (lg_eq0 _ _).mp (Decidable.not_not.mp h115)
          refine xG_run 6 rfl (by repeat' (first | exact trivial | assumption | exact xob_b rfl | exact xal_b rfl | (apply And.intro) | decide | exact fun z => h115 ((lg_eq0 _ _).mpr z))) ?_
          try dsimp only [xsto1, xsto2, xkill, xget, xset, gd_0, gd_s]
          refine xG_run 2 rfl (by repeat' (first | exact trivial | assumption | exact xob_b rfl | exact xal_b rfl | (apply And.intro) | decide | exact fun z => h115 ((lg_eq0 _ _).mpr z))) ?_
          try dsimp only [xsto1, xsto2, xkill, xget, xset, gd_0, gd_s]
          refine xG_br rfl (fun h129 => ?_) (fun h129 => ?_)
          · refine xG_run 2 rfl (by repeat' (first | exact trivial | assumption | exact xob_b rfl | exact xal_b rfl | (apply And.intro) | decide | exact fun z => h115 ((lg_eq0 _ _).mpr z))) ?_
            try dsimp only [xsto1, xsto2, xkill, xget, xset, gd_0, gd_s]
            simp only [hj1, hj2] at h129 ⊢
            have k1 : cQ M np x (j + 1) = 1000 * cNa M np x j - (if j = 0 then 0 else 1000000 * (gI M (6 + j) 5).toInt64 * (gI M (6 + j) 5).toInt64) / (if cQ M np x j = 0 then 1 else cQ M np x j) := rfl
            rw [cNa] at k1
            first | rw [if_pos c33] at k1 | rw [if_neg c33] at k1
            first | rw [if_pos c78] at k1 | rw [if_neg c78] at k1
            first | rw [if_pos c115] at k1 | rw [if_neg c115] at k1
            have k2 : cCn M np x (j + 1) = if cQ M np x (j + 1) < 0 then cCn M np x j + 1 else cCn M np x j := rfl
            rw [k1] at k2
            first
              | rw [if_pos ((lg_lt0 _ _).mp (Int32.not_le.mp h129))] at k2
              | rw [if_neg (Int64.not_lt.mpr ((lg_ge0 _ _).mp h129))] at k2
            exact ih _ ⟨_, _, _, _, _, _, by first | (rw [k1, k2, nI_1]; done) | (rw [k1, k2, nI_1]; rfl)⟩
          · refine xG_run 3 rfl (by repeat' (first | exact trivial | assumption | exact xob_b rfl | exact xal_b rfl | (apply And.intro) | decide | exact fun z => h115 ((lg_eq0 _ _).mpr z))) ?_
            try dsimp only [xsto1, xsto2, xkill, xget, xset, gd_0, gd_s]
            simp only [hj1, hj2] at h129 ⊢
            have k1 : cQ M np x (j + 1) = 1000 * cNa M np x j - (if j = 0 then 0 else 1000000 * (gI M (6 + j) 5).toInt64 * (gI M (6 + j) 5).toInt64) / (if cQ M np x j = 0 then 1 else cQ M np x j) := rfl
            rw [cNa] at k1
            first | rw [if_pos c33] at k1 | rw [if_neg c33] at k1
            first | rw [if_pos c78] at k1 | rw [if_neg c78] at k1
            first | rw [if_pos c115] at k1 | rw [if_neg c115] at k1
            have k2 : cCn M np x (j + 1) = if cQ M np x (j + 1) < 0 then cCn M np x j + 1 else cCn M np x j := rfl
            rw [k1] at k2
            first
              | rw [if_pos ((lg_lt0 _ _).mp (Int32.not_le.mp h129))] at k2
              | rw [if_neg (Int64.not_lt.mpr ((lg_ge0 _ _).mp h129))] at k2
            exact ih _ ⟨_, _, _, _, _, _, by first | (rw [k1, k2, nI_1]; done) | (rw [k1, k2, nI_1]; rfl)⟩
  · rintro X ⟨y6, y7, y8, y9, y10, y11, rfl⟩
    refine xG_run 3 rfl (by repeat' (first | exact trivial | assumption | exact xob_b rfl | exact xal_b rfl | (apply And.intro) | decide)) ?_
    refine xG_brT rfl (by rw [hn]; exact Int32.le_refl _) ?_
    refine xG_run 1 rfl (by repeat' (first | exact trivial | assumption | exact xob_b rfl | exact xal_b rfl | (apply And.intro) | decide)) ?_
    refine r2_i rfl rfl ?_
    exact ⟨rfl, rfl⟩
set_option maxRecDepth 4000 in
theorem e_rcountOf {κ : xKK} {d : Nat} {M : xM} {np : Nat} (hn : gI M 167 1643 = nI np) (hn2 : np ≤ 10) {x : Int32} (hd : 2 ≤ d) : xE2 κ mX12_countOf d [.ref 166, .int x] M (fun v M' => v = some (.int (rCn M np x np)) ∧ M' = M) := by
  refine xE2_of ci_X12_countOf cl_X12_countOf cw_X12_countOf rfl (L := [some (.ref 166), some (.int x), none, none, none, none, none, none, none, none]) rfl ?_
  have hs0 : xar 167 0 182 1643 := xar_n (j := 1643) rfl 1651 rfl (by omega) (by omega)
  have hn0 : gI M 167 (1643 : Int32).toNatClampNeg = nI np := hn
  refine xG_run 6 rfl (by repeat' (first | exact trivial | assumption | exact xob_b rfl | exact xal_b rfl | (apply And.intro) | decide)) ?_
  have lp := xG_upP (κ := κ) (m := mX12_countOf) (r := (d, 0, 0)) (YS := xRet mX12_countOf false (fun v M' n' => n' = 182 ∧ (v = some (.int (rCn M np x np)) ∧ M' = M))) (fun j X => ∃ y6 y7 y8 y9 : Option Value, X = (7, [some (.ref 166), some (.int x), some (.int (rCn M np x j)), some (.long (rQ M np x j)), none, some (.int (nI j)), y6, y7, y8, y9], [], M, z2)) np ?_ ?_ 0 (by omega)
  · exact lp _ ⟨_, _, _, _, rfl⟩
  · rintro j X hj ⟨y6, y7, y8, y9, rfl⟩ ih
    refine xG_run 5 rfl (by repeat' (first | exact trivial | assumption | exact xob_b rfl | exact xal_b rfl | (apply And.intro) | decide | exact fun z => h104 ((lg_eq0 _ _).mpr z))) ?_
    try dsimp only [xsto1, xsto2, xkill, xget, xset, gd_0, gd_s]
    refine xG_brF rfl (by rw [hn0]; exact nI_ge hj (by omega)) ?_
    refine xG_run 3 rfl (by repeat' (first | exact trivial | assumption | exact xob_b rfl | exact xal_b rfl | (apply And.intro) | decide | exact fun z => h104 ((lg_eq0 _ _).mpr z))) ?_
    try dsimp only [xsto1, xsto2, xkill, xget, xset, gd_0, gd_s]
    refine xG_c2 2 rfl (by repeat' (first | exact trivial | assumption | exact xob_b rfl | exact xal_b rfl | (apply And.intro) | decide | exact fun z => h104 ((lg_eq0 _ _).mpr z))) rfl rfl (by decide) cw_X12_of (d' := d - 1) (e_of (p := j) (k := 4) rfl rfl (by omega)) (by omega) ?_
    rintro v M' ⟨rfl, hM⟩
    subst M'
    dsimp only [Option.toList, List.cons_append, List.nil_append]
    refine xG_run 6 rfl (by repeat' (first | exact trivial | assumption | exact xob_b rfl | exact xal_b rfl | (apply And.intro) | decide | exact fun z => h104 ((lg_eq0 _ _).mpr z))) ?_
    try dsimp only [xsto1, xsto2, xkill, xget, xset, gd_0, gd_s]
    refine xG_run 4 rfl (by repeat' (first | exact trivial | assumption | exact xob_b rfl | exact xal_b rfl | (apply And.intro) | decide | exact fun z => h104 ((lg_eq0 _ _).mpr z))) ?_
    try dsimp only [xsto1, xsto2, xkill, xget, xset, gd_0, gd_s]
    refine xG_br rfl (fun h44 => ?_) (fun h44 => ?_)
    · have c33 : ¬ j + 1 < np := by
        rw [hn0, nI_1] at h44
        exact Nat.not_lt.mpr ((nI_leI (by omega) (by omega)).mp h44)
      refine xG_run 6 rfl (by repeat' (first | exact trivial | assumption | exact xob_b rfl | exact xal_b rfl | (apply And.intro) | decide | exact fun z => h104 ((lg_eq0 _ _).mpr z))) ?_
      try dsimp only [xsto1, xsto2, xkill, xget, xset, gd_0, gd_s]
      refine xG_c2 1 rfl (by repeat' (first | exact trivial | assumption | exact xob_b rfl | exact xal_b rfl | (apply And.intro) | decide | exact fun z => h104 ((lg_eq0 _ _).mpr z))) rfl rfl (by decide) cw_X12_weight (d' := d - 1) (e_rweight (p := j) (by omega) (by omega)) (by omega) ?_
      rintro v M' ⟨rfl, hM⟩
      subst M'
      dsimp only [Option.toList, List.cons_append, List.nil_append]
      refine xG_run 6 rfl (by repeat' (first | exact trivial | assumption | exact xob_b rfl | exact xal_b rfl | (apply And.intro) | decide | exact fun z => h104 ((lg_eq0 _ _).mpr z))) ?_
      try dsimp only [xsto1, xsto2, xkill, xget, xset, gd_0, gd_s]
      refine xG_run 4 rfl (by repeat' (first | exact trivial | assumption | exact xob_b rfl | exact xal_b rfl | (apply And.intro) | decide | exact fun z => h104 ((lg_eq0 _ _).mpr z))) ?_
      try dsimp only [xsto1, xsto2, xkill, xget, xset, gd_0, gd_s]
      refine xG_br rfl (fun h85 => ?_) (fun h85 => ?_)
      · have c78 : ¬ j = 0 := fun q => h85 ((nI_z (by omega)).mpr q)
        refine xG_run 6 rfl (by repeat' (first | exact trivial | assumption | exact xob_b rfl | exact xal_b rfl | (apply And.intro) | decide | exact fun z => h104 ((lg_eq0 _ _).mpr z))) ?_
        try dsimp only [xsto1, xsto2, xkill, xget, xset, gd_0, gd_s]
        refine xG_run 2 rfl (by repeat' (first | exact trivial | assumption | exact xob_b rfl | exact xal_b rfl | (apply And.intro) | decide | exact fun z => h104 ((lg_eq0 _ _).mpr z))) ?_
        try dsimp only [xsto1, xsto2, xkill, xget, xset, gd_0, gd_s]
        refine xG_br rfl (fun h104 => ?_) (fun h104 => ?_)
        · have c115 : ¬ rQ M np x j = 0 := fun z => h104 ((lg_eq0 _ _).mpr z)
          refine xG_run 6 rfl (by repeat' (first | exact trivial | assumption | exact xob_b rfl | exact xal_b rfl | (apply And.intro) | decide | exact fun z => h104 ((lg_eq0 _ _).mpr z))) ?_
          try dsimp only [xsto1, xsto2, xkill, xget, xset, gd_0, gd_s]
          refine xG_run 2 rfl (by repeat' (first | exact trivial | assumption | exact xob_b rfl | exact xal_b rfl | (apply And.intro) | decide | exact fun z => h104 ((lg_eq0 _ _).mpr z))) ?_
          try dsimp only [xsto1, xsto2, xkill, xget, xset, gd_0, gd_s]
          refine xG_br rfl (fun h119 => ?_) (fun h119 => ?_)
          · refine xG_run 5 rfl (by repeat' (first | exact trivial | assumption | exact xob_b rfl | exact xal_b rfl | (apply And.intro) | decide | exact fun z => h104 ((lg_eq0 _ _).mpr z))) ?_
            try dsimp only [xsto1, xsto2, xkill, xget, xset, gd_0, gd_s]
            have k1 : rQ M np x (j + 1) = 1000 * rNa M np x j - (if j = 0 then 0 else 1000000 * (rs M j 4).toInt64 * (rs M j 4).toInt64 / (if rQ M np x j = 0 then 1 else rQ M np x j)) := rfl
            rw [rNa] at k1
            first | rw [if_pos c33] at k1 | rw [if_neg c33] at k1
            first | rw [if_pos c78] at k1 | rw [if_neg c78] at k1
            try (first | rw [if_pos c115] at k1 | rw [if_neg c115] at k1)
            have k2 : rCn M np x (j + 1) = if rQ M np x (j + 1) < 0 then rCn M np x j + 1 else rCn M np x j := rfl
            rw [k1] at k2
            first
              | rw [if_pos ((lg_lt0 _ _).mp (Int32.not_le.mp h119))] at k2
              | rw [if_neg (Int64.not_lt.mpr ((lg_ge0 _ _).mp h119))] at k2
            exact ih _ ⟨_, _, _, _, by first | (rw [k1, k2, nI_1]; done) | (rw [k1, k2, nI_1]; rfl) | (rw [k1, k2, nI_1, Int32.add_zero]; done) | (rw [k1, k2, nI_1, Int32.add_zero]; rfl)⟩
          · refine xG_run 6 rfl (by repeat' (first | exact trivial | assumption | exact xob_b rfl | exact xal_b rfl | (apply And.intro) | decide | exact fun z => h104 ((lg_eq0 _ _).mpr z))) ?_
            try dsimp only [xsto1, xsto2, xkill, xget, xset, gd_0, gd_s]
            have k1 : rQ M np x (j + 1) = 1000 * rNa M np x j - (if j = 0 then 0 else 1000000 * (rs M j 4).toInt64 * (rs M j 4).toInt64 / (if rQ M np x j = 0 then 1 else rQ M np x j)) := rfl
            rw [rNa] at k1
            first | rw [if_pos c33] at k1 | rw [if_neg c33] at k1
            first | rw [if_pos c78] at k1 | rw [if_neg c78] at k1
            try (first | rw [if_pos c115] at k1 | rw [if_neg c115] at k1)
            have k2 : rCn M np x (j + 1) = if rQ M np x (j + 1) < 0 then rCn M np x j + 1 else rCn M np x j := rfl
            rw [k1] at k2
            first
              | rw [if_pos ((lg_lt0 _ _).mp (Int32.not_le.mp h119))] at k2
              | rw [if_neg (Int64.not_lt.mpr ((lg_ge0 _ _).mp h119))] at k2
            exact ih _ ⟨_, _, _, _, by first | (rw [k1, k2, nI_1]; done) | (rw [k1, k2, nI_1]; rfl) | (rw [k1, k2, nI_1, Int32.add_zero]; done) | (rw [k1, k2, nI_1, Int32.add_zero]; rfl)⟩
        · have c115 : rQ M np x j = 0 := (lg_eq0 _ _).mp (Decidable.not_not.mp h104)
          refine xG_run 6 rfl (by repeat' (first | exact trivial | assumption | exact xob_b rfl | exact xal_b rfl | (apply And.intro) | decide | exact fun z => h104 ((lg_eq0 _ _).mpr z))) ?_
          try dsimp only [xsto1, xsto2, xkill, xget, xset, gd_0, gd_s]
          refine xG_run 3 rfl (by repeat' (first | exact trivial | assumption | exact xob_b rfl | exact xal_b rfl | (apply And.intro) | decide | exact fun z => h104 ((lg_eq0 _ _).mpr z))) ?_
          try dsimp only [xsto1, xsto2, xkill, xget, xset, gd_0, gd_s]
          refine xG_br rfl (fun h119 => ?_) (fun h119 => ?_)
          · refine xG_run 5 rfl (by repeat' (first | exact trivial | assumption | exact xob_b rfl | exact xal_b rfl | (apply And.intro) | decide | exact fun z => h104 ((lg_eq0 _ _).mpr z))) ?_
            try dsimp only [xsto1, xsto2, xkill, xget, xset, gd_0, gd_s]
            have k1 : rQ M np x (j + 1) = 1000 * rNa M np x j - (if j = 0 then 0 else 1000000 * (rs M j 4).toInt64 * (rs M j 4).toInt64 / (if rQ M np x j = 0 then 1 else rQ M np x j)) := rfl
            rw [rNa] at k1
            first | rw [if_pos c33] at k1 | rw [if_neg c33] at k1
            first | rw [if_pos c78] at k1 | rw [if_neg c78] at k1
            try (first | rw [if_pos c115] at k1 | rw [if_neg c115] at k1)
            have k2 : rCn M np x (j + 1) = if rQ M np x (j + 1) < 0 then rCn M np x j + 1 else rCn M np x j := rfl
            rw [k1] at k2
            first
              | rw [if_pos ((lg_lt0 _ _).mp (Int32.not_le.mp h119))] at k2
              | rw [if_neg (Int64.not_lt.mpr ((lg_ge0 _ _).mp h119))] at k2
            exact ih _ ⟨_, _, _, _, by first | (rw [k1, k2, nI_1]; done) | (rw [k1, k2, nI_1]; rfl) | (rw [k1, k2, nI_1, Int32.add_zero]; done) | (rw [k1, k2, nI_1, Int32.add_zero]; rfl)⟩
          · refine xG_run 6 rfl (by repeat' (first | exact trivial | assumption | exact xob_b rfl | exact xal_b rfl | (apply And.intro) | decide | exact fun z => h104 ((lg_eq0 _ _).mpr z))) ?_
            try dsimp only [xsto1, xsto2, xkill, xget, xset, gd_0, gd_s]
            have k1 : rQ M np x (j + 1) = 1000 * rNa M np x j - (if j = 0 then 0 else 1000000 * (rs M j 4).toInt64 * (rs M j 4).toInt64 / (if rQ M np x j = 0 then 1 else rQ M np x j)) := rfl
            rw [rNa] at k1
            first | rw [if_pos c33] at k1 | rw [if_neg c33] at k1
            first | rw [if_pos c78] at k1 | rw [if_neg c78] at k1
            try (first | rw [if_pos c115] at k1 | rw [if_neg c115] at k1)
            have k2 : rCn M np x (j + 1) = if rQ M np x (j + 1) < 0 then rCn M np x j + 1 else rCn M np x j := rfl
            rw [k1] at k2
            first
              | rw [if_pos ((lg_lt0 _ _).mp (Int32.not_le.mp h119))] at k2
              | rw [if_neg (Int64.not_lt.mpr ((lg_ge0 _ _).mp h119))] at k2
            exact ih _ ⟨_, _, _, _, by first | (rw [k1, k2, nI_1]; done) | (rw [k1, k2, nI_1]; rfl) | (rw [k1, k2, nI_1, Int32.add_zero]; done) | (rw [k1, k2, nI_1, Int32.add_zero]; rfl)⟩
      · have c78 : j = 0 := (nI_z (by omega)).mp (Decidable.not_not.mp h85)
        refine xG_run 6 rfl (by repeat' (first | exact trivial | assumption | exact xob_b rfl | exact xal_b rfl | (apply And.intro) | decide | exact fun z => h104 ((lg_eq0 _ _).mpr z))) ?_
        try dsimp only [xsto1, xsto2, xkill, xget, xset, gd_0, gd_s]
        refine xG_run 2 rfl (by repeat' (first | exact trivial | assumption | exact xob_b rfl | exact xal_b rfl | (apply And.intro) | decide | exact fun z => h104 ((lg_eq0 _ _).mpr z))) ?_
        try dsimp only [xsto1, xsto2, xkill, xget, xset, gd_0, gd_s]
        refine xG_br rfl (fun h119 => ?_) (fun h119 => ?_)
        · refine xG_run 5 rfl (by repeat' (first | exact trivial | assumption | exact xob_b rfl | exact xal_b rfl | (apply And.intro) | decide | exact fun z => h104 ((lg_eq0 _ _).mpr z))) ?_
          try dsimp only [xsto1, xsto2, xkill, xget, xset, gd_0, gd_s]
          have k1 : rQ M np x (j + 1) = 1000 * rNa M np x j - (if j = 0 then 0 else 1000000 * (rs M j 4).toInt64 * (rs M j 4).toInt64 / (if rQ M np x j = 0 then 1 else rQ M np x j)) := rfl
          rw [rNa] at k1
          first | rw [if_pos c33] at k1 | rw [if_neg c33] at k1
          first | rw [if_pos c78] at k1 | rw [if_neg c78] at k1
          try (first | rw [if_pos c115] at k1 | rw [if_neg c115] at k1)
          have k2 : rCn M np x (j + 1) = if rQ M np x (j + 1) < 0 then rCn M np x j + 1 else rCn M np x j := rfl
          rw [k1] at k2
          first
            | rw [if_pos ((lg_lt0 _ _).mp (Int32.not_le.mp h119))] at k2
            | rw [if_neg (Int64.not_lt.mpr ((lg_ge0 _ _).mp h119))] at k2
          exact ih _ ⟨_, _, _, _, by first | (rw [k1, k2, nI_1]; done) | (rw [k1, k2, nI_1]; rfl) | (rw [k1, k2, nI_1, Int32.add_zero]; done) | (rw [k1, k2, nI_1, Int32.add_zero]; rfl)⟩
        · refine xG_run 6 rfl (by repeat' (first | exact trivial | assumption | exact xob_b rfl | exact xal_b rfl | (apply And.intro) | decide | exact fun z => h104 ((lg_eq0 _ _).mpr z))) ?_
          try dsimp only [xsto1, xsto2, xkill, xget, xset, gd_0, gd_s]
          have k1 : rQ M np x (j + 1) = 1000 * rNa M np x j - (if j = 0 then 0 else 1000000 * (rs M j 4).toInt64 * (rs M j 4).toInt64 / (if rQ M np x j = 0 then 1 else rQ M np x j)) := rfl
          rw [rNa] at k1
          first | rw [if_pos c33] at k1 | rw [if_neg c33] at k1
          first | rw [if_pos c78] at k1 | rw [if_neg c78] at k1
          try (first | rw [if_pos c115] at k1 | rw [if_neg c115] at k1)
          have k2 : rCn M np x (j + 1) = if rQ M np x (j + 1) < 0 then rCn M np x j + 1 else rCn M np x j := rfl
          rw [k1] at k2
          first
            | rw [if_pos ((lg_lt0 _ _).mp (Int32.not_le.mp h119))] at k2
            | rw [if_neg (Int64.not_lt.mpr ((lg_ge0 _ _).mp h119))] at k2
          exact ih _ ⟨_, _, _, _, by first | (rw [k1, k2, nI_1]; done) | (rw [k1, k2, nI_1]; rfl) | (rw [k1, k2, nI_1, Int32.add_zero]; done) | (rw [k1, k2, nI_1, Int32.add_zero]; rfl)⟩
    · have c33 : j + 1 < np := by
        rw [hn0, nI_1] at h44
        exact Nat.not_le.mp (fun q => h44 ((nI_leI (by omega) (by omega)).mpr q))
      refine xG_run 5 rfl (by repeat' (first | exact trivial | assumption | exact xob_b rfl | exact xal_b rfl | (apply And.intro) | decide | exact fun z => h104 ((lg_eq0 _ _).mpr z))) ?_
      try dsimp only [xsto1, xsto2, xkill, xget, xset, gd_0, gd_s]
      refine xG_c2 2 rfl (by repeat' (first | exact trivial | assumption | exact xob_b rfl | exact xal_b rfl | (apply And.intro) | decide | exact fun z => h104 ((lg_eq0 _ _).mpr z))) rfl rfl (by decide) cw_X12_of (d' := d - 1) (e_of (p := j + 1) (k := 4) (nI_1 j) rfl (by omega)) (by omega) ?_
      rintro v M' ⟨rfl, hM⟩
      subst M'
      dsimp only [Option.toList, List.cons_append, List.nil_append]
      refine xG_run 6 rfl (by repeat' (first | exact trivial | assumption | exact xob_b rfl | exact xal_b rfl | (apply And.intro) | decide | exact fun z => h104 ((lg_eq0 _ _).mpr z))) ?_
      try dsimp only [xsto1, xsto2, xkill, xget, xset, gd_0, gd_s]
      refine xG_c2 1 rfl (by repeat' (first | exact trivial | assumption | exact xob_b rfl | exact xal_b rfl | (apply And.intro) | decide | exact fun z => h104 ((lg_eq0 _ _).mpr z))) rfl rfl (by decide) cw_X12_weight (d' := d - 1) (e_rweight (p := j) (by omega) (by omega)) (by omega) ?_
      rintro v M' ⟨rfl, hM⟩
      subst M'
      dsimp only [Option.toList, List.cons_append, List.nil_append]
      refine xG_run 6 rfl (by repeat' (first | exact trivial | assumption | exact xob_b rfl | exact xal_b rfl | (apply And.intro) | decide | exact fun z => h104 ((lg_eq0 _ _).mpr z))) ?_
      try dsimp only [xsto1, xsto2, xkill, xget, xset, gd_0, gd_s]
      refine xG_run 4 rfl (by repeat' (first | exact trivial | assumption | exact xob_b rfl | exact xal_b rfl | (apply And.intro) | decide | exact fun z => h104 ((lg_eq0 _ _).mpr z))) ?_
      try dsimp only [xsto1, xsto2, xkill, xget, xset, gd_0, gd_s]
      refine xG_br rfl (fun h85 => ?_) (fun h85 => ?_)
      · have c78 : ¬ j = 0 := fun q => h85 ((nI_z (by omega)).mpr q)
        refine xG_run 6 rfl (by repeat' (first | exact trivial | assumption | exact xob_b rfl | exact xal_b rfl | (apply And.intro) | decide | exact fun z => h104 ((lg_eq0 _ _).mpr z))) ?_
        try dsimp only [xsto1, xsto2, xkill, xget, xset, gd_0, gd_s]
        refine xG_run 2 rfl (by repeat' (first | exact trivial | assumption | exact xob_b rfl | exact xal_b rfl | (apply And.intro) | decide | exact fun z => h104 ((lg_eq0 _ _).mpr z))) ?_
        try dsimp only [xsto1, xsto2, xkill, xget, xset, gd_0, gd_s]
        refine xG_br rfl (fun h104 => ?_) (fun h104 => ?_)
        · have c115 : ¬ rQ M np x j = 0 := fun z => h104 ((lg_eq0 _ _).mpr z)
          refine xG_run 6 rfl (by repeat' (first | exact trivial | assumption | exact xob_b rfl | exact xal_b rfl | (apply And.intro) | decide | exact fun z => h104 ((lg_eq0 _ _).mpr z))) ?_
          try dsimp only [xsto1, xsto2, xkill, xget, xset, gd_0, gd_s]
          refine xG_run 2 rfl (by repeat' (first | exact trivial | assumption | exact xob_b rfl | exact xal_b rfl | (apply And.intro) | decide | exact fun z => h104 ((lg_eq0 _ _).mpr z))) ?_
          try dsimp only [xsto1, xsto2, xkill, xget, xset, gd_0, gd_s]
          refine xG_br rfl (fun h119 => ?_) (fun h119 => ?_)
          · refine xG_run 5 rfl (by repeat' (first | exact trivial | assumption | exact xob_b rfl | exact xal_b rfl | (apply And.intro) | decide | exact fun z => h104 ((lg_eq0 _ _).mpr z))) ?_
            try dsimp only [xsto1, xsto2, xkill, xget, xset, gd_0, gd_s]
            have k1 : rQ M np x (j + 1) = 1000 * rNa M np x j - (if j = 0 then 0 else 1000000 * (rs M j 4).toInt64 * (rs M j 4).toInt64 / (if rQ M np x j = 0 then 1 else rQ M np x j)) := rfl
            rw [rNa] at k1
            first | rw [if_pos c33] at k1 | rw [if_neg c33] at k1
            first | rw [if_pos c78] at k1 | rw [if_neg c78] at k1
            try (first | rw [if_pos c115] at k1 | rw [if_neg c115] at k1)
            have k2 : rCn M np x (j + 1) = if rQ M np x (j + 1) < 0 then rCn M np x j + 1 else rCn M np x j := rfl
            rw [k1] at k2
            first
              | rw [if_pos ((lg_lt0 _ _).mp (Int32.not_le.mp h119))] at k2
              | rw [if_neg (Int64.not_lt.mpr ((lg_ge0 _ _).mp h119))] at k2
            exact ih _ ⟨_, _, _, _, by first | (rw [k1, k2, nI_1]; done) | (rw [k1, k2, nI_1]; rfl) | (rw [k1, k2, nI_1, Int32.add_zero]; done) | (rw [k1, k2, nI_1, Int32.add_zero]; rfl)⟩
          · refine xG_run 6 rfl (by repeat' (first | exact trivial | assumption | exact xob_b rfl | exact xal_b rfl | (apply And.intro) | decide | exact fun z => h104 ((lg_eq0 _ _).mpr z))) ?_
            try dsimp only [xsto1, xsto2, xkill, xget, xset, gd_0, gd_s]
            have k1 : rQ M np x (j + 1) = 1000 * rNa M np x j - (if j = 0 then 0 else 1000000 * (rs M j 4).toInt64 * (rs M j 4).toInt64 / (if rQ M np x j = 0 then 1 else rQ M np x j)) := rfl
            rw [rNa] at k1
            first | rw [if_pos c33] at k1 | rw [if_neg c33] at k1
            first | rw [if_pos c78] at k1 | rw [if_neg c78] at k1
            try (first | rw [if_pos c115] at k1 | rw [if_neg c115] at k1)
            have k2 : rCn M np x (j + 1) = if rQ M np x (j + 1) < 0 then rCn M np x j + 1 else rCn M np x j := rfl
            rw [k1] at k2
            first
              | rw [if_pos ((lg_lt0 _ _).mp (Int32.not_le.mp h119))] at k2
              | rw [if_neg (Int64.not_lt.mpr ((lg_ge0 _ _).mp h119))] at k2
            exact ih _ ⟨_, _, _, _, by first | (rw [k1, k2, nI_1]; done) | (rw [k1, k2, nI_1]; rfl) | (rw [k1, k2, nI_1, Int32.add_zero]; done) | (rw [k1, k2, nI_1, Int32.add_zero]; rfl)⟩
        · have c115 : rQ M np x j = 0 := (lg_eq0 _ _).mp (Decidable.not_not.mp h104)
          refine xG_run 6 rfl (by repeat' (first | exact trivial | assumption | exact xob_b rfl | exact xal_b rfl | (apply And.intro) | decide | exact fun z => h104 ((lg_eq0 _ _).mpr z))) ?_
          try dsimp only [xsto1, xsto2, xkill, xget, xset, gd_0, gd_s]
          refine xG_run 3 rfl (by repeat' (first | exact trivial | assumption | exact xob_b rfl | exact xal_b rfl | (apply And.intro) | decide | exact fun z => h104 ((lg_eq0 _ _).mpr z))) ?_
          try dsimp only [xsto1, xsto2, xkill, xget, xset, gd_0, gd_s]
          refine xG_br rfl (fun h119 => ?_) (fun h119 => ?_)
          · refine xG_run 5 rfl (by repeat' (first | exact trivial | assumption | exact xob_b rfl | exact xal_b rfl | (apply And.intro) | decide | exact fun z => h104 ((lg_eq0 _ _).mpr z))) ?_
            try dsimp only [xsto1, xsto2, xkill, xget, xset, gd_0, gd_s]
            have k1 : rQ M np x (j + 1) = 1000 * rNa M np x j - (if j = 0 then 0 else 1000000 * (rs M j 4).toInt64 * (rs M j 4).toInt64 / (if rQ M np x j = 0 then 1 else rQ M np x j)) := rfl
            rw [rNa] at k1
            first | rw [if_pos c33] at k1 | rw [if_neg c33] at k1
            first | rw [if_pos c78] at k1 | rw [if_neg c78] at k1
            try (first | rw [if_pos c115] at k1 | rw [if_neg c115] at k1)
            have k2 : rCn M np x (j + 1) = if rQ M np x (j + 1) < 0 then rCn M np x j + 1 else rCn M np x j := rfl
            rw [k1] at k2
            first
              | rw [if_pos ((lg_lt0 _ _).mp (Int32.not_le.mp h119))] at k2
              | rw [if_neg (Int64.not_lt.mpr ((lg_ge0 _ _).mp h119))] at k2
            exact ih _ ⟨_, _, _, _, by first | (rw [k1, k2, nI_1]; done) | (rw [k1, k2, nI_1]; rfl) | (rw [k1, k2, nI_1, Int32.add_zero]; done) | (rw [k1, k2, nI_1, Int32.add_zero]; rfl)⟩
          · refine xG_run 6 rfl (by repeat' (first | exact trivial | assumption | exact xob_b rfl | exact xal_b rfl | (apply And.intro) | decide | exact fun z => h104 ((lg_eq0 _ _).mpr z))) ?_
            try dsimp only [xsto1, xsto2, xkill, xget, xset, gd_0, gd_s]
            have k1 : rQ M np x (j + 1) = 1000 * rNa M np x j - (if j = 0 then 0 else 1000000 * (rs M j 4).toInt64 * (rs M j 4).toInt64 / (if rQ M np x j = 0 then 1 else rQ M np x j)) := rfl
            rw [rNa] at k1
            first | rw [if_pos c33] at k1 | rw [if_neg c33] at k1
            first | rw [if_pos c78] at k1 | rw [if_neg c78] at k1
            try (first | rw [if_pos c115] at k1 | rw [if_neg c115] at k1)
            have k2 : rCn M np x (j + 1) = if rQ M np x (j + 1) < 0 then rCn M np x j + 1 else rCn M np x j := rfl
            rw [k1] at k2
            first
              | rw [if_pos ((lg_lt0 _ _).mp (Int32.not_le.mp h119))] at k2
              | rw [if_neg (Int64.not_lt.mpr ((lg_ge0 _ _).mp h119))] at k2
            exact ih _ ⟨_, _, _, _, by first | (rw [k1, k2, nI_1]; done) | (rw [k1, k2, nI_1]; rfl) | (rw [k1, k2, nI_1, Int32.add_zero]; done) | (rw [k1, k2, nI_1, Int32.add_zero]; rfl)⟩
      · have c78 : j = 0 := (nI_z (by omega)).mp (Decidable.not_not.mp h85)
        refine xG_run 6 rfl (by repeat' (first | exact trivial | assumption | exact xob_b rfl | exact xal_b rfl | (apply And.intro) | decide | exact fun z => h104 ((lg_eq0 _ _).mpr z))) ?_
        try dsimp only [xsto1, xsto2, xkill, xget, xset, gd_0, gd_s]
        refine xG_run 2 rfl (by repeat' (first | exact trivial | assumption | exact xob_b rfl | exact xal_b rfl | (apply And.intro) | decide | exact fun z => h104 ((lg_eq0 _ _).mpr z))) ?_
        try dsimp only [xsto1, xsto2, xkill, xget, xset, gd_0, gd_s]
        refine xG_br rfl (fun h119 => ?_) (fun h119 => ?_)
        · refine xG_run 5 rfl (by repeat' (first | exact trivial | assumption | exact xob_b rfl | exact xal_b rfl | (apply And.intro) | decide | exact fun z => h104 ((lg_eq0 _ _).mpr z))) ?_
          try dsimp only [xsto1, xsto2, xkill, xget, xset, gd_0, gd_s]
          have k1 : rQ M np x (j + 1) = 1000 * rNa M np x j - (if j = 0 then 0 else 1000000 * (rs M j 4).toInt64 * (rs M j 4).toInt64 / (if rQ M np x j = 0 then 1 else rQ M np x j)) := rfl
          rw [rNa] at k1
          first | rw [if_pos c33] at k1 | rw [if_neg c33] at k1
          first | rw [if_pos c78] at k1 | rw [if_neg c78] at k1
          try (first | rw [if_pos c115] at k1 | rw [if_neg c115] at k1)
          have k2 : rCn M np x (j + 1) = if rQ M np x (j + 1) < 0 then rCn M np x j + 1 else rCn M np x j := rfl
          rw [k1] at k2
          first
            | rw [if_pos ((lg_lt0 _ _).mp (Int32.not_le.mp h119))] at k2
            | rw [if_neg (Int64.not_lt.mpr ((lg_ge0 _ _).mp h119))] at k2
          exact ih _ ⟨_, _, _, _, by first | (rw [k1, k2, nI_1]; done) | (rw [k1, k2, nI_1]; rfl) | (rw [k1, k2, nI_1, Int32.add_zero]; done) | (rw [k1, k2, nI_1, Int32.add_zero]; rfl)⟩
        · refine xG_run 6 rfl (by repeat' (first | exact trivial | assumption | exact xob_b rfl | exact xal_b rfl | (apply And.intro) | decide | exact fun z => h104 ((lg_eq0 _ _).mpr z))) ?_
          try dsimp only [xsto1, xsto2, xkill, xget, xset, gd_0, gd_s]
          have k1 : rQ M np x (j + 1) = 1000 * rNa M np x j - (if j = 0 then 0 else 1000000 * (rs M j 4).toInt64 * (rs M j 4).toInt64 / (if rQ M np x j = 0 then 1 else rQ M np x j)) := rfl
          rw [rNa] at k1
          first | rw [if_pos c33] at k1 | rw [if_neg c33] at k1
          first | rw [if_pos c78] at k1 | rw [if_neg c78] at k1
          try (first | rw [if_pos c115] at k1 | rw [if_neg c115] at k1)
          have k2 : rCn M np x (j + 1) = if rQ M np x (j + 1) < 0 then rCn M np x j + 1 else rCn M np x j := rfl
          rw [k1] at k2
          first
            | rw [if_pos ((lg_lt0 _ _).mp (Int32.not_le.mp h119))] at k2
            | rw [if_neg (Int64.not_lt.mpr ((lg_ge0 _ _).mp h119))] at k2
          exact ih _ ⟨_, _, _, _, by first | (rw [k1, k2, nI_1]; done) | (rw [k1, k2, nI_1]; rfl) | (rw [k1, k2, nI_1, Int32.add_zero]; done) | (rw [k1, k2, nI_1, Int32.add_zero]; rfl)⟩
  · rintro X ⟨y6, y7, y8, y9, rfl⟩
    refine xG_run 5 rfl (by repeat' (first | exact trivial | assumption | exact xob_b rfl | exact xal_b rfl | (apply And.intro) | decide)) ?_
    refine xG_brT rfl (by rw [hn0]; exact Int32.le_refl _) ?_
    refine xG_run 1 rfl (by repeat' (first | exact trivial | assumption | exact xob_b rfl | exact xal_b rfl | (apply And.intro) | decide)) ?_
    refine r2_i rfl rfl ?_
    exact ⟨rfl, rfl⟩
