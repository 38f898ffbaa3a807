/-! ===== swings ===== -/
def sgS (a b : Int32) : Int64 := if 0 < a.toInt64 - b.toInt64 then a.toInt64 - b.toInt64 else -(a.toInt64 - b.toInt64)
def sgT (s : Int64) : Int64 := if 100 ≤ s / 10 then 1000000 else s / 10 * (s / 10) * (s / 10)
def sgM (g s : Int64) : Int64 := if g < s then s else g
abbrev swT : Type := Int32 × Int64 × Int64 × Int32 × Int32 × Int32
/-- found, greatest, tiredness, where it turned, the element ahead, which way -/
def swK (s : swT) (e : Int32) : swT :=
  if e = s.2.2.2.2.1 then s
  else if ¬ s.2.2.2.2.2 = 0 ∧ ¬ (if s.2.2.2.2.1 < e then (1 : Int32) else -1) = s.2.2.2.2.2 then (s.1 + 1, sgM s.2.1 (sgS s.2.2.2.1 s.2.2.2.2.1), s.2.2.1 + sgT (sgS s.2.2.2.1 s.2.2.2.2.1), s.2.2.2.2.1, e, if s.2.2.2.2.1 < e then 1 else -1)
  else (s.1, s.2.1, s.2.2.1, s.2.2.2.1, e, if s.2.2.2.2.1 < e then 1 else -1)
def sw (E : Nat → Int32) : Nat → swT
  | 0 => (0, 0, 0, E 0, E 0, 0)
  | k + 1 => swK (sw E k) (E (k + 1))
def swF (s : swT) : Int32 × Int64 × Int64 := if s.2.2.2.2.2 = 0 then (s.1, s.2.1, s.2.2.1) else (s.1 + 1, sgM s.2.1 (sgS s.2.2.2.1 s.2.2.2.2.1), s.2.2.1 + sgT (sgS s.2.2.2.1 s.2.2.2.2.1))
def swR (E : Nat → Int32) (z : Nat) : Int32 × Int64 × Int64 := if z = 0 then (0, 0, 0) else swF (sw E (z - 1))
def swM (M : xM) (a i j k : Nat) (f : Int32) (g t : Int64) : xM := sJ (sJ (sI M a i f) a j g) a k t
def swX (M : xM) (a i j k : Nat) (r : Int32 × Int64 × Int64) : xM := swM M a i j k r.1 r.2.1 r.2.2
theorem swM_w {M : xM} {a i j k : Nat} {f f' : Int32} {g t g' t' : Int64} (h : j ≠ k) : swM (swM M a i j k f g t) a i j k f' g' t' = swM M a i j k f' g' t' := by
  refine xM_ext (fun x y => ?_) (fun x y => ?_) (fun _ _ => rfl)
  · show gI (sI (sI M a i f) a i f') x y = gI (sI M a i f') x y
    rw [gIsI, gIsI, gIsI]
    by_cases c : x = a ∧ y = i
    · rw [if_pos c, if_pos c]
    · rw [if_neg c, if_neg c, if_neg c]
  · show gJ (sJ (sJ (sJ (sJ M a j g) a k t) a j g') a k t') x y = gJ (sJ (sJ M a j g') a k t') x y
    simp only [gJsJ]
    by_cases c : x = a ∧ y = k
    · simp only [if_pos c]
    · by_cases c2 : x = a ∧ y = j
      · simp only [if_neg c, if_pos c2]
      · simp only [if_neg c, if_neg c2]
theorem swM_f {M : xM} {a i j k : Nat} {f : Int32} {g t : Int64} : gI (swM M a i j k f g t) a i = f := gI_self _ _ _ _
theorem swM_gg {M : xM} {a i j k : Nat} {f : Int32} {g t : Int64} (h : j ≠ k) : gJ (swM M a i j k f g t) a j = g := (gJ_ne (Or.inr h)).trans (gJ_self _ _ _ _)
theorem swM_t {M : xM} {a i j k : Nat} {f : Int32} {g t : Int64} : gJ (swM M a i j k f g t) a k = t := gJ_self _ _ _ _
theorem swM_g {M : xM} {a i j k x y : Nat} {f : Int32} {g t : Int64} (h : x ≠ a ∨ y ≠ i) : gI (swM M a i j k f g t) x y = gI M x y := gI_ne h
theorem sgM_1 (g s : Int64) : (if s < g then g else s) = sgM g s := by
  unfold sgM
  by_cases h : s < g
  · rw [if_pos h, if_neg (fun q => by rw [Int64.lt_iff_toInt_lt] at h q; omega)]
  · rw [if_neg h]
    by_cases h2 : g < s
    · rw [if_pos h2]
    · rw [if_neg h2]
      apply Int64.toInt_inj.mp
      rw [Int64.lt_iff_toInt_lt] at h h2
      omega
theorem sgT_1 (s : Int64) : (if 100 < s / 10 then (1000000 : Int64) else s / 10 * (s / 10) * (s / 10)) = sgT s := by
  unfold sgT
  by_cases h : 100 < s / 10
  · rw [if_pos h, if_pos (by rw [Int64.lt_iff_toInt_lt] at h; rw [Int64.le_iff_toInt_le]; omega)]
  · rw [if_neg h]
    by_cases h2 : 100 ≤ s / 10
    · have e : s / 10 = 100 := by
        apply Int64.toInt_inj.mp
        rw [Int64.lt_iff_toInt_lt] at h
        rw [Int64.le_iff_toInt_le] at h2
        omega
      rw [if_pos h2, e]
      rfl
    · rw [if_neg h2]
theorem sgS_r (a b : Int32) : (if b.toInt64 - a.toInt64 < 0 then -(b.toInt64 - a.toInt64) else b.toInt64 - a.toInt64) = sgS a b := by
  have ha := fb_rng a
  have hb := fb_rng b
  have e1 : (a.toInt64 - b.toInt64).toInt = a.toInt - b.toInt := by rw [fb_subL] <;> rw [Int32.toInt_toInt64, Int32.toInt_toInt64] <;> omega
  have e2 : (b.toInt64 - a.toInt64).toInt = b.toInt - a.toInt := by rw [fb_subL] <;> rw [Int32.toInt_toInt64, Int32.toInt_toInt64] <;> omega
  have e3 : -(b.toInt64 - a.toInt64) = a.toInt64 - b.toInt64 := Int64.neg_sub
  have e4 : -(a.toInt64 - b.toInt64) = b.toInt64 - a.toInt64 := Int64.neg_sub
  have z : (0 : Int64).toInt = 0 := rfl
  unfold sgS
  by_cases h : b.toInt64 - a.toInt64 < 0
  · rw [if_pos h, e3, if_pos (by rw [Int64.lt_iff_toInt_lt] at h ⊢; omega)]
  · rw [if_neg h, e4, if_neg (by rw [Int64.lt_iff_toInt_lt] at h ⊢; omega)]
theorem sw_eq {E : Nat → Int32} {k : Nat} (h : E (k + 1) = (sw E k).2.2.2.2.1) : sw E (k + 1) = sw E k := by rw [sw]; unfold swK; rw [if_pos h]
theorem sw_no {E : Nat → Int32} {k : Nat} {w : Int32} (h : ¬ E (k + 1) = (sw E k).2.2.2.2.1) (hw : (if (sw E k).2.2.2.2.1 < E (k + 1) then (1 : Int32) else -1) = w) (h2 : (sw E k).2.2.2.2.2 = 0 ∨ w = (sw E k).2.2.2.2.2) : sw E (k + 1) = ((sw E k).1, (sw E k).2.1, (sw E k).2.2.1, (sw E k).2.2.2.1, E (k + 1), w) := by
  subst hw
  rw [sw]; unfold swK; rw [if_neg h, if_neg (fun q => h2.elim q.1 q.2)]
theorem sw_ad {E : Nat → Int32} {k : Nat} {w : Int32} (h : ¬ E (k + 1) = (sw E k).2.2.2.2.1) (hw : (if (sw E k).2.2.2.2.1 < E (k + 1) then (1 : Int32) else -1) = w) (h1 : ¬ (sw E k).2.2.2.2.2 = 0) (h2 : ¬ w = (sw E k).2.2.2.2.2) : sw E (k + 1) = ((sw E k).1 + 1, sgM (sw E k).2.1 (sgS (sw E k).2.2.2.1 (sw E k).2.2.2.2.1), (sw E k).2.2.1 + sgT (sgS (sw E k).2.2.2.1 (sw E k).2.2.2.2.1), (sw E k).2.2.2.2.1, E (k + 1), w) := by
  subst hw
  rw [sw]; unfold swK; rw [if_neg h, if_pos ⟨h1, h2⟩]
set_option maxRecDepth 4000 in
theorem e_sadd {κ : xKK} {d : Nat} {M : xM} {a b : Int32} : xE2 κ mX9_add d [.ref 141, .int a, .int b] M (fun v M' => v = none ∧ M' = swM M 141 0 1 2 (gI M 141 0 + 1) (sgM (gJ M 141 1) (sgS a b)) (gJ M 141 2 + sgT (sgS a b))) := by
  refine xE2_of ci_X9_add cl_X9_add cw_X9_add rfl (L := [some (.ref 141), some (.int a), some (.int b), none, none, none, none]) rfl ?_
  refine xG_run 8 rfl (by repeat' (first | exact trivial | assumption | exact xob_b rfl | exact xal_b rfl | (apply And.intro) | decide)) ?_
  try dsimp only [xsto1, xsto2, xkill, xget, xset, gd_0, gd_s]
  refine xG_run 8 rfl (by repeat' (first | exact trivial | assumption | exact xob_b rfl | exact xal_b rfl | (apply And.intro) | decide)) ?_
  try dsimp only [xsto1, xsto2, xkill, xget, xset, gd_0, gd_s]
  refine xG_run 8 rfl (by repeat' (first | exact trivial | assumption | exact xob_b rfl | exact xal_b rfl | (apply And.intro) | decide)) ?_
  try dsimp only [xsto1, xsto2, xkill, xget, xset, gd_0, gd_s]
  refine xG_run 5 rfl (by repeat' (first | exact trivial | assumption | exact xob_b rfl | exact xal_b rfl | (apply And.intro) | decide)) ?_
  try dsimp only [xsto1, xsto2, xkill, xget, xset, gd_0, gd_s]
  refine xG_br rfl (fun h49 => ?_) (fun h49 => ?_)
  · refine xG_run 7 rfl (by repeat' (first | exact trivial | assumption | exact xob_b rfl | exact xal_b rfl | (apply And.intro) | decide)) ?_
    try dsimp only [xsto1, xsto2, xkill, xget, xset, gd_0, gd_s]
    refine r2_v rfl rfl ?_
    refine ⟨rfl, ?_⟩
    first
      | (rw [← (show sgT (sgS a b) = (1000000 : Int64) from if_pos ((lg_ge0 _ _).mp (Int32.not_lt.mp h49))), ← sgM_1]; rfl)
      | (have e9 : sgT (sgS a b) = _ := if_neg (Int64.not_le.mpr ((lg_lt0 _ _).mp h49))
         unfold swM
         rw [e9, ← sgM_1]; rfl)
  · refine xG_run 4 rfl (by repeat' (first | exact trivial | assumption | exact xob_b rfl | exact xal_b rfl | (apply And.intro) | decide)) ?_
    try dsimp only [xsto1, xsto2, xkill, xget, xset, gd_0, gd_s]
    refine r2_v rfl rfl ?_
    refine ⟨rfl, ?_⟩
    first
      | (rw [← (show sgT (sgS a b) = (1000000 : Int64) from if_pos ((lg_ge0 _ _).mp (Int32.not_lt.mp h49))), ← sgM_1]; rfl)
      | (have e9 : sgT (sgS a b) = _ := if_neg (Int64.not_le.mpr ((lg_lt0 _ _).mp h49))
         unfold swM
         rw [e9, ← sgM_1]; rfl)
set_option maxRecDepth 4000 in
theorem e_radds {κ : xKK} {d : Nat} {M : xM} {a b : Int32} {y : Int64} (hy : y = b.toInt64 - a.toInt64) : xE2 κ mX12_adds d [.ref 166, .long y] M (fun v M' => v = none ∧ M' = swM M 166 21 22 23 (gI M 166 21 + 1) (sgM (gJ M 166 22) (sgS a b)) (gJ M 166 23 + sgT (sgS a b))) := by
  refine xE2_of ci_X12_adds cl_X12_adds cw_X12_adds rfl (L := [some (.ref 166), some (.long y), none, none, none, none, none]) rfl ?_
  refine xG_run 3 rfl (by repeat' (first | exact trivial | assumption | exact xob_b rfl | exact xal_b rfl | (apply And.intro) | decide)) ?_
  try dsimp only [xsto1, xsto2, xkill, xget, xset, gd_0, gd_s]
  refine xG_br rfl (fun h3 => ?_) (fun h3 => ?_)
  · refine xG_run 8 rfl (by repeat' (first | exact trivial | assumption | exact xob_b rfl | exact xal_b rfl | (apply And.intro) | decide)) ?_
    try dsimp only [xsto1, xsto2, xkill, xget, xset, gd_0, gd_s]
    refine xG_run 5 rfl (by repeat' (first | exact trivial | assumption | exact xob_b rfl | exact xal_b rfl | (apply And.intro) | decide)) ?_
    try dsimp only [xsto1, xsto2, xkill, xget, xset, gd_0, gd_s]
    refine xG_br rfl (fun h30 => ?_) (fun h30 => ?_)
    · refine xG_run 8 rfl (by repeat' (first | exact trivial | assumption | exact xob_b rfl | exact xal_b rfl | (apply And.intro) | decide)) ?_
      try dsimp only [xsto1, xsto2, xkill, xget, xset, gd_0, gd_s]
      refine xG_run 5 rfl (by repeat' (first | exact trivial | assumption | exact xob_b rfl | exact xal_b rfl | (apply And.intro) | decide)) ?_
      try dsimp only [xsto1, xsto2, xkill, xget, xset, gd_0, gd_s]
      refine xG_br rfl (fun h62 => ?_) (fun h62 => ?_)
      · refine xG_run 7 rfl (by repeat' (first | exact trivial | assumption | exact xob_b rfl | exact xal_b rfl | (apply And.intro) | decide)) ?_
        try dsimp only [xsto1, xsto2, xkill, xget, xset, gd_0, gd_s]
        refine r2_v rfl rfl ?_
        refine ⟨rfl, ?_⟩
        have hs : (if y < 0 then -y else y) = sgS a b := by rw [hy]; exact sgS_r a b
        first
          | rw [if_neg (Int64.not_lt.mpr ((lg_ge0 _ _).mp h3))] at hs
          | rw [if_pos (Int64.not_le.mp (fun q => h3 ((lg_ge0 _ _).mpr q)))] at hs
        (try rw [hs] at h30)
        (try rw [hs] at h62)
        (try rw [hs])
        first
          | rw [show sgM (gJ M 166 22) (sgS a b) = gJ M 166 22 from if_neg (Int64.not_lt.mpr ((lg_le0 _ _).mp h30))]
          | rw [show sgM (gJ M 166 22) (sgS a b) = sgS a b from if_pos (Int64.not_le.mp (fun q => h30 ((lg_le0 _ _).mpr q)))]
        rw [← sgT_1]
        first
          | (rw [if_neg (Int64.not_lt.mpr ((lg_le0 _ _).mp h62))]; rfl)
          | (rw [if_pos (Int64.not_le.mp (fun q => h62 ((lg_le0 _ _).mpr q)))]; rfl)
      · refine xG_run 4 rfl (by repeat' (first | exact trivial | assumption | exact xob_b rfl | exact xal_b rfl | (apply And.intro) | decide)) ?_
        try dsimp only [xsto1, xsto2, xkill, xget, xset, gd_0, gd_s]
        refine r2_v rfl rfl ?_
        refine ⟨rfl, ?_⟩
        have hs : (if y < 0 then -y else y) = sgS a b := by rw [hy]; exact sgS_r a b
        first
          | rw [if_neg (Int64.not_lt.mpr ((lg_ge0 _ _).mp h3))] at hs
          | rw [if_pos (Int64.not_le.mp (fun q => h3 ((lg_ge0 _ _).mpr q)))] at hs
        (try rw [hs] at h30)
        (try rw [hs] at h62)
        (try rw [hs])
        first
          | rw [show sgM (gJ M 166 22) (sgS a b) = gJ M 166 22 from if_neg (Int64.not_lt.mpr ((lg_le0 _ _).mp h30))]
          | rw [show sgM (gJ M 166 22) (sgS a b) = sgS a b from if_pos (Int64.not_le.mp (fun q => h30 ((lg_le0 _ _).mpr q)))]
        rw [← sgT_1]
        first
          | (rw [if_neg (Int64.not_lt.mpr ((lg_le0 _ _).mp h62))]; rfl)
          | (rw [if_pos (Int64.not_le.mp (fun q => h62 ((lg_le0 _ _).mpr q)))]; rfl)
    · refine xG_run 8 rfl (by repeat' (first | exact trivial | assumption | exact xob_b rfl | exact xal_b rfl | (apply And.intro) | decide)) ?_
      try dsimp only [xsto1, xsto2, xkill, xget, xset, gd_0, gd_s]
      refine xG_run 5 rfl (by repeat' (first | exact trivial | assumption | exact xob_b rfl | exact xal_b rfl | (apply And.intro) | decide)) ?_
      try dsimp only [xsto1, xsto2, xkill, xget, xset, gd_0, gd_s]
      refine xG_br rfl (fun h62 => ?_) (fun h62 => ?_)
      · refine xG_run 7 rfl (by repeat' (first | exact trivial | assumption | exact xob_b rfl | exact xal_b rfl | (apply And.intro) | decide)) ?_
        try dsimp only [xsto1, xsto2, xkill, xget, xset, gd_0, gd_s]
        refine r2_v rfl rfl ?_
        refine ⟨rfl, ?_⟩
        have hs : (if y < 0 then -y else y) = sgS a b := by rw [hy]; exact sgS_r a b
        first
          | rw [if_neg (Int64.not_lt.mpr ((lg_ge0 _ _).mp h3))] at hs
          | rw [if_pos (Int64.not_le.mp (fun q => h3 ((lg_ge0 _ _).mpr q)))] at hs
        (try rw [hs] at h30)
        (try rw [hs] at h62)
        (try rw [hs])
        first
          | rw [show sgM (gJ M 166 22) (sgS a b) = gJ M 166 22 from if_neg (Int64.not_lt.mpr ((lg_le0 _ _).mp h30))]
          | rw [show sgM (gJ M 166 22) (sgS a b) = sgS a b from if_pos (Int64.not_le.mp (fun q => h30 ((lg_le0 _ _).mpr q)))]
        rw [← sgT_1]
        first
          | (rw [if_neg (Int64.not_lt.mpr ((lg_le0 _ _).mp h62))]; rfl)
          | (rw [if_pos (Int64.not_le.mp (fun q => h62 ((lg_le0 _ _).mpr q)))]; rfl)
      · refine xG_run 4 rfl (by repeat' (first | exact trivial | assumption | exact xob_b rfl | exact xal_b rfl | (apply And.intro) | decide)) ?_
        try dsimp only [xsto1, xsto2, xkill, xget, xset, gd_0, gd_s]
        refine r2_v rfl rfl ?_
        refine ⟨rfl, ?_⟩
        have hs : (if y < 0 then -y else y) = sgS a b := by rw [hy]; exact sgS_r a b
        first
          | rw [if_neg (Int64.not_lt.mpr ((lg_ge0 _ _).mp h3))] at hs
          | rw [if_pos (Int64.not_le.mp (fun q => h3 ((lg_ge0 _ _).mpr q)))] at hs
        (try rw [hs] at h30)
        (try rw [hs] at h62)
        (try rw [hs])
        first
          | rw [show sgM (gJ M 166 22) (sgS a b) = gJ M 166 22 from if_neg (Int64.not_lt.mpr ((lg_le0 _ _).mp h30))]
          | rw [show sgM (gJ M 166 22) (sgS a b) = sgS a b from if_pos (Int64.not_le.mp (fun q => h30 ((lg_le0 _ _).mpr q)))]
        rw [← sgT_1]
        first
          | (rw [if_neg (Int64.not_lt.mpr ((lg_le0 _ _).mp h62))]; rfl)
          | (rw [if_pos (Int64.not_le.mp (fun q => h62 ((lg_le0 _ _).mpr q)))]; rfl)
  · refine xG_run 8 rfl (by repeat' (first | exact trivial | assumption | exact xob_b rfl | exact xal_b rfl | (apply And.intro) | decide)) ?_
    try dsimp only [xsto1, xsto2, xkill, xget, xset, gd_0, gd_s]
    refine xG_run 7 rfl (by repeat' (first | exact trivial | assumption | exact xob_b rfl | exact xal_b rfl | (apply And.intro) | decide)) ?_
    try dsimp only [xsto1, xsto2, xkill, xget, xset, gd_0, gd_s]
    refine xG_br rfl (fun h30 => ?_) (fun h30 => ?_)
    · refine xG_run 8 rfl (by repeat' (first | exact trivial | assumption | exact xob_b rfl | exact xal_b rfl | (apply And.intro) | decide)) ?_
      try dsimp only [xsto1, xsto2, xkill, xget, xset, gd_0, gd_s]
      refine xG_run 5 rfl (by repeat' (first | exact trivial | assumption | exact xob_b rfl | exact xal_b rfl | (apply And.intro) | decide)) ?_
      try dsimp only [xsto1, xsto2, xkill, xget, xset, gd_0, gd_s]
      refine xG_br rfl (fun h62 => ?_) (fun h62 => ?_)
      · refine xG_run 7 rfl (by repeat' (first | exact trivial | assumption | exact xob_b rfl | exact xal_b rfl | (apply And.intro) | decide)) ?_
        try dsimp only [xsto1, xsto2, xkill, xget, xset, gd_0, gd_s]
        refine r2_v rfl rfl ?_
        refine ⟨rfl, ?_⟩
        have hs : (if y < 0 then -y else y) = sgS a b := by rw [hy]; exact sgS_r a b
        first
          | rw [if_neg (Int64.not_lt.mpr ((lg_ge0 _ _).mp h3))] at hs
          | rw [if_pos (Int64.not_le.mp (fun q => h3 ((lg_ge0 _ _).mpr q)))] at hs
        (try rw [hs] at h30)
        (try rw [hs] at h62)
        (try rw [hs])
        first
          | rw [show sgM (gJ M 166 22) (sgS a b) = gJ M 166 22 from if_neg (Int64.not_lt.mpr ((lg_le0 _ _).mp h30))]
          | rw [show sgM (gJ M 166 22) (sgS a b) = sgS a b from if_pos (Int64.not_le.mp (fun q => h30 ((lg_le0 _ _).mpr q)))]
        rw [← sgT_1]
        first
          | (rw [if_neg (Int64.not_lt.mpr ((lg_le0 _ _).mp h62))]; rfl)
          | (rw [if_pos (Int64.not_le.mp (fun q => h62 ((lg_le0 _ _).mpr q)))]; rfl)
      · refine xG_run 4 rfl (by repeat' (first | exact trivial | assumption | exact xob_b rfl | exact xal_b rfl | (apply And.intro) | decide)) ?_
        try dsimp only [xsto1, xsto2, xkill, xget, xset, gd_0, gd_s]
        refine r2_v rfl rfl ?_
        refine ⟨rfl, ?_⟩
        have hs : (if y < 0 then -y else y) = sgS a b := by rw [hy]; exact sgS_r a b
        first
          | rw [if_neg (Int64.not_lt.mpr ((lg_ge0 _ _).mp h3))] at hs
          | rw [if_pos (Int64.not_le.mp (fun q => h3 ((lg_ge0 _ _).mpr q)))] at hs
        (try rw [hs] at h30)
        (try rw [hs] at h62)
        (try rw [hs])
        first
          | rw [show sgM (gJ M 166 22) (sgS a b) = gJ M 166 22 from if_neg (Int64.not_lt.mpr ((lg_le0 _ _).mp h30))]
          | rw [show sgM (gJ M 166 22) (sgS a b) = sgS a b from if_pos (Int64.not_le.mp (fun q => h30 ((lg_le0 _ _).mpr q)))]
        rw [← sgT_1]
        first
          | (rw [if_neg (Int64.not_lt.mpr ((lg_le0 _ _).mp h62))]; rfl)
          | (rw [if_pos (Int64.not_le.mp (fun q => h62 ((lg_le0 _ _).mpr q)))]; rfl)
    · refine xG_run 8 rfl (by repeat' (first | exact trivial | assumption | exact xob_b rfl | exact xal_b rfl | (apply And.intro) | decide)) ?_
      try dsimp only [xsto1, xsto2, xkill, xget, xset, gd_0, gd_s]
      refine xG_run 5 rfl (by repeat' (first | exact trivial | assumption | exact xob_b rfl | exact xal_b rfl | (apply And.intro) | decide)) ?_
      try dsimp only [xsto1, xsto2, xkill, xget, xset, gd_0, gd_s]
      refine xG_br rfl (fun h62 => ?_) (fun h62 => ?_)
      · refine xG_run 7 rfl (by repeat' (first | exact trivial | assumption | exact xob_b rfl | exact xal_b rfl | (apply And.intro) | decide)) ?_
        try dsimp only [xsto1, xsto2, xkill, xget, xset, gd_0, gd_s]
        refine r2_v rfl rfl ?_
        refine ⟨rfl, ?_⟩
        have hs : (if y < 0 then -y else y) = sgS a b := by rw [hy]; exact sgS_r a b
        first
          | rw [if_neg (Int64.not_lt.mpr ((lg_ge0 _ _).mp h3))] at hs
          | rw [if_pos (Int64.not_le.mp (fun q => h3 ((lg_ge0 _ _).mpr q)))] at hs
        (try rw [hs] at h30)
        (try rw [hs] at h62)
        (try rw [hs])
        first
          | rw [show sgM (gJ M 166 22) (sgS a b) = gJ M 166 22 from if_neg (Int64.not_lt.mpr ((lg_le0 _ _).mp h30))]
          | rw [show sgM (gJ M 166 22) (sgS a b) = sgS a b from if_pos (Int64.not_le.mp (fun q => h30 ((lg_le0 _ _).mpr q)))]
        rw [← sgT_1]
        first
          | (rw [if_neg (Int64.not_lt.mpr ((lg_le0 _ _).mp h62))]; rfl)
          | (rw [if_pos (Int64.not_le.mp (fun q => h62 ((lg_le0 _ _).mpr q)))]; rfl)
      · refine xG_run 4 rfl (by repeat' (first | exact trivial | assumption | exact xob_b rfl | exact xal_b rfl | (apply And.intro) | decide)) ?_
        try dsimp only [xsto1, xsto2, xkill, xget, xset, gd_0, gd_s]
        refine r2_v rfl rfl ?_
        refine ⟨rfl, ?_⟩
        have hs : (if y < 0 then -y else y) = sgS a b := by rw [hy]; exact sgS_r a b
        first
          | rw [if_neg (Int64.not_lt.mpr ((lg_ge0 _ _).mp h3))] at hs
          | rw [if_pos (Int64.not_le.mp (fun q => h3 ((lg_ge0 _ _).mpr q)))] at hs
        (try rw [hs] at h30)
        (try rw [hs] at h62)
        (try rw [hs])
        first
          | rw [show sgM (gJ M 166 22) (sgS a b) = gJ M 166 22 from if_neg (Int64.not_lt.mpr ((lg_le0 _ _).mp h30))]
          | rw [show sgM (gJ M 166 22) (sgS a b) = sgS a b from if_pos (Int64.not_le.mp (fun q => h30 ((lg_le0 _ _).mpr q)))]
        rw [← sgT_1]
        first
          | (rw [if_neg (Int64.not_lt.mpr ((lg_le0 _ _).mp h62))]; rfl)
          | (rw [if_pos (Int64.not_le.mp (fun q => h62 ((lg_le0 _ _).mpr q)))]; rfl)
set_option maxRecDepth 4000 in
theorem e_measure {κ : xKK} {d : Nat} {M : xM} {j z : Nat} {E : Nat → Int32} (hj : j < 8) (hz : z ≤ 120) (hE9 : ∀ k, gI M (144 + 3 * j) k = E k) (hd : 1 ≤ d) : xE2 κ mX9_measure d [.ref 141, .ref (144 + 3 * j), .int (nI z)] M (fun v M' => v = none ∧ M' = swX M 141 0 1 2 (swR E z)) := by
  refine xE2_of ci_X9_measure cl_X9_measure cw_X9_measure rfl (L := [some (.ref 141), some (.ref (144 + 3 * j)), some (.int (nI z)), none, none, none, none, none, none]) rfl ?_
  have hx0 : z ≠ 0 → xar (144 + 3 * j) 0 182 0 := fun _ => sh_ar hj (k := 0) (by omega)
  have hE0 : gI (sJ (sJ (sI M 141 0 0) 141 1 0) 141 2 0) (144 + 3 * j) (0 : Int32).toNatClampNeg = E 0 := (swM_g (Or.inl (by omega))).trans (hE9 0)
  refine xG_run 8 rfl (by repeat' (first | exact trivial | assumption | exact xob_b rfl | exact xal_b rfl | (apply And.intro) | decide)) ?_
  try dsimp only [xsto1, xsto2, xkill, xget, xset, gd_0, gd_s]
  refine xG_run 2 rfl (by repeat' (first | exact trivial | assumption | exact xob_b rfl | exact xal_b rfl | (apply And.intro) | decide)) ?_
  try dsimp only [xsto1, xsto2, xkill, xget, xset, gd_0, gd_s]
  refine xG_br rfl (fun h16 => ?_) (fun h16 => ?_)
  · have hz0 : z = 0 := Nat.le_zero.mp ((nI_leI (a := z) (b := 0) (by omega) (by omega)).mp h16)
    subst hz0
    refine xG_run 8 rfl (by repeat' (first | exact trivial | assumption | exact xob_b rfl | exact xal_b rfl | (apply And.intro) | decide)) ?_
    try dsimp only [xsto1, xsto2, xkill, xget, xset, gd_0, gd_s]
    refine xG_run 2 rfl (by repeat' (first | exact trivial | assumption | exact xob_b rfl | exact xal_b rfl | (apply And.intro) | decide)) ?_
    try dsimp only [xsto1, xsto2, xkill, xget, xset, gd_0, gd_s]
    refine xG_brT rfl (show nI 0 ≤ (1 : Int32) from by decide) ?_
    refine xG_run 1 rfl (by repeat' (first | exact trivial | assumption | exact xob_b rfl | exact xal_b rfl | (apply And.intro) | decide)) ?_
    try dsimp only [xsto1, xsto2, xkill, xget, xset, gd_0, gd_s]
    refine xG_brT rfl (rfl) ?_
    refine r2_v rfl rfl ?_
    exact ⟨rfl, rfl⟩
  · have hz0 : z ≠ 0 := fun q => h16 (by rw [q]; exact Int32.le_refl _)
    have hx0 := hx0 hz0
    refine xG_run 8 rfl (by repeat' (first | exact trivial | assumption | exact xob_b rfl | exact xal_b rfl | (apply And.intro) | decide)) ?_
    try dsimp only [xsto1, xsto2, xkill, xget, xset, gd_0, gd_s]
    refine xG_run 3 rfl (by repeat' (first | exact trivial | assumption | exact xob_b rfl | exact xal_b rfl | (apply And.intro) | decide)) ?_
    try dsimp only [xsto1, xsto2, xkill, xget, xset, gd_0, gd_s]
    have lp := xG_upP (κ := κ) (m := mX9_measure) (r := (d, 0, 0)) (YS := xRet mX9_measure false (fun v M' n' => n' = 182 ∧ (v = none ∧ M' = swX M 141 0 1 2 (swR E z)))) (fun k X => ∃ x7 x8 : Option Value, X = (36, [some (.ref 141), some (.ref (144 + 3 * j)), some (.int (nI z)), some (.int (sw E k).2.2.2.2.1), some (.int (sw E k).2.2.2.1), some (.int (sw E k).2.2.2.2.2), some (.int (nI (k + 1))), x7, x8], [], swM M 141 0 1 2 (sw E k).1 (sw E k).2.1 (sw E k).2.2.1, z2)) (z - 1) ?_ ?_ 0 (by omega)
    · exact lp _ ⟨none, none, by rw [hE0]; rfl⟩
    · rintro k X hk ⟨x7, x8, rfl⟩ ih
      have hk1 : (nI (k + 1)).toNatClampNeg = k + 1 := nI_cl (by omega)
      have hE : ∀ f g t, gI (swM M 141 0 1 2 f g t) (144 + 3 * j) (nI (k + 1)).toNatClampNeg = E (k + 1) := fun f g t => by rw [hk1]; exact (swM_g (Or.inl (by omega))).trans (hE9 _)
      have hs := sh_ar hj (k := k + 1) (by omega)
      refine xG_run 2 rfl (by repeat' (first | exact trivial | assumption | exact xob_b rfl | exact xal_b rfl | (apply And.intro) | decide)) ?_
      try dsimp only [xsto1, xsto2, xkill, xget, xset, gd_0, gd_s]
      refine xG_brF rfl (nI_ge (show k + 1 < z by omega) (by omega)) ?_
      refine xG_run 3 rfl (by repeat' (first | exact trivial | assumption | exact xob_b rfl | exact xal_b rfl | (apply And.intro) | decide)) ?_
      try dsimp only [xsto1, xsto2, xkill, xget, xset, gd_0, gd_s]
      rw [hE]
      refine xG_run 3 rfl (by repeat' (first | exact trivial | assumption | exact xob_b rfl | exact xal_b rfl | (apply And.intro) | decide)) ?_
      try dsimp only [xsto1, xsto2, xkill, xget, xset, gd_0, gd_s]
      refine xG_br rfl (fun h51 => ?_) (fun h51 => ?_)
      · refine xG_run 2 rfl (by repeat' (first | exact trivial | assumption | exact xob_b rfl | exact xal_b rfl | (apply And.intro) | decide)) ?_
        try dsimp only [xsto1, xsto2, xkill, xget, xset, gd_0, gd_s]
        refine xG_br rfl (fun h60 => ?_) (fun h60 => ?_)
        · refine xG_run 3 rfl (by repeat' (first | exact trivial | assumption | exact xob_b rfl | exact xal_b rfl | (apply And.intro) | decide)) ?_
          try dsimp only [xsto1, xsto2, xkill, xget, xset, gd_0, gd_s]
          refine xG_br rfl (fun h72 => ?_) (fun h72 => ?_)
          · refine xG_run 6 rfl (by repeat' (first | exact trivial | assumption | exact xob_b rfl | exact xal_b rfl | (apply And.intro) | decide)) ?_
            try dsimp only [xsto1, xsto2, xkill, xget, xset, gd_0, gd_s]
            first
              | exact ih _ ⟨_, _, by rw [nI_1, sw_eq (E := E) (k := k) (Decidable.not_not.mp h51)]⟩
              | exact ih _ ⟨_, _, by rw [nI_1, sw_eq (E := E) (k := k) h51]⟩
              | exact ih _ ⟨_, _, by rw [nI_1, sw_ad (E := E) (k := k) h51 (by first | exact if_pos (i_nle h60) | exact if_neg (i_nlt h60)) h72 h79]⟩
              | exact ih _ ⟨_, _, by rw [nI_1, sw_no (E := E) (k := k) h51 (by first | exact if_pos (i_nle h60) | exact if_neg (i_nlt h60)) (by first | exact Or.inl h72 | exact Or.inl (Decidable.not_not.mp h72) | exact Or.inr h79 | exact Or.inr (Decidable.not_not.mp h79))]⟩
          · refine xG_run 2 rfl (by repeat' (first | exact trivial | assumption | exact xob_b rfl | exact xal_b rfl | (apply And.intro) | decide)) ?_
            try dsimp only [xsto1, xsto2, xkill, xget, xset, gd_0, gd_s]
            refine xG_br rfl (fun h79 => ?_) (fun h79 => ?_)
            · refine xG_run 6 rfl (by repeat' (first | exact trivial | assumption | exact xob_b rfl | exact xal_b rfl | (apply And.intro) | decide)) ?_
              try dsimp only [xsto1, xsto2, xkill, xget, xset, gd_0, gd_s]
              first
                | exact ih _ ⟨_, _, by rw [nI_1, sw_eq (E := E) (k := k) (Decidable.not_not.mp h51)]⟩
                | exact ih _ ⟨_, _, by rw [nI_1, sw_eq (E := E) (k := k) h51]⟩
                | exact ih _ ⟨_, _, by rw [nI_1, sw_ad (E := E) (k := k) h51 (by first | exact if_pos (i_nle h60) | exact if_neg (i_nlt h60)) h72 h79]⟩
                | exact ih _ ⟨_, _, by rw [nI_1, sw_no (E := E) (k := k) h51 (by first | exact if_pos (i_nle h60) | exact if_neg (i_nlt h60)) (by first | exact Or.inl h72 | exact Or.inl (Decidable.not_not.mp h72) | exact Or.inr h79 | exact Or.inr (Decidable.not_not.mp h79))]⟩
            · refine xG_run 3 rfl (by repeat' (first | exact trivial | assumption | exact xob_b rfl | exact xal_b rfl | (apply And.intro) | decide)) ?_
              try dsimp only [xsto1, xsto2, xkill, xget, xset, gd_0, gd_s]
              refine xG_c2 2 rfl (by repeat' (first | exact trivial | assumption | exact xob_b rfl | exact xal_b rfl | (apply And.intro) | decide)) rfl rfl (by decide) cw_X9_add (d' := d - 1) e_sadd (by omega) ?_
              rintro v M' ⟨rfl, hM⟩
              subst M'
              dsimp only [Option.toList, List.cons_append, List.nil_append]
              rw [swM_f, swM_gg (by decide), swM_t, swM_w (by decide)]
              refine xG_run 8 rfl (by repeat' (first | exact trivial | assumption | exact xob_b rfl | exact xal_b rfl | (apply And.intro) | decide)) ?_
              try dsimp only [xsto1, xsto2, xkill, xget, xset, gd_0, gd_s]
              first
                | exact ih _ ⟨_, _, by rw [nI_1, sw_eq (E := E) (k := k) (Decidable.not_not.mp h51)]⟩
                | exact ih _ ⟨_, _, by rw [nI_1, sw_eq (E := E) (k := k) h51]⟩
                | exact ih _ ⟨_, _, by rw [nI_1, sw_ad (E := E) (k := k) h51 (by first | exact if_pos (i_nle h60) | exact if_neg (i_nlt h60)) h72 h79]⟩
                | exact ih _ ⟨_, _, by rw [nI_1, sw_no (E := E) (k := k) h51 (by first | exact if_pos (i_nle h60) | exact if_neg (i_nlt h60)) (by first | exact Or.inl h72 | exact Or.inl (Decidable.not_not.mp h72) | exact Or.inr h79 | exact Or.inr (Decidable.not_not.mp h79))]⟩
        · refine xG_run 4 rfl (by repeat' (first | exact trivial | assumption | exact xob_b rfl | exact xal_b rfl | (apply And.intro) | decide)) ?_
          try dsimp only [xsto1, xsto2, xkill, xget, xset, gd_0, gd_s]
          refine xG_br rfl (fun h72 => ?_) (fun h72 => ?_)
          · refine xG_run 6 rfl (by repeat' (first | exact trivial | assumption | exact xob_b rfl | exact xal_b rfl | (apply And.intro) | decide)) ?_
            try dsimp only [xsto1, xsto2, xkill, xget, xset, gd_0, gd_s]
            first
              | exact ih _ ⟨_, _, by rw [nI_1, sw_eq (E := E) (k := k) (Decidable.not_not.mp h51)]⟩
              | exact ih _ ⟨_, _, by rw [nI_1, sw_eq (E := E) (k := k) h51]⟩
              | exact ih _ ⟨_, _, by rw [nI_1, sw_ad (E := E) (k := k) h51 (by first | exact if_pos (i_nle h60) | exact if_neg (i_nlt h60)) h72 h79]⟩
              | exact ih _ ⟨_, _, by rw [nI_1, sw_no (E := E) (k := k) h51 (by first | exact if_pos (i_nle h60) | exact if_neg (i_nlt h60)) (by first | exact Or.inl h72 | exact Or.inl (Decidable.not_not.mp h72) | exact Or.inr h79 | exact Or.inr (Decidable.not_not.mp h79))]⟩
          · refine xG_run 2 rfl (by repeat' (first | exact trivial | assumption | exact xob_b rfl | exact xal_b rfl | (apply And.intro) | decide)) ?_
            try dsimp only [xsto1, xsto2, xkill, xget, xset, gd_0, gd_s]
            refine xG_br rfl (fun h79 => ?_) (fun h79 => ?_)
            · refine xG_run 6 rfl (by repeat' (first | exact trivial | assumption | exact xob_b rfl | exact xal_b rfl | (apply And.intro) | decide)) ?_
              try dsimp only [xsto1, xsto2, xkill, xget, xset, gd_0, gd_s]
              first
                | exact ih _ ⟨_, _, by rw [nI_1, sw_eq (E := E) (k := k) (Decidable.not_not.mp h51)]⟩
                | exact ih _ ⟨_, _, by rw [nI_1, sw_eq (E := E) (k := k) h51]⟩
                | exact ih _ ⟨_, _, by rw [nI_1, sw_ad (E := E) (k := k) h51 (by first | exact if_pos (i_nle h60) | exact if_neg (i_nlt h60)) h72 h79]⟩
                | exact ih _ ⟨_, _, by rw [nI_1, sw_no (E := E) (k := k) h51 (by first | exact if_pos (i_nle h60) | exact if_neg (i_nlt h60)) (by first | exact Or.inl h72 | exact Or.inl (Decidable.not_not.mp h72) | exact Or.inr h79 | exact Or.inr (Decidable.not_not.mp h79))]⟩
            · refine xG_run 3 rfl (by repeat' (first | exact trivial | assumption | exact xob_b rfl | exact xal_b rfl | (apply And.intro) | decide)) ?_
              try dsimp only [xsto1, xsto2, xkill, xget, xset, gd_0, gd_s]
              refine xG_c2 2 rfl (by repeat' (first | exact trivial | assumption | exact xob_b rfl | exact xal_b rfl | (apply And.intro) | decide)) rfl rfl (by decide) cw_X9_add (d' := d - 1) e_sadd (by omega) ?_
              rintro v M' ⟨rfl, hM⟩
              subst M'
              dsimp only [Option.toList, List.cons_append, List.nil_append]
              rw [swM_f, swM_gg (by decide), swM_t, swM_w (by decide)]
              refine xG_run 8 rfl (by repeat' (first | exact trivial | assumption | exact xob_b rfl | exact xal_b rfl | (apply And.intro) | decide)) ?_
              try dsimp only [xsto1, xsto2, xkill, xget, xset, gd_0, gd_s]
              first
                | exact ih _ ⟨_, _, by rw [nI_1, sw_eq (E := E) (k := k) (Decidable.not_not.mp h51)]⟩
                | exact ih _ ⟨_, _, by rw [nI_1, sw_eq (E := E) (k := k) h51]⟩
                | exact ih _ ⟨_, _, by rw [nI_1, sw_ad (E := E) (k := k) h51 (by first | exact if_pos (i_nle h60) | exact if_neg (i_nlt h60)) h72 h79]⟩
                | exact ih _ ⟨_, _, by rw [nI_1, sw_no (E := E) (k := k) h51 (by first | exact if_pos (i_nle h60) | exact if_neg (i_nlt h60)) (by first | exact Or.inl h72 | exact Or.inl (Decidable.not_not.mp h72) | exact Or.inr h79 | exact Or.inr (Decidable.not_not.mp h79))]⟩
      · refine xG_run 3 rfl (by repeat' (first | exact trivial | assumption | exact xob_b rfl | exact xal_b rfl | (apply And.intro) | decide)) ?_
        try dsimp only [xsto1, xsto2, xkill, xget, xset, gd_0, gd_s]
        first
          | exact ih _ ⟨_, _, by rw [nI_1, sw_eq (E := E) (k := k) (Decidable.not_not.mp h51)]⟩
          | exact ih _ ⟨_, _, by rw [nI_1, sw_eq (E := E) (k := k) h51]⟩
          | exact ih _ ⟨_, _, by rw [nI_1, sw_ad (E := E) (k := k) h51 (by first | exact if_pos (i_nle h60) | exact if_neg (i_nlt h60)) h72 h79]⟩
          | exact ih _ ⟨_, _, by rw [nI_1, sw_no (E := E) (k := k) h51 (by first | exact if_pos (i_nle h60) | exact if_neg (i_nlt h60)) (by first | exact Or.inl h72 | exact Or.inl (Decidable.not_not.mp h72) | exact Or.inr h79 | exact Or.inr (Decidable.not_not.mp h79))]⟩
    · rintro X ⟨x7, x8, rfl⟩
      refine xG_run 2 rfl (by repeat' (first | exact trivial | assumption | exact xob_b rfl | exact xal_b rfl | (apply And.intro) | decide)) ?_
      try dsimp only [xsto1, xsto2, xkill, xget, xset, gd_0, gd_s]
      refine xG_brT rfl (by rw [show z - 1 + 1 = z by omega]; exact Int32.le_refl _) ?_
      refine xG_run 1 rfl (by repeat' (first | exact trivial | assumption | exact xob_b rfl | exact xal_b rfl | (apply And.intro) | decide)) ?_
      try dsimp only [xsto1, xsto2, xkill, xget, xset, gd_0, gd_s]
      refine xG_br rfl (fun h107 => ?_) (fun h107 => ?_)
      · refine r2_v rfl rfl ?_
        refine ⟨rfl, ?_⟩
        unfold swX swR swF
        rw [if_neg (show ¬ z = 0 by omega)]
        first
          | (rw [if_pos h107]; done)
          | (rw [if_pos (Decidable.not_not.mp h107)]; done)
          | (rw [if_neg h107]; done)
      · refine xG_run 3 rfl (by repeat' (first | exact trivial | assumption | exact xob_b rfl | exact xal_b rfl | (apply And.intro) | decide)) ?_
        try dsimp only [xsto1, xsto2, xkill, xget, xset, gd_0, gd_s]
        refine xG_c2 2 rfl (by repeat' (first | exact trivial | assumption | exact xob_b rfl | exact xal_b rfl | (apply And.intro) | decide)) rfl rfl (by decide) cw_X9_add (d' := d - 1) e_sadd (by omega) ?_
        rintro v M' ⟨rfl, hM⟩
        subst M'
        dsimp only [Option.toList, List.cons_append, List.nil_append]
        rw [swM_f, swM_gg (by decide), swM_t, swM_w (by decide)]
        refine r2_v rfl rfl ?_
        refine ⟨rfl, ?_⟩
        unfold swX swR swF
        rw [if_neg (show ¬ z = 0 by omega)]
        first
          | (rw [if_pos h107]; done)
          | (rw [if_pos (Decidable.not_not.mp h107)]; done)
          | (rw [if_neg h107]; done)
def swV (w : Int32) (r : Int32 × Int64 × Int64) : Int64 := if w = 0 then r.1.toInt64 else if w = 1 then (if 2147483647 < r.2.1 then 2147483647 else r.2.1) else r.2.2
def swY (q : Int32) (t : Int64) : Int32 := (if 1000000 < (q.toInt64 + t - 1) / t then 1000000 else (q.toInt64 + t - 1) / t).toInt32
set_option maxRecDepth 4000 in
theorem e_x_swings {κ : xKK} {d : Nat} {M : xM} (hz : ∀ j, j < 8 → ∃ z, z ≤ 120 ∧ gI M (142 + 3 * j) 3 = nI z) {i w : Int32} (hd : 2 ≤ d) : xE2 κ mX11_swings d [.ref 0, .int i, .int w] M (fun v M' => (∃ j, j < 8 ∧ i = nI j ∧ (0 ≤ w ∧ w ≤ 2) ∧ ((cRR M j 2 = 0 ∧ v = some (.long (swV w (swR (gI M (144 + 3 * j)) (gI M (142 + 3 * j) 3).toNatClampNeg))) ∧ M' = swX M 141 0 1 2 (swR (gI M (144 + 3 * j)) (gI M (142 + 3 * j) 3).toNatClampNeg)) ∨ (¬ cRR M j 2 = 0 ∧ v = some (.long (cRR M j 2).toInt64) ∧ M' = M))) ∨ (¬ ((∃ j, j < 8 ∧ i = nI j) ∧ 0 ≤ w ∧ w ≤ 2) ∧ v = some (.long (-1)) ∧ M' = M)) := by
  refine xE2_of ci_X11_swings cl_X11_swings cw_X11_swings rfl (L := [some (.ref 0), some (.int i), some (.int w), none, none]) rfl ?_
  refine xG_run 2 rfl (by repeat' (first | exact trivial | assumption | exact xob_b rfl | exact xal_b rfl | (apply And.intro) | decide)) ?_
  try dsimp only [xsto1, xsto2, xkill, xget, xset, gd_0, gd_s]
  refine xG_c2 1 rfl (by repeat' (first | exact trivial | assumption | exact xob_b rfl | exact xal_b rfl | (apply And.intro) | decide)) rfl rfl (by decide) cw_X11_shelfAt (d' := d - 1) e_shelfAt (by omega) ?_
  rintro v M' ⟨hv, hM⟩
  subst M'
  rcases hv with ⟨rfl, hno⟩ | ⟨j, hj, hij, rfl⟩
  · dsimp only [Option.toList, List.cons_append, List.nil_append]
    refine xG_run 2 rfl (by repeat' (first | exact trivial | assumption | exact xob_b rfl | exact xal_b rfl | (apply And.intro) | decide)) ?_
    try dsimp only [xsto1, xsto2, xkill, xget, xset, gd_0, gd_s]
    refine xG_br rfl (fun h7 => ?_) (fun h7 => ?_)
    · refine xG_run 7 rfl (by repeat' (first | exact trivial | assumption | exact xob_b rfl | exact xal_b rfl | (apply And.intro) | decide)) ?_
      try dsimp only [xsto1, xsto2, xkill, xget, xset, gd_0, gd_s]
      refine r2_l rfl rfl ?_
      first
        | (refine Or.inr ⟨?_, rfl, rfl⟩
           rintro ⟨⟨j9, a1, a2⟩, a3, a4⟩
           first
             | exact i_nlt a3 h7
             | exact h12 a4
             | exact hno (by rw [a2]; exact inI a1 (by omega)))
        | exact Or.inl ⟨j, hj, hij, ⟨Int32.not_lt.mp h7, h12⟩, Or.inr ⟨h33, rfl, rfl⟩⟩
        | (refine Or.inl ⟨j, hj, hij, ⟨Int32.not_lt.mp h7, h12⟩, Or.inl ⟨by first | exact h33 | exact Decidable.not_not.mp h33, ?_, by rw [ez]⟩⟩
           rw [ez]
           unfold swV
           first
             | (rw [if_pos (Decidable.not_not.mp h56)]; rfl)
             | (rw [if_neg h56, if_pos (Decidable.not_not.mp h70)]; rfl)
             | (rw [if_neg h56, if_neg h70]; rfl))
    · refine xG_run 2 rfl (by repeat' (first | exact trivial | assumption | exact xob_b rfl | exact xal_b rfl | (apply And.intro) | decide)) ?_
      try dsimp only [xsto1, xsto2, xkill, xget, xset, gd_0, gd_s]
      refine xG_br rfl (fun h12 => ?_) (fun h12 => ?_)
      · refine xG_run 3 rfl (by repeat' (first | exact trivial | assumption | exact xob_b rfl | exact xal_b rfl | (apply And.intro) | decide)) ?_
        try dsimp only [xsto1, xsto2, xkill, xget, xset, gd_0, gd_s]
        refine xG_c2 2 rfl (by repeat' (first | exact trivial | assumption | exact xob_b rfl | exact xal_b rfl | (apply And.intro) | decide)) rfl rfl (by decide) cw_X11_rowRefusal (d' := d - 1) e_rowRef0 (by omega) ?_
        rintro v M' ⟨rfl, hM⟩
        subst M'
        dsimp only [Option.toList, List.cons_append, List.nil_append]
        refine xG_run 5 rfl (by repeat' (first | exact trivial | assumption | exact xob_b rfl | exact xal_b rfl | (apply And.intro) | decide)) ?_
        try dsimp only [xsto1, xsto2, xkill, xget, xset, gd_0, gd_s]
        refine r2_l rfl rfl ?_
        first
          | (refine Or.inr ⟨?_, rfl, rfl⟩
             rintro ⟨⟨j9, a1, a2⟩, a3, a4⟩
             first
               | exact i_nlt a3 h7
               | exact h12 a4
               | exact hno (by rw [a2]; exact inI a1 (by omega)))
          | exact Or.inl ⟨j, hj, hij, ⟨Int32.not_lt.mp h7, h12⟩, Or.inr ⟨h33, rfl, rfl⟩⟩
          | (refine Or.inl ⟨j, hj, hij, ⟨Int32.not_lt.mp h7, h12⟩, Or.inl ⟨by first | exact h33 | exact Decidable.not_not.mp h33, ?_, by rw [ez]⟩⟩
             rw [ez]
             unfold swV
             first
               | (rw [if_pos (Decidable.not_not.mp h56)]; rfl)
               | (rw [if_neg h56, if_pos (Decidable.not_not.mp h70)]; rfl)
               | (rw [if_neg h56, if_neg h70]; rfl))
      · refine xG_run 7 rfl (by repeat' (first | exact trivial | assumption | exact xob_b rfl | exact xal_b rfl | (apply And.intro) | decide)) ?_
        try dsimp only [xsto1, xsto2, xkill, xget, xset, gd_0, gd_s]
        refine r2_l rfl rfl ?_
        first
          | (refine Or.inr ⟨?_, rfl, rfl⟩
             rintro ⟨⟨j9, a1, a2⟩, a3, a4⟩
             first
               | exact i_nlt a3 h7
               | exact h12 a4
               | exact hno (by rw [a2]; exact inI a1 (by omega)))
          | exact Or.inl ⟨j, hj, hij, ⟨Int32.not_lt.mp h7, h12⟩, Or.inr ⟨h33, rfl, rfl⟩⟩
          | (refine Or.inl ⟨j, hj, hij, ⟨Int32.not_lt.mp h7, h12⟩, Or.inl ⟨by first | exact h33 | exact Decidable.not_not.mp h33, ?_, by rw [ez]⟩⟩
             rw [ez]
             unfold swV
             first
               | (rw [if_pos (Decidable.not_not.mp h56)]; rfl)
               | (rw [if_neg h56, if_pos (Decidable.not_not.mp h70)]; rfl)
               | (rw [if_neg h56, if_neg h70]; rfl))
  · dsimp only [Option.toList, List.cons_append, List.nil_append]
    have hxj : xob (142 + 3 * j) 8 182 := xob_sh hj
    have hspj : xob (143 + 3 * j) 3 182 := xob_sp hj
    obtain ⟨z, hz1, hz2⟩ := hz j hj
    have ez : (gI M (142 + 3 * j) 3).toNatClampNeg = z := by rw [hz2]; exact nI_cl (by omega)
    refine xG_run 2 rfl (by repeat' (first | exact trivial | assumption | exact xob_b rfl | exact xal_b rfl | (apply And.intro) | decide)) ?_
    try dsimp only [xsto1, xsto2, xkill, xget, xset, gd_0, gd_s]
    refine xG_br rfl (fun h7 => ?_) (fun h7 => ?_)
    · refine xG_run 6 rfl (by repeat' (first | exact trivial | assumption | exact xob_b rfl | exact xal_b rfl | (apply And.intro) | decide)) ?_
      try dsimp only [xsto1, xsto2, xkill, xget, xset, gd_0, gd_s]
      refine xG_br rfl (fun h33 => ?_) (fun h33 => ?_)
      · first
          | (exfalso; first | exact absurd h33 (by decide) | exact h33 (by decide))
          | (refine xG_run 4 rfl (by repeat' (first | exact trivial | assumption | exact xob_b rfl | exact xal_b rfl | (apply And.intro) | decide)) ?_
             try dsimp only [xsto1, xsto2, xkill, xget, xset, gd_0, gd_s]
             rw [sh_el hj]
             refine xG_run 2 rfl (by repeat' (first | exact trivial | assumption | exact xob_b rfl | exact xal_b rfl | (apply And.intro) | decide)) ?_
             try dsimp only [xsto1, xsto2, xkill, xget, xset, gd_0, gd_s]
             rw [hz2]
             refine xG_c2 2 rfl (by repeat' (first | exact trivial | assumption | exact xob_b rfl | exact xal_b rfl | (apply And.intro) | decide)) rfl rfl (by decide) cw_X9_measure (d' := d - 1) (e_measure (E := gI M (144 + 3 * j)) hj hz1 (fun _ => rfl) (by omega)) (by omega) ?_
             rintro v M' ⟨rfl, hM⟩
             subst M'
             dsimp only [Option.toList, List.cons_append, List.nil_append]
             refine xG_run 1 rfl (by repeat' (first | exact trivial | assumption | exact xob_b rfl | exact xal_b rfl | (apply And.intro) | decide)) ?_
             try dsimp only [xsto1, xsto2, xkill, xget, xset, gd_0, gd_s]
             refine xG_br rfl (fun h56 => ?_) (fun h56 => ?_)
             · refine xG_run 2 rfl (by repeat' (first | exact trivial | assumption | exact xob_b rfl | exact xal_b rfl | (apply And.intro) | decide)) ?_
               try dsimp only [xsto1, xsto2, xkill, xget, xset, gd_0, gd_s]
               refine xG_br rfl (fun h70 => ?_) (fun h70 => ?_)
               · refine xG_run 3 rfl (by repeat' (first | exact trivial | assumption | exact xob_b rfl | exact xal_b rfl | (apply And.intro) | decide)) ?_
                 try dsimp only [xsto1, xsto2, xkill, xget, xset, gd_0, gd_s]
                 refine r2_l rfl rfl ?_
                 first
                   | (refine Or.inr ⟨?_, rfl, rfl⟩
                      rintro ⟨⟨j9, a1, a2⟩, a3, a4⟩
                      first
                        | exact i_nlt a3 h7
                        | exact h12 a4
                        | exact hno (by rw [a2]; exact inI a1 (by omega)))
                   | exact Or.inl ⟨j, hj, hij, ⟨Int32.not_lt.mp h7, h12⟩, Or.inr ⟨h33, rfl, rfl⟩⟩
                   | (refine Or.inl ⟨j, hj, hij, ⟨Int32.not_lt.mp h7, h12⟩, Or.inl ⟨by first | exact h33 | exact Decidable.not_not.mp h33, ?_, by rw [ez]⟩⟩
                      rw [ez]
                      unfold swV
                      first
                        | (rw [if_pos (Decidable.not_not.mp h56)]; rfl)
                        | (rw [if_neg h56, if_pos (Decidable.not_not.mp h70)]; rfl)
                        | (rw [if_neg h56, if_neg h70]; rfl))
               · refine xG_run 6 rfl (by repeat' (first | exact trivial | assumption | exact xob_b rfl | exact xal_b rfl | (apply And.intro) | decide)) ?_
                 try dsimp only [xsto1, xsto2, xkill, xget, xset, gd_0, gd_s]
                 refine r2_l rfl rfl ?_
                 first
                   | (refine Or.inr ⟨?_, rfl, rfl⟩
                      rintro ⟨⟨j9, a1, a2⟩, a3, a4⟩
                      first
                        | exact i_nlt a3 h7
                        | exact h12 a4
                        | exact hno (by rw [a2]; exact inI a1 (by omega)))
                   | exact Or.inl ⟨j, hj, hij, ⟨Int32.not_lt.mp h7, h12⟩, Or.inr ⟨h33, rfl, rfl⟩⟩
                   | (refine Or.inl ⟨j, hj, hij, ⟨Int32.not_lt.mp h7, h12⟩, Or.inl ⟨by first | exact h33 | exact Decidable.not_not.mp h33, ?_, by rw [ez]⟩⟩
                      rw [ez]
                      unfold swV
                      first
                        | (rw [if_pos (Decidable.not_not.mp h56)]; rfl)
                        | (rw [if_neg h56, if_pos (Decidable.not_not.mp h70)]; rfl)
                        | (rw [if_neg h56, if_neg h70]; rfl))
             · refine xG_run 4 rfl (by repeat' (first | exact trivial | assumption | exact xob_b rfl | exact xal_b rfl | (apply And.intro) | decide)) ?_
               try dsimp only [xsto1, xsto2, xkill, xget, xset, gd_0, gd_s]
               refine r2_l rfl rfl ?_
               first
                 | (refine Or.inr ⟨?_, rfl, rfl⟩
                    rintro ⟨⟨j9, a1, a2⟩, a3, a4⟩
                    first
                      | exact i_nlt a3 h7
                      | exact h12 a4
                      | exact hno (by rw [a2]; exact inI a1 (by omega)))
                 | exact Or.inl ⟨j, hj, hij, ⟨Int32.not_lt.mp h7, h12⟩, Or.inr ⟨h33, rfl, rfl⟩⟩
                 | (refine Or.inl ⟨j, hj, hij, ⟨Int32.not_lt.mp h7, h12⟩, Or.inl ⟨by first | exact h33 | exact Decidable.not_not.mp h33, ?_, by rw [ez]⟩⟩
                    rw [ez]
                    unfold swV
                    first
                      | (rw [if_pos (Decidable.not_not.mp h56)]; rfl)
                      | (rw [if_neg h56, if_pos (Decidable.not_not.mp h70)]; rfl)
                      | (rw [if_neg h56, if_neg h70]; rfl)))
      · first
          | (exfalso; first | exact absurd h33 (by decide) | exact h33 (by decide))
          | (refine xG_run 2 rfl (by repeat' (first | exact trivial | assumption | exact xob_b rfl | exact xal_b rfl | (apply And.intro) | decide)) ?_
             try dsimp only [xsto1, xsto2, xkill, xget, xset, gd_0, gd_s]
             refine r2_l rfl rfl ?_
             first
               | (refine Or.inr ⟨?_, rfl, rfl⟩
                  rintro ⟨⟨j9, a1, a2⟩, a3, a4⟩
                  first
                    | exact i_nlt a3 h7
                    | exact h12 a4
                    | exact hno (by rw [a2]; exact inI a1 (by omega)))
               | exact Or.inl ⟨j, hj, hij, ⟨Int32.not_lt.mp h7, h12⟩, Or.inr ⟨h33, rfl, rfl⟩⟩
               | (refine Or.inl ⟨j, hj, hij, ⟨Int32.not_lt.mp h7, h12⟩, Or.inl ⟨by first | exact h33 | exact Decidable.not_not.mp h33, ?_, by rw [ez]⟩⟩
                  rw [ez]
                  unfold swV
                  first
                    | (rw [if_pos (Decidable.not_not.mp h56)]; rfl)
                    | (rw [if_neg h56, if_pos (Decidable.not_not.mp h70)]; rfl)
                    | (rw [if_neg h56, if_neg h70]; rfl)))
    · refine xG_run 2 rfl (by repeat' (first | exact trivial | assumption | exact xob_b rfl | exact xal_b rfl | (apply And.intro) | decide)) ?_
      try dsimp only [xsto1, xsto2, xkill, xget, xset, gd_0, gd_s]
      refine xG_br rfl (fun h12 => ?_) (fun h12 => ?_)
      · refine xG_run 3 rfl (by repeat' (first | exact trivial | assumption | exact xob_b rfl | exact xal_b rfl | (apply And.intro) | decide)) ?_
        try dsimp only [xsto1, xsto2, xkill, xget, xset, gd_0, gd_s]
        refine xG_c2 2 rfl (by repeat' (first | exact trivial | assumption | exact xob_b rfl | exact xal_b rfl | (apply And.intro) | decide)) rfl rfl (by decide) cw_X11_rowRefusal (d' := d - 1) (e_rowRef1 hj) (by omega) ?_
        rintro v M' ⟨rfl, hM⟩
        subst M'
        dsimp only [Option.toList, List.cons_append, List.nil_append]
        refine xG_run 4 rfl (by repeat' (first | exact trivial | assumption | exact xob_b rfl | exact xal_b rfl | (apply And.intro) | decide)) ?_
        try dsimp only [xsto1, xsto2, xkill, xget, xset, gd_0, gd_s]
        refine xG_br rfl (fun h33 => ?_) (fun h33 => ?_)
        · first
            | (exfalso; first | exact absurd h33 (by decide) | exact h33 (by decide))
            | (refine xG_run 4 rfl (by repeat' (first | exact trivial | assumption | exact xob_b rfl | exact xal_b rfl | (apply And.intro) | decide)) ?_
               try dsimp only [xsto1, xsto2, xkill, xget, xset, gd_0, gd_s]
               rw [sh_el hj]
               refine xG_run 2 rfl (by repeat' (first | exact trivial | assumption | exact xob_b rfl | exact xal_b rfl | (apply And.intro) | decide)) ?_
               try dsimp only [xsto1, xsto2, xkill, xget, xset, gd_0, gd_s]
               rw [hz2]
               refine xG_c2 2 rfl (by repeat' (first | exact trivial | assumption | exact xob_b rfl | exact xal_b rfl | (apply And.intro) | decide)) rfl rfl (by decide) cw_X9_measure (d' := d - 1) (e_measure (E := gI M (144 + 3 * j)) hj hz1 (fun _ => rfl) (by omega)) (by omega) ?_
               rintro v M' ⟨rfl, hM⟩
               subst M'
               dsimp only [Option.toList, List.cons_append, List.nil_append]
               refine xG_run 1 rfl (by repeat' (first | exact trivial | assumption | exact xob_b rfl | exact xal_b rfl | (apply And.intro) | decide)) ?_
               try dsimp only [xsto1, xsto2, xkill, xget, xset, gd_0, gd_s]
               refine xG_br rfl (fun h56 => ?_) (fun h56 => ?_)
               · refine xG_run 2 rfl (by repeat' (first | exact trivial | assumption | exact xob_b rfl | exact xal_b rfl | (apply And.intro) | decide)) ?_
                 try dsimp only [xsto1, xsto2, xkill, xget, xset, gd_0, gd_s]
                 refine xG_br rfl (fun h70 => ?_) (fun h70 => ?_)
                 · refine xG_run 3 rfl (by repeat' (first | exact trivial | assumption | exact xob_b rfl | exact xal_b rfl | (apply And.intro) | decide)) ?_
                   try dsimp only [xsto1, xsto2, xkill, xget, xset, gd_0, gd_s]
                   refine r2_l rfl rfl ?_
                   first
                     | (refine Or.inr ⟨?_, rfl, rfl⟩
                        rintro ⟨⟨j9, a1, a2⟩, a3, a4⟩
                        first
                          | exact i_nlt a3 h7
                          | exact h12 a4
                          | exact hno (by rw [a2]; exact inI a1 (by omega)))
                     | exact Or.inl ⟨j, hj, hij, ⟨Int32.not_lt.mp h7, h12⟩, Or.inr ⟨h33, rfl, rfl⟩⟩
                     | (refine Or.inl ⟨j, hj, hij, ⟨Int32.not_lt.mp h7, h12⟩, Or.inl ⟨by first | exact h33 | exact Decidable.not_not.mp h33, ?_, by rw [ez]⟩⟩
                        rw [ez]
                        unfold swV
                        first
                          | (rw [if_pos (Decidable.not_not.mp h56)]; rfl)
                          | (rw [if_neg h56, if_pos (Decidable.not_not.mp h70)]; rfl)
                          | (rw [if_neg h56, if_neg h70]; rfl))
                 · refine xG_run 6 rfl (by repeat' (first | exact trivial | assumption | exact xob_b rfl | exact xal_b rfl | (apply And.intro) | decide)) ?_
                   try dsimp only [xsto1, xsto2, xkill, xget, xset, gd_0, gd_s]
                   refine r2_l rfl rfl ?_
                   first
                     | (refine Or.inr ⟨?_, rfl, rfl⟩
                        rintro ⟨⟨j9, a1, a2⟩, a3, a4⟩
                        first
                          | exact i_nlt a3 h7
                          | exact h12 a4
                          | exact hno (by rw [a2]; exact inI a1 (by omega)))
                     | exact Or.inl ⟨j, hj, hij, ⟨Int32.not_lt.mp h7, h12⟩, Or.inr ⟨h33, rfl, rfl⟩⟩
                     | (refine Or.inl ⟨j, hj, hij, ⟨Int32.not_lt.mp h7, h12⟩, Or.inl ⟨by first | exact h33 | exact Decidable.not_not.mp h33, ?_, by rw [ez]⟩⟩
                        rw [ez]
                        unfold swV
                        first
                          | (rw [if_pos (Decidable.not_not.mp h56)]; rfl)
                          | (rw [if_neg h56, if_pos (Decidable.not_not.mp h70)]; rfl)
                          | (rw [if_neg h56, if_neg h70]; rfl))
               · refine xG_run 4 rfl (by repeat' (first | exact trivial | assumption | exact xob_b rfl | exact xal_b rfl | (apply And.intro) | decide)) ?_
                 try dsimp only [xsto1, xsto2, xkill, xget, xset, gd_0, gd_s]
                 refine r2_l rfl rfl ?_
                 first
                   | (refine Or.inr ⟨?_, rfl, rfl⟩
                      rintro ⟨⟨j9, a1, a2⟩, a3, a4⟩
                      first
                        | exact i_nlt a3 h7
                        | exact h12 a4
                        | exact hno (by rw [a2]; exact inI a1 (by omega)))
                   | exact Or.inl ⟨j, hj, hij, ⟨Int32.not_lt.mp h7, h12⟩, Or.inr ⟨h33, rfl, rfl⟩⟩
                   | (refine Or.inl ⟨j, hj, hij, ⟨Int32.not_lt.mp h7, h12⟩, Or.inl ⟨by first | exact h33 | exact Decidable.not_not.mp h33, ?_, by rw [ez]⟩⟩
                      rw [ez]
                      unfold swV
                      first
                        | (rw [if_pos (Decidable.not_not.mp h56)]; rfl)
                        | (rw [if_neg h56, if_pos (Decidable.not_not.mp h70)]; rfl)
                        | (rw [if_neg h56, if_neg h70]; rfl)))
        · first
            | (exfalso; first | exact absurd h33 (by decide) | exact h33 (by decide))
            | (refine xG_run 2 rfl (by repeat' (first | exact trivial | assumption | exact xob_b rfl | exact xal_b rfl | (apply And.intro) | decide)) ?_
               try dsimp only [xsto1, xsto2, xkill, xget, xset, gd_0, gd_s]
               refine r2_l rfl rfl ?_
               first
                 | (refine Or.inr ⟨?_, rfl, rfl⟩
                    rintro ⟨⟨j9, a1, a2⟩, a3, a4⟩
                    first
                      | exact i_nlt a3 h7
                      | exact h12 a4
                      | exact hno (by rw [a2]; exact inI a1 (by omega)))
                 | exact Or.inl ⟨j, hj, hij, ⟨Int32.not_lt.mp h7, h12⟩, Or.inr ⟨h33, rfl, rfl⟩⟩
                 | (refine Or.inl ⟨j, hj, hij, ⟨Int32.not_lt.mp h7, h12⟩, Or.inl ⟨by first | exact h33 | exact Decidable.not_not.mp h33, ?_, by rw [ez]⟩⟩
                    rw [ez]
                    unfold swV
                    first
                      | (rw [if_pos (Decidable.not_not.mp h56)]; rfl)
                      | (rw [if_neg h56, if_pos (Decidable.not_not.mp h70)]; rfl)
                      | (rw [if_neg h56, if_neg h70]; rfl)))
      · refine xG_run 6 rfl (by repeat' (first | exact trivial | assumption | exact xob_b rfl | exact xal_b rfl | (apply And.intro) | decide)) ?_
        try dsimp only [xsto1, xsto2, xkill, xget, xset, gd_0, gd_s]
        refine xG_br rfl (fun h33 => ?_) (fun h33 => ?_)
        · first
            | (exfalso; first | exact absurd h33 (by decide) | exact h33 (by decide))
            | (refine xG_run 4 rfl (by repeat' (first | exact trivial | assumption | exact xob_b rfl | exact xal_b rfl | (apply And.intro) | decide)) ?_
               try dsimp only [xsto1, xsto2, xkill, xget, xset, gd_0, gd_s]
               rw [sh_el hj]
               refine xG_run 2 rfl (by repeat' (first | exact trivial | assumption | exact xob_b rfl | exact xal_b rfl | (apply And.intro) | decide)) ?_
               try dsimp only [xsto1, xsto2, xkill, xget, xset, gd_0, gd_s]
               rw [hz2]
               refine xG_c2 2 rfl (by repeat' (first | exact trivial | assumption | exact xob_b rfl | exact xal_b rfl | (apply And.intro) | decide)) rfl rfl (by decide) cw_X9_measure (d' := d - 1) (e_measure (E := gI M (144 + 3 * j)) hj hz1 (fun _ => rfl) (by omega)) (by omega) ?_
               rintro v M' ⟨rfl, hM⟩
               subst M'
               dsimp only [Option.toList, List.cons_append, List.nil_append]
               refine xG_run 1 rfl (by repeat' (first | exact trivial | assumption | exact xob_b rfl | exact xal_b rfl | (apply And.intro) | decide)) ?_
               try dsimp only [xsto1, xsto2, xkill, xget, xset, gd_0, gd_s]
               refine xG_br rfl (fun h56 => ?_) (fun h56 => ?_)
               · refine xG_run 2 rfl (by repeat' (first | exact trivial | assumption | exact xob_b rfl | exact xal_b rfl | (apply And.intro) | decide)) ?_
                 try dsimp only [xsto1, xsto2, xkill, xget, xset, gd_0, gd_s]
                 refine xG_br rfl (fun h70 => ?_) (fun h70 => ?_)
                 · refine xG_run 3 rfl (by repeat' (first | exact trivial | assumption | exact xob_b rfl | exact xal_b rfl | (apply And.intro) | decide)) ?_
                   try dsimp only [xsto1, xsto2, xkill, xget, xset, gd_0, gd_s]
                   refine r2_l rfl rfl ?_
                   first
                     | (refine Or.inr ⟨?_, rfl, rfl⟩
                        rintro ⟨⟨j9, a1, a2⟩, a3, a4⟩
                        first
                          | exact i_nlt a3 h7
                          | exact h12 a4
                          | exact hno (by rw [a2]; exact inI a1 (by omega)))
                     | exact Or.inl ⟨j, hj, hij, ⟨Int32.not_lt.mp h7, h12⟩, Or.inr ⟨h33, rfl, rfl⟩⟩
                     | (refine Or.inl ⟨j, hj, hij, ⟨Int32.not_lt.mp h7, h12⟩, Or.inl ⟨by first | exact h33 | exact Decidable.not_not.mp h33, ?_, by rw [ez]⟩⟩
                        rw [ez]
                        unfold swV
                        first
                          | (rw [if_pos (Decidable.not_not.mp h56)]; rfl)
                          | (rw [if_neg h56, if_pos (Decidable.not_not.mp h70)]; rfl)
                          | (rw [if_neg h56, if_neg h70]; rfl))
                 · refine xG_run 6 rfl (by repeat' (first | exact trivial | assumption | exact xob_b rfl | exact xal_b rfl | (apply And.intro) | decide)) ?_
                   try dsimp only [xsto1, xsto2, xkill, xget, xset, gd_0, gd_s]
                   refine r2_l rfl rfl ?_
                   first
                     | (refine Or.inr ⟨?_, rfl, rfl⟩
                        rintro ⟨⟨j9, a1, a2⟩, a3, a4⟩
                        first
                          | exact i_nlt a3 h7
                          | exact h12 a4
                          | exact hno (by rw [a2]; exact inI a1 (by omega)))
                     | exact Or.inl ⟨j, hj, hij, ⟨Int32.not_lt.mp h7, h12⟩, Or.inr ⟨h33, rfl, rfl⟩⟩
                     | (refine Or.inl ⟨j, hj, hij, ⟨Int32.not_lt.mp h7, h12⟩, Or.inl ⟨by first | exact h33 | exact Decidable.not_not.mp h33, ?_, by rw [ez]⟩⟩
                        rw [ez]
                        unfold swV
                        first
                          | (rw [if_pos (Decidable.not_not.mp h56)]; rfl)
                          | (rw [if_neg h56, if_pos (Decidable.not_not.mp h70)]; rfl)
                          | (rw [if_neg h56, if_neg h70]; rfl))
               · refine xG_run 4 rfl (by repeat' (first | exact trivial | assumption | exact xob_b rfl | exact xal_b rfl | (apply And.intro) | decide)) ?_
                 try dsimp only [xsto1, xsto2, xkill, xget, xset, gd_0, gd_s]
                 refine r2_l rfl rfl ?_
                 first
                   | (refine Or.inr ⟨?_, rfl, rfl⟩
                      rintro ⟨⟨j9, a1, a2⟩, a3, a4⟩
                      first
                        | exact i_nlt a3 h7
                        | exact h12 a4
                        | exact hno (by rw [a2]; exact inI a1 (by omega)))
                   | exact Or.inl ⟨j, hj, hij, ⟨Int32.not_lt.mp h7, h12⟩, Or.inr ⟨h33, rfl, rfl⟩⟩
                   | (refine Or.inl ⟨j, hj, hij, ⟨Int32.not_lt.mp h7, h12⟩, Or.inl ⟨by first | exact h33 | exact Decidable.not_not.mp h33, ?_, by rw [ez]⟩⟩
                      rw [ez]
                      unfold swV
                      first
                        | (rw [if_pos (Decidable.not_not.mp h56)]; rfl)
                        | (rw [if_neg h56, if_pos (Decidable.not_not.mp h70)]; rfl)
                        | (rw [if_neg h56, if_neg h70]; rfl)))
        · first
            | (exfalso; first | exact absurd h33 (by decide) | exact h33 (by decide))
            | (refine xG_run 2 rfl (by repeat' (first | exact trivial | assumption | exact xob_b rfl | exact xal_b rfl | (apply And.intro) | decide)) ?_
               try dsimp only [xsto1, xsto2, xkill, xget, xset, gd_0, gd_s]
               refine r2_l rfl rfl ?_
               first
                 | (refine Or.inr ⟨?_, rfl, rfl⟩
                    rintro ⟨⟨j9, a1, a2⟩, a3, a4⟩
                    first
                      | exact i_nlt a3 h7
                      | exact h12 a4
                      | exact hno (by rw [a2]; exact inI a1 (by omega)))
                 | exact Or.inl ⟨j, hj, hij, ⟨Int32.not_lt.mp h7, h12⟩, Or.inr ⟨h33, rfl, rfl⟩⟩
                 | (refine Or.inl ⟨j, hj, hij, ⟨Int32.not_lt.mp h7, h12⟩, Or.inl ⟨by first | exact h33 | exact Decidable.not_not.mp h33, ?_, by rw [ez]⟩⟩
                    rw [ez]
                    unfold swV
                    first
                      | (rw [if_pos (Decidable.not_not.mp h56)]; rfl)
                      | (rw [if_neg h56, if_pos (Decidable.not_not.mp h70)]; rfl)
                      | (rw [if_neg h56, if_neg h70]; rfl)))
set_option maxRecDepth 4000 in
theorem e_x_years {κ : xKK} {d : Nat} {M : xM} (hz : ∀ j, j < 8 → ∃ z, z ≤ 120 ∧ gI M (142 + 3 * j) 3 = nI z) {i w : Int32} (hd : 2 ≤ d) : xE2 κ mX11_years d [.ref 0, .int i, .int w] M (fun v M' => (∃ j, j < 8 ∧ i = nI j ∧ (1 ≤ w ∧ w ≤ 1000000000) ∧ ((cRR M j 2 = 0 ∧ v = some (.int (if (swR (gI M (144 + 3 * j)) (gI M (142 + 3 * j) 3).toNatClampNeg).2.2 ≤ 0 then -4 else swY w (swR (gI M (144 + 3 * j)) (gI M (142 + 3 * j) 3).toNatClampNeg).2.2)) ∧ M' = swX M 141 0 1 2 (swR (gI M (144 + 3 * j)) (gI M (142 + 3 * j) 3).toNatClampNeg)) ∨ (¬ cRR M j 2 = 0 ∧ v = some (.int (cRR M j 2)) ∧ M' = M))) ∨ (¬ ((∃ j, j < 8 ∧ i = nI j) ∧ 1 ≤ w ∧ w ≤ 1000000000) ∧ v = some (.int (-1)) ∧ M' = M)) := by
  refine xE2_of ci_X11_years cl_X11_years cw_X11_years rfl (L := [some (.ref 0), some (.int i), some (.int w), none, none, none, none]) rfl ?_
  refine xG_run 2 rfl (by repeat' (first | exact trivial | assumption | exact xob_b rfl | exact xal_b rfl | (apply And.intro) | decide | exact (fun q => absurd q (by first | exact (fun z => absurd ((lg_gt0 _ _).mp h70) (by rw [z]; decide)))) )) ?_
  try dsimp only [xsto1, xsto2, xkill, xget, xset, gd_0, gd_s]
  refine xG_c2 1 rfl (by repeat' (first | exact trivial | assumption | exact xob_b rfl | exact xal_b rfl | (apply And.intro) | decide | exact (fun q => absurd q (by first | exact (fun z => absurd ((lg_gt0 _ _).mp h70) (by rw [z]; decide)))) )) rfl rfl (by decide) cw_X11_shelfAt (d' := d - 1) e_shelfAt (by omega) ?_
  rintro v M' ⟨hv, hM⟩
  subst M'
  rcases hv with ⟨rfl, hno⟩ | ⟨j, hj, hij, rfl⟩
  · dsimp only [Option.toList, List.cons_append, List.nil_append]
    refine xG_run 3 rfl (by repeat' (first | exact trivial | assumption | exact xob_b rfl | exact xal_b rfl | (apply And.intro) | decide | exact (fun q => absurd q (by first | exact (fun z => absurd ((lg_gt0 _ _).mp h70) (by rw [z]; decide)))) )) ?_
    try dsimp only [xsto1, xsto2, xkill, xget, xset, gd_0, gd_s]
    refine xG_br rfl (fun h8 => ?_) (fun h8 => ?_)
    · refine xG_run 6 rfl (by repeat' (first | exact trivial | assumption | exact xob_b rfl | exact xal_b rfl | (apply And.intro) | decide | exact (fun q => absurd q (by first | exact (fun z => absurd ((lg_gt0 _ _).mp h70) (by rw [z]; decide)))) )) ?_
      try dsimp only [xsto1, xsto2, xkill, xget, xset, gd_0, gd_s]
      refine r2_i rfl rfl ?_
      first
        | (refine Or.inr ⟨?_, rfl, rfl⟩
           rintro ⟨⟨j9, a1, a2⟩, a3, a4⟩
           first
             | exact i_nlt a3 h8
             | exact h15 a4
             | exact hno (by rw [a2]; exact inI a1 (by omega)))
        | exact Or.inl ⟨j, hj, hij, ⟨Int32.not_lt.mp h8, h15⟩, Or.inr ⟨h36, rfl, rfl⟩⟩
        | (refine Or.inl ⟨j, hj, hij, ⟨Int32.not_lt.mp h8, h15⟩, Or.inl ⟨by first | exact h36 | exact Decidable.not_not.mp h36, ?_, by rw [ez]⟩⟩
           rw [ez]
           have hX : gJ (swX M 141 0 1 2 (swR (gI M (144 + 3 * j)) z)) 141 2 = (swR (gI M (144 + 3 * j)) z).2.2 := swM_t
           (try rw [hX] at h70)
           first
             | (rw [if_pos (Int64.not_lt.mp (fun q => h70 ((lg_gt0 _ _).mpr q)))]; done)
             | (rw [if_neg (Int64.not_le.mpr ((lg_gt0 _ _).mp h70)), hX]; rfl))
    · refine xG_run 2 rfl (by repeat' (first | exact trivial | assumption | exact xob_b rfl | exact xal_b rfl | (apply And.intro) | decide | exact (fun q => absurd q (by first | exact (fun z => absurd ((lg_gt0 _ _).mp h70) (by rw [z]; decide)))) )) ?_
      try dsimp only [xsto1, xsto2, xkill, xget, xset, gd_0, gd_s]
      refine xG_br rfl (fun h15 => ?_) (fun h15 => ?_)
      · refine xG_run 3 rfl (by repeat' (first | exact trivial | assumption | exact xob_b rfl | exact xal_b rfl | (apply And.intro) | decide | exact (fun q => absurd q (by first | exact (fun z => absurd ((lg_gt0 _ _).mp h70) (by rw [z]; decide)))) )) ?_
        try dsimp only [xsto1, xsto2, xkill, xget, xset, gd_0, gd_s]
        refine xG_c2 2 rfl (by repeat' (first | exact trivial | assumption | exact xob_b rfl | exact xal_b rfl | (apply And.intro) | decide | exact (fun q => absurd q (by first | exact (fun z => absurd ((lg_gt0 _ _).mp h70) (by rw [z]; decide)))) )) rfl rfl (by decide) cw_X11_rowRefusal (d' := d - 1) e_rowRef0 (by omega) ?_
        rintro v M' ⟨rfl, hM⟩
        subst M'
        dsimp only [Option.toList, List.cons_append, List.nil_append]
        refine xG_run 4 rfl (by repeat' (first | exact trivial | assumption | exact xob_b rfl | exact xal_b rfl | (apply And.intro) | decide | exact (fun q => absurd q (by first | exact (fun z => absurd ((lg_gt0 _ _).mp h70) (by rw [z]; decide)))) )) ?_
        try dsimp only [xsto1, xsto2, xkill, xget, xset, gd_0, gd_s]
        refine r2_i rfl rfl ?_
        first
          | (refine Or.inr ⟨?_, rfl, rfl⟩
             rintro ⟨⟨j9, a1, a2⟩, a3, a4⟩
             first
               | exact i_nlt a3 h8
               | exact h15 a4
               | exact hno (by rw [a2]; exact inI a1 (by omega)))
          | exact Or.inl ⟨j, hj, hij, ⟨Int32.not_lt.mp h8, h15⟩, Or.inr ⟨h36, rfl, rfl⟩⟩
          | (refine Or.inl ⟨j, hj, hij, ⟨Int32.not_lt.mp h8, h15⟩, Or.inl ⟨by first | exact h36 | exact Decidable.not_not.mp h36, ?_, by rw [ez]⟩⟩
             rw [ez]
             have hX : gJ (swX M 141 0 1 2 (swR (gI M (144 + 3 * j)) z)) 141 2 = (swR (gI M (144 + 3 * j)) z).2.2 := swM_t
             (try rw [hX] at h70)
             first
               | (rw [if_pos (Int64.not_lt.mp (fun q => h70 ((lg_gt0 _ _).mpr q)))]; done)
               | (rw [if_neg (Int64.not_le.mpr ((lg_gt0 _ _).mp h70)), hX]; rfl))
      · refine xG_run 6 rfl (by repeat' (first | exact trivial | assumption | exact xob_b rfl | exact xal_b rfl | (apply And.intro) | decide | exact (fun q => absurd q (by first | exact (fun z => absurd ((lg_gt0 _ _).mp h70) (by rw [z]; decide)))) )) ?_
        try dsimp only [xsto1, xsto2, xkill, xget, xset, gd_0, gd_s]
        refine r2_i rfl rfl ?_
        first
          | (refine Or.inr ⟨?_, rfl, rfl⟩
             rintro ⟨⟨j9, a1, a2⟩, a3, a4⟩
             first
               | exact i_nlt a3 h8
               | exact h15 a4
               | exact hno (by rw [a2]; exact inI a1 (by omega)))
          | exact Or.inl ⟨j, hj, hij, ⟨Int32.not_lt.mp h8, h15⟩, Or.inr ⟨h36, rfl, rfl⟩⟩
          | (refine Or.inl ⟨j, hj, hij, ⟨Int32.not_lt.mp h8, h15⟩, Or.inl ⟨by first | exact h36 | exact Decidable.not_not.mp h36, ?_, by rw [ez]⟩⟩
             rw [ez]
             have hX : gJ (swX M 141 0 1 2 (swR (gI M (144 + 3 * j)) z)) 141 2 = (swR (gI M (144 + 3 * j)) z).2.2 := swM_t
             (try rw [hX] at h70)
             first
               | (rw [if_pos (Int64.not_lt.mp (fun q => h70 ((lg_gt0 _ _).mpr q)))]; done)
               | (rw [if_neg (Int64.not_le.mpr ((lg_gt0 _ _).mp h70)), hX]; rfl))
  · dsimp only [Option.toList, List.cons_append, List.nil_append]
    have hxj : xob (142 + 3 * j) 8 182 := xob_sh hj
    have hspj : xob (143 + 3 * j) 3 182 := xob_sp hj
    obtain ⟨z, hz1, hz2⟩ := hz j hj
    have ez : (gI M (142 + 3 * j) 3).toNatClampNeg = z := by rw [hz2]; exact nI_cl (by omega)
    refine xG_run 3 rfl (by repeat' (first | exact trivial | assumption | exact xob_b rfl | exact xal_b rfl | (apply And.intro) | decide | exact (fun q => absurd q (by first | exact (fun z => absurd ((lg_gt0 _ _).mp h70) (by rw [z]; decide)))) )) ?_
    try dsimp only [xsto1, xsto2, xkill, xget, xset, gd_0, gd_s]
    refine xG_br rfl (fun h8 => ?_) (fun h8 => ?_)
    · refine xG_run 6 rfl (by repeat' (first | exact trivial | assumption | exact xob_b rfl | exact xal_b rfl | (apply And.intro) | decide | exact (fun q => absurd q (by first | exact (fun z => absurd ((lg_gt0 _ _).mp h70) (by rw [z]; decide)))) )) ?_
      try dsimp only [xsto1, xsto2, xkill, xget, xset, gd_0, gd_s]
      refine xG_br rfl (fun h36 => ?_) (fun h36 => ?_)
      · first
          | (exfalso; first | exact absurd h36 (by decide) | exact h36 (by decide))
          | (refine xG_run 4 rfl (by repeat' (first | exact trivial | assumption | exact xob_b rfl | exact xal_b rfl | (apply And.intro) | decide | exact (fun q => absurd q (by first | exact (fun z => absurd ((lg_gt0 _ _).mp h70) (by rw [z]; decide)))) )) ?_
             try dsimp only [xsto1, xsto2, xkill, xget, xset, gd_0, gd_s]
             rw [sh_el hj]
             refine xG_run 2 rfl (by repeat' (first | exact trivial | assumption | exact xob_b rfl | exact xal_b rfl | (apply And.intro) | decide | exact (fun q => absurd q (by first | exact (fun z => absurd ((lg_gt0 _ _).mp h70) (by rw [z]; decide)))) )) ?_
             try dsimp only [xsto1, xsto2, xkill, xget, xset, gd_0, gd_s]
             rw [hz2]
             refine xG_c2 2 rfl (by repeat' (first | exact trivial | assumption | exact xob_b rfl | exact xal_b rfl | (apply And.intro) | decide | exact (fun q => absurd q (by first | exact (fun z => absurd ((lg_gt0 _ _).mp h70) (by rw [z]; decide)))) )) rfl rfl (by decide) cw_X9_measure (d' := d - 1) (e_measure (E := gI M (144 + 3 * j)) hj hz1 (fun _ => rfl) (by omega)) (by omega) ?_
             rintro v M' ⟨rfl, hM⟩
             subst M'
             dsimp only [Option.toList, List.cons_append, List.nil_append]
             refine xG_run 7 rfl (by repeat' (first | exact trivial | assumption | exact xob_b rfl | exact xal_b rfl | (apply And.intro) | decide | exact (fun q => absurd q (by first | exact (fun z => absurd ((lg_gt0 _ _).mp h70) (by rw [z]; decide)))) )) ?_
             try dsimp only [xsto1, xsto2, xkill, xget, xset, gd_0, gd_s]
             refine xG_br rfl (fun h70 => ?_) (fun h70 => ?_)
             · have hne : ¬ (swX M 141 0 1 2 (swR (gI M (144 + 3 * j)) z)).2.1 141 2 = 0 := fun q => by
                 have h9 := (lg_gt0 _ _).mp h70
                 exact absurd (show (0 : Int64) < 0 from q ▸ h9) (by decide)
               refine xG_run 8 rfl (by repeat' (first | exact trivial | assumption | exact xob_b rfl | exact xal_b rfl | (apply And.intro) | decide | exact (fun q => absurd q (by first | exact (fun z => absurd ((lg_gt0 _ _).mp h70) (by rw [z]; decide)))) )) ?_
               try dsimp only [xsto1, xsto2, xkill, xget, xset, gd_0, gd_s]
               refine xG_run 3 rfl (by repeat' (first | exact trivial | assumption | exact xob_b rfl | exact xal_b rfl | (apply And.intro) | decide | exact (fun q => absurd q (by first | exact (fun z => absurd ((lg_gt0 _ _).mp h70) (by rw [z]; decide)))) )) ?_
               try dsimp only [xsto1, xsto2, xkill, xget, xset, gd_0, gd_s]
               refine r2_i rfl rfl ?_
               first
                 | (refine Or.inr ⟨?_, rfl, rfl⟩
                    rintro ⟨⟨j9, a1, a2⟩, a3, a4⟩
                    first
                      | exact i_nlt a3 h8
                      | exact h15 a4
                      | exact hno (by rw [a2]; exact inI a1 (by omega)))
                 | exact Or.inl ⟨j, hj, hij, ⟨Int32.not_lt.mp h8, h15⟩, Or.inr ⟨h36, rfl, rfl⟩⟩
                 | (refine Or.inl ⟨j, hj, hij, ⟨Int32.not_lt.mp h8, h15⟩, Or.inl ⟨by first | exact h36 | exact Decidable.not_not.mp h36, ?_, by rw [ez]⟩⟩
                    rw [ez]
                    have hX : gJ (swX M 141 0 1 2 (swR (gI M (144 + 3 * j)) z)) 141 2 = (swR (gI M (144 + 3 * j)) z).2.2 := swM_t
                    (try rw [hX] at h70)
                    first
                      | (rw [if_pos (Int64.not_lt.mp (fun q => h70 ((lg_gt0 _ _).mpr q)))]; done)
                      | (rw [if_neg (Int64.not_le.mpr ((lg_gt0 _ _).mp h70)), hX]; rfl))
             · refine xG_run 1 rfl (by repeat' (first | exact trivial | assumption | exact xob_b rfl | exact xal_b rfl | (apply And.intro) | decide | exact (fun q => absurd q (by first | exact (fun z => absurd ((lg_gt0 _ _).mp h70) (by rw [z]; decide)))) )) ?_
               try dsimp only [xsto1, xsto2, xkill, xget, xset, gd_0, gd_s]
               refine r2_i rfl rfl ?_
               first
                 | (refine Or.inr ⟨?_, rfl, rfl⟩
                    rintro ⟨⟨j9, a1, a2⟩, a3, a4⟩
                    first
                      | exact i_nlt a3 h8
                      | exact h15 a4
                      | exact hno (by rw [a2]; exact inI a1 (by omega)))
                 | exact Or.inl ⟨j, hj, hij, ⟨Int32.not_lt.mp h8, h15⟩, Or.inr ⟨h36, rfl, rfl⟩⟩
                 | (refine Or.inl ⟨j, hj, hij, ⟨Int32.not_lt.mp h8, h15⟩, Or.inl ⟨by first | exact h36 | exact Decidable.not_not.mp h36, ?_, by rw [ez]⟩⟩
                    rw [ez]
                    have hX : gJ (swX M 141 0 1 2 (swR (gI M (144 + 3 * j)) z)) 141 2 = (swR (gI M (144 + 3 * j)) z).2.2 := swM_t
                    (try rw [hX] at h70)
                    first
                      | (rw [if_pos (Int64.not_lt.mp (fun q => h70 ((lg_gt0 _ _).mpr q)))]; done)
                      | (rw [if_neg (Int64.not_le.mpr ((lg_gt0 _ _).mp h70)), hX]; rfl)))
      · first
          | (exfalso; first | exact absurd h36 (by decide) | exact h36 (by decide))
          | (refine xG_run 1 rfl (by repeat' (first | exact trivial | assumption | exact xob_b rfl | exact xal_b rfl | (apply And.intro) | decide | exact (fun q => absurd q (by first | exact (fun z => absurd ((lg_gt0 _ _).mp h70) (by rw [z]; decide)))) )) ?_
             try dsimp only [xsto1, xsto2, xkill, xget, xset, gd_0, gd_s]
             refine r2_i rfl rfl ?_
             first
               | (refine Or.inr ⟨?_, rfl, rfl⟩
                  rintro ⟨⟨j9, a1, a2⟩, a3, a4⟩
                  first
                    | exact i_nlt a3 h8
                    | exact h15 a4
                    | exact hno (by rw [a2]; exact inI a1 (by omega)))
               | exact Or.inl ⟨j, hj, hij, ⟨Int32.not_lt.mp h8, h15⟩, Or.inr ⟨h36, rfl, rfl⟩⟩
               | (refine Or.inl ⟨j, hj, hij, ⟨Int32.not_lt.mp h8, h15⟩, Or.inl ⟨by first | exact h36 | exact Decidable.not_not.mp h36, ?_, by rw [ez]⟩⟩
                  rw [ez]
                  have hX : gJ (swX M 141 0 1 2 (swR (gI M (144 + 3 * j)) z)) 141 2 = (swR (gI M (144 + 3 * j)) z).2.2 := swM_t
                  (try rw [hX] at h70)
                  first
                    | (rw [if_pos (Int64.not_lt.mp (fun q => h70 ((lg_gt0 _ _).mpr q)))]; done)
                    | (rw [if_neg (Int64.not_le.mpr ((lg_gt0 _ _).mp h70)), hX]; rfl)))
    · refine xG_run 2 rfl (by repeat' (first | exact trivial | assumption | exact xob_b rfl | exact xal_b rfl | (apply And.intro) | decide | exact (fun q => absurd q (by first | exact (fun z => absurd ((lg_gt0 _ _).mp h70) (by rw [z]; decide)))) )) ?_
      try dsimp only [xsto1, xsto2, xkill, xget, xset, gd_0, gd_s]
      refine xG_br rfl (fun h15 => ?_) (fun h15 => ?_)
      · refine xG_run 3 rfl (by repeat' (first | exact trivial | assumption | exact xob_b rfl | exact xal_b rfl | (apply And.intro) | decide | exact (fun q => absurd q (by first | exact (fun z => absurd ((lg_gt0 _ _).mp h70) (by rw [z]; decide)))) )) ?_
        try dsimp only [xsto1, xsto2, xkill, xget, xset, gd_0, gd_s]
        refine xG_c2 2 rfl (by repeat' (first | exact trivial | assumption | exact xob_b rfl | exact xal_b rfl | (apply And.intro) | decide | exact (fun q => absurd q (by first | exact (fun z => absurd ((lg_gt0 _ _).mp h70) (by rw [z]; decide)))) )) rfl rfl (by decide) cw_X11_rowRefusal (d' := d - 1) (e_rowRef1 hj) (by omega) ?_
        rintro v M' ⟨rfl, hM⟩
        subst M'
        dsimp only [Option.toList, List.cons_append, List.nil_append]
        refine xG_run 4 rfl (by repeat' (first | exact trivial | assumption | exact xob_b rfl | exact xal_b rfl | (apply And.intro) | decide | exact (fun q => absurd q (by first | exact (fun z => absurd ((lg_gt0 _ _).mp h70) (by rw [z]; decide)))) )) ?_
        try dsimp only [xsto1, xsto2, xkill, xget, xset, gd_0, gd_s]
        refine xG_br rfl (fun h36 => ?_) (fun h36 => ?_)
        · first
            | (exfalso; first | exact absurd h36 (by decide) | exact h36 (by decide))
            | (refine xG_run 4 rfl (by repeat' (first | exact trivial | assumption | exact xob_b rfl | exact xal_b rfl | (apply And.intro) | decide | exact (fun q => absurd q (by first | exact (fun z => absurd ((lg_gt0 _ _).mp h70) (by rw [z]; decide)))) )) ?_
               try dsimp only [xsto1, xsto2, xkill, xget, xset, gd_0, gd_s]
               rw [sh_el hj]
               refine xG_run 2 rfl (by repeat' (first | exact trivial | assumption | exact xob_b rfl | exact xal_b rfl | (apply And.intro) | decide | exact (fun q => absurd q (by first | exact (fun z => absurd ((lg_gt0 _ _).mp h70) (by rw [z]; decide)))) )) ?_
               try dsimp only [xsto1, xsto2, xkill, xget, xset, gd_0, gd_s]
               rw [hz2]
               refine xG_c2 2 rfl (by repeat' (first | exact trivial | assumption | exact xob_b rfl | exact xal_b rfl | (apply And.intro) | decide | exact (fun q => absurd q (by first | exact (fun z => absurd ((lg_gt0 _ _).mp h70) (by rw [z]; decide)))) )) rfl rfl (by decide) cw_X9_measure (d' := d - 1) (e_measure (E := gI M (144 + 3 * j)) hj hz1 (fun _ => rfl) (by omega)) (by omega) ?_
               rintro v M' ⟨rfl, hM⟩
               subst M'
               dsimp only [Option.toList, List.cons_append, List.nil_append]
               refine xG_run 7 rfl (by repeat' (first | exact trivial | assumption | exact xob_b rfl | exact xal_b rfl | (apply And.intro) | decide | exact (fun q => absurd q (by first | exact (fun z => absurd ((lg_gt0 _ _).mp h70) (by rw [z]; decide)))) )) ?_
               try dsimp only [xsto1, xsto2, xkill, xget, xset, gd_0, gd_s]
               refine xG_br rfl (fun h70 => ?_) (fun h70 => ?_)
               · have hne : ¬ (swX M 141 0 1 2 (swR (gI M (144 + 3 * j)) z)).2.1 141 2 = 0 := fun q => by
                   have h9 := (lg_gt0 _ _).mp h70
                   exact absurd (show (0 : Int64) < 0 from q ▸ h9) (by decide)
                 refine xG_run 8 rfl (by repeat' (first | exact trivial | assumption | exact xob_b rfl | exact xal_b rfl | (apply And.intro) | decide | exact (fun q => absurd q (by first | exact (fun z => absurd ((lg_gt0 _ _).mp h70) (by rw [z]; decide)))) )) ?_
                 try dsimp only [xsto1, xsto2, xkill, xget, xset, gd_0, gd_s]
                 refine xG_run 3 rfl (by repeat' (first | exact trivial | assumption | exact xob_b rfl | exact xal_b rfl | (apply And.intro) | decide | exact (fun q => absurd q (by first | exact (fun z => absurd ((lg_gt0 _ _).mp h70) (by rw [z]; decide)))) )) ?_
                 try dsimp only [xsto1, xsto2, xkill, xget, xset, gd_0, gd_s]
                 refine r2_i rfl rfl ?_
                 first
                   | (refine Or.inr ⟨?_, rfl, rfl⟩
                      rintro ⟨⟨j9, a1, a2⟩, a3, a4⟩
                      first
                        | exact i_nlt a3 h8
                        | exact h15 a4
                        | exact hno (by rw [a2]; exact inI a1 (by omega)))
                   | exact Or.inl ⟨j, hj, hij, ⟨Int32.not_lt.mp h8, h15⟩, Or.inr ⟨h36, rfl, rfl⟩⟩
                   | (refine Or.inl ⟨j, hj, hij, ⟨Int32.not_lt.mp h8, h15⟩, Or.inl ⟨by first | exact h36 | exact Decidable.not_not.mp h36, ?_, by rw [ez]⟩⟩
                      rw [ez]
                      have hX : gJ (swX M 141 0 1 2 (swR (gI M (144 + 3 * j)) z)) 141 2 = (swR (gI M (144 + 3 * j)) z).2.2 := swM_t
                      (try rw [hX] at h70)
                      first
                        | (rw [if_pos (Int64.not_lt.mp (fun q => h70 ((lg_gt0 _ _).mpr q)))]; done)
                        | (rw [if_neg (Int64.not_le.mpr ((lg_gt0 _ _).mp h70)), hX]; rfl))
               · refine xG_run 1 rfl (by repeat' (first | exact trivial | assumption | exact xob_b rfl | exact xal_b rfl | (apply And.intro) | decide | exact (fun q => absurd q (by first | exact (fun z => absurd ((lg_gt0 _ _).mp h70) (by rw [z]; decide)))) )) ?_
                 try dsimp only [xsto1, xsto2, xkill, xget, xset, gd_0, gd_s]
                 refine r2_i rfl rfl ?_
                 first
                   | (refine Or.inr ⟨?_, rfl, rfl⟩
                      rintro ⟨⟨j9, a1, a2⟩, a3, a4⟩
                      first
                        | exact i_nlt a3 h8
                        | exact h15 a4
                        | exact hno (by rw [a2]; exact inI a1 (by omega)))
                   | exact Or.inl ⟨j, hj, hij, ⟨Int32.not_lt.mp h8, h15⟩, Or.inr ⟨h36, rfl, rfl⟩⟩
                   | (refine Or.inl ⟨j, hj, hij, ⟨Int32.not_lt.mp h8, h15⟩, Or.inl ⟨by first | exact h36 | exact Decidable.not_not.mp h36, ?_, by rw [ez]⟩⟩
                      rw [ez]
                      have hX : gJ (swX M 141 0 1 2 (swR (gI M (144 + 3 * j)) z)) 141 2 = (swR (gI M (144 + 3 * j)) z).2.2 := swM_t
                      (try rw [hX] at h70)
                      first
                        | (rw [if_pos (Int64.not_lt.mp (fun q => h70 ((lg_gt0 _ _).mpr q)))]; done)
                        | (rw [if_neg (Int64.not_le.mpr ((lg_gt0 _ _).mp h70)), hX]; rfl)))
        · first
            | (exfalso; first | exact absurd h36 (by decide) | exact h36 (by decide))
            | (refine xG_run 1 rfl (by repeat' (first | exact trivial | assumption | exact xob_b rfl | exact xal_b rfl | (apply And.intro) | decide | exact (fun q => absurd q (by first | exact (fun z => absurd ((lg_gt0 _ _).mp h70) (by rw [z]; decide)))) )) ?_
               try dsimp only [xsto1, xsto2, xkill, xget, xset, gd_0, gd_s]
               refine r2_i rfl rfl ?_
               first
                 | (refine Or.inr ⟨?_, rfl, rfl⟩
                    rintro ⟨⟨j9, a1, a2⟩, a3, a4⟩
                    first
                      | exact i_nlt a3 h8
                      | exact h15 a4
                      | exact hno (by rw [a2]; exact inI a1 (by omega)))
                 | exact Or.inl ⟨j, hj, hij, ⟨Int32.not_lt.mp h8, h15⟩, Or.inr ⟨h36, rfl, rfl⟩⟩
                 | (refine Or.inl ⟨j, hj, hij, ⟨Int32.not_lt.mp h8, h15⟩, Or.inl ⟨by first | exact h36 | exact Decidable.not_not.mp h36, ?_, by rw [ez]⟩⟩
                    rw [ez]
                    have hX : gJ (swX M 141 0 1 2 (swR (gI M (144 + 3 * j)) z)) 141 2 = (swR (gI M (144 + 3 * j)) z).2.2 := swM_t
                    (try rw [hX] at h70)
                    first
                      | (rw [if_pos (Int64.not_lt.mp (fun q => h70 ((lg_gt0 _ _).mpr q)))]; done)
                      | (rw [if_neg (Int64.not_le.mpr ((lg_gt0 _ _).mp h70)), hX]; rfl)))
      · refine xG_run 6 rfl (by repeat' (first | exact trivial | assumption | exact xob_b rfl | exact xal_b rfl | (apply And.intro) | decide | exact (fun q => absurd q (by first | exact (fun z => absurd ((lg_gt0 _ _).mp h70) (by rw [z]; decide)))) )) ?_
        try dsimp only [xsto1, xsto2, xkill, xget, xset, gd_0, gd_s]
        refine xG_br rfl (fun h36 => ?_) (fun h36 => ?_)
        · first
            | (exfalso; first | exact absurd h36 (by decide) | exact h36 (by decide))
            | (refine xG_run 4 rfl (by repeat' (first | exact trivial | assumption | exact xob_b rfl | exact xal_b rfl | (apply And.intro) | decide | exact (fun q => absurd q (by first | exact (fun z => absurd ((lg_gt0 _ _).mp h70) (by rw [z]; decide)))) )) ?_
               try dsimp only [xsto1, xsto2, xkill, xget, xset, gd_0, gd_s]
               rw [sh_el hj]
               refine xG_run 2 rfl (by repeat' (first | exact trivial | assumption | exact xob_b rfl | exact xal_b rfl | (apply And.intro) | decide | exact (fun q => absurd q (by first | exact (fun z => absurd ((lg_gt0 _ _).mp h70) (by rw [z]; decide)))) )) ?_
               try dsimp only [xsto1, xsto2, xkill, xget, xset, gd_0, gd_s]
               rw [hz2]
               refine xG_c2 2 rfl (by repeat' (first | exact trivial | assumption | exact xob_b rfl | exact xal_b rfl | (apply And.intro) | decide | exact (fun q => absurd q (by first | exact (fun z => absurd ((lg_gt0 _ _).mp h70) (by rw [z]; decide)))) )) rfl rfl (by decide) cw_X9_measure (d' := d - 1) (e_measure (E := gI M (144 + 3 * j)) hj hz1 (fun _ => rfl) (by omega)) (by omega) ?_
               rintro v M' ⟨rfl, hM⟩
               subst M'
               dsimp only [Option.toList, List.cons_append, List.nil_append]
               refine xG_run 7 rfl (by repeat' (first | exact trivial | assumption | exact xob_b rfl | exact xal_b rfl | (apply And.intro) | decide | exact (fun q => absurd q (by first | exact (fun z => absurd ((lg_gt0 _ _).mp h70) (by rw [z]; decide)))) )) ?_
               try dsimp only [xsto1, xsto2, xkill, xget, xset, gd_0, gd_s]
               refine xG_br rfl (fun h70 => ?_) (fun h70 => ?_)
               · have hne : ¬ (swX M 141 0 1 2 (swR (gI M (144 + 3 * j)) z)).2.1 141 2 = 0 := fun q => by
                   have h9 := (lg_gt0 _ _).mp h70
                   exact absurd (show (0 : Int64) < 0 from q ▸ h9) (by decide)
                 refine xG_run 8 rfl (by repeat' (first | exact trivial | assumption | exact xob_b rfl | exact xal_b rfl | (apply And.intro) | decide | exact (fun q => absurd q (by first | exact (fun z => absurd ((lg_gt0 _ _).mp h70) (by rw [z]; decide)))) )) ?_
                 try dsimp only [xsto1, xsto2, xkill, xget, xset, gd_0, gd_s]
                 refine xG_run 3 rfl (by repeat' (first | exact trivial | assumption | exact xob_b rfl | exact xal_b rfl | (apply And.intro) | decide | exact (fun q => absurd q (by first | exact (fun z => absurd ((lg_gt0 _ _).mp h70) (by rw [z]; decide)))) )) ?_
                 try dsimp only [xsto1, xsto2, xkill, xget, xset, gd_0, gd_s]
                 refine r2_i rfl rfl ?_
                 first
                   | (refine Or.inr ⟨?_, rfl, rfl⟩
                      rintro ⟨⟨j9, a1, a2⟩, a3, a4⟩
                      first
                        | exact i_nlt a3 h8
                        | exact h15 a4
                        | exact hno (by rw [a2]; exact inI a1 (by omega)))
                   | exact Or.inl ⟨j, hj, hij, ⟨Int32.not_lt.mp h8, h15⟩, Or.inr ⟨h36, rfl, rfl⟩⟩
                   | (refine Or.inl ⟨j, hj, hij, ⟨Int32.not_lt.mp h8, h15⟩, Or.inl ⟨by first | exact h36 | exact Decidable.not_not.mp h36, ?_, by rw [ez]⟩⟩
                      rw [ez]
                      have hX : gJ (swX M 141 0 1 2 (swR (gI M (144 + 3 * j)) z)) 141 2 = (swR (gI M (144 + 3 * j)) z).2.2 := swM_t
                      (try rw [hX] at h70)
                      first
                        | (rw [if_pos (Int64.not_lt.mp (fun q => h70 ((lg_gt0 _ _).mpr q)))]; done)
                        | (rw [if_neg (Int64.not_le.mpr ((lg_gt0 _ _).mp h70)), hX]; rfl))
               · refine xG_run 1 rfl (by repeat' (first | exact trivial | assumption | exact xob_b rfl | exact xal_b rfl | (apply And.intro) | decide | exact (fun q => absurd q (by first | exact (fun z => absurd ((lg_gt0 _ _).mp h70) (by rw [z]; decide)))) )) ?_
                 try dsimp only [xsto1, xsto2, xkill, xget, xset, gd_0, gd_s]
                 refine r2_i rfl rfl ?_
                 first
                   | (refine Or.inr ⟨?_, rfl, rfl⟩
                      rintro ⟨⟨j9, a1, a2⟩, a3, a4⟩
                      first
                        | exact i_nlt a3 h8
                        | exact h15 a4
                        | exact hno (by rw [a2]; exact inI a1 (by omega)))
                   | exact Or.inl ⟨j, hj, hij, ⟨Int32.not_lt.mp h8, h15⟩, Or.inr ⟨h36, rfl, rfl⟩⟩
                   | (refine Or.inl ⟨j, hj, hij, ⟨Int32.not_lt.mp h8, h15⟩, Or.inl ⟨by first | exact h36 | exact Decidable.not_not.mp h36, ?_, by rw [ez]⟩⟩
                      rw [ez]
                      have hX : gJ (swX M 141 0 1 2 (swR (gI M (144 + 3 * j)) z)) 141 2 = (swR (gI M (144 + 3 * j)) z).2.2 := swM_t
                      (try rw [hX] at h70)
                      first
                        | (rw [if_pos (Int64.not_lt.mp (fun q => h70 ((lg_gt0 _ _).mpr q)))]; done)
                        | (rw [if_neg (Int64.not_le.mpr ((lg_gt0 _ _).mp h70)), hX]; rfl)))
        · first
            | (exfalso; first | exact absurd h36 (by decide) | exact h36 (by decide))
            | (refine xG_run 1 rfl (by repeat' (first | exact trivial | assumption | exact xob_b rfl | exact xal_b rfl | (apply And.intro) | decide | exact (fun q => absurd q (by first | exact (fun z => absurd ((lg_gt0 _ _).mp h70) (by rw [z]; decide)))) )) ?_
               try dsimp only [xsto1, xsto2, xkill, xget, xset, gd_0, gd_s]
               refine r2_i rfl rfl ?_
               first
                 | (refine Or.inr ⟨?_, rfl, rfl⟩
                    rintro ⟨⟨j9, a1, a2⟩, a3, a4⟩
                    first
                      | exact i_nlt a3 h8
                      | exact h15 a4
                      | exact hno (by rw [a2]; exact inI a1 (by omega)))
                 | exact Or.inl ⟨j, hj, hij, ⟨Int32.not_lt.mp h8, h15⟩, Or.inr ⟨h36, rfl, rfl⟩⟩
                 | (refine Or.inl ⟨j, hj, hij, ⟨Int32.not_lt.mp h8, h15⟩, Or.inl ⟨by first | exact h36 | exact Decidable.not_not.mp h36, ?_, by rw [ez]⟩⟩
                    rw [ez]
                    have hX : gJ (swX M 141 0 1 2 (swR (gI M (144 + 3 * j)) z)) 141 2 = (swR (gI M (144 + 3 * j)) z).2.2 := swM_t
                    (try rw [hX] at h70)
                    first
                      | (rw [if_pos (Int64.not_lt.mp (fun q => h70 ((lg_gt0 _ _).mpr q)))]; done)
                      | (rw [if_neg (Int64.not_le.mpr ((lg_gt0 _ _).mp h70)), hX]; rfl)))
