/-! ===== pieces and ropes, as the class holds them ===== -/
def cW (M : xM) (a : Nat) : Int32 := if gI M a 1 = 0 then gI M a 3 + gI M a 6 else if gI M a 1 = 2 then 2 * gI M a 3 + gI M a 6 + 2 * gI M a 6 else if gI M a 1 = 3 then 2 * gI M a 3 + gI M a 6 + 5 else 2 * gI M a 3 + gI M a 6
def cF (M : xM) (a : Nat) : Int32 := if gI M a 1 = 0 then gI M a 4 + gI M a 6 / 2 else if gI M a 1 = 2 then gI M a 4 / 2 + gI M a 6 / 2 + gI M a 6 else gI M a 4 / 2 + gI M a 6 / 2
def cH (M : xM) (a : Nat) : Int32 := if gI M a 1 = 0 then cW M a + gI M a 2 else if gI M a 1 = 2 then 2 * (cW M a + gI M a 2 + gI M a 4) else if gI M a 1 = 3 then cW M a + gI M a 2 + gI M a 4 + gI M a 5 else cW M a + gI M a 2 + gI M a 4
def cT (M : xM) (a : Nat) : Int32 := if gI M a 1 = 3 ∨ (gI M a 1 = 2 ∧ gI M a 6 = 0) then -15 else if gI M a 1 = 2 then gI M a 0 + 100 + gI M a 6 else gI M a 0
def cS (M : xM) (a : Nat) (u : Int32) : Int32 := 20 * u / (if gI M a 4 < 1 then 1 else gI M a 4)
def cAb (M : xM) (a : Nat) (w : Int32) : Int32 := if w = 0 then gI M a 1 else if w = 1 then gI M a 2 else if w = 2 then gI M a 3 else if w = 3 then gI M a 4 else if w = 4 then gI M a 5 else if w = 5 then gI M a 6 else if w = 6 then cW M a else if w = 7 then cF M a else -1
def cP (M : xM) (a : Nat) (l : Int32) : Int32 := if ¬ gI M a 5 = 0 then 0 else if gI M a 4 - gI M a 1 * gI M a 3 * l * gI M a 6 / 1000 < 0 then 0 else gI M a 4 - gI M a 1 * gI M a 3 * l * gI M a 6 / 1000
def cRb (M : xM) (a : Nat) (w : Int32) : Int32 := if w = 0 then gI M a 0 else if w = 1 then (if gI M a 1 = 1 then 1 else 0) else if w = 2 then gI M a 2 else if w = 3 then gI M a 3 else if w = 4 then gI M a 4 else if w = 5 then gI M a 5 else if w = 6 then gI M a 6 else -1
theorem i_nlt {x y : Int32} (h : y ≤ x) : ¬ x < y := by rw [Int32.lt_iff_toInt_lt]; rw [Int32.le_iff_toInt_le] at h; omega
theorem i_nle {x y : Int32} (h : ¬ y ≤ x) : x < y := by rw [Int32.lt_iff_toInt_lt]; rw [Int32.le_iff_toInt_le] at h; omega
set_option maxRecDepth 4000 in
theorem e_weight {κ : xKK} {d : Nat} {M : xM} {a : Nat} (ha : xob a 3 182) : xE2 κ mX3_weight d [.ref a] M (fun v M' => v = some (.int (cW M a)) ∧ M' = M) := by
  refine xE2_of ci_X3_weight cl_X3_weight cw_X3_weight rfl (L := [some (.ref a), none]) rfl ?_
  refine xG_run 2 rfl (by repeat' (first | exact trivial | assumption | exact xob_b rfl | exact xal_b rfl | (apply And.intro) | decide)) ?_
  refine xG_br rfl (fun h4 => ?_) (fun h4 => ?_)
  · refine xG_run 11 rfl (by repeat' (first | exact trivial | assumption | exact xob_b rfl | exact xal_b rfl | (apply And.intro) | decide)) ?_
    refine xG_br rfl (fun h34 => ?_) (fun h34 => ?_)
    · refine xG_run 3 rfl (by repeat' (first | exact trivial | assumption | exact xob_b rfl | exact xal_b rfl | (apply And.intro) | decide)) ?_
      refine xG_br rfl (fun h51 => ?_) (fun h51 => ?_)
      · refine xG_run 1 rfl (by repeat' (first | exact trivial | assumption | exact xob_b rfl | exact xal_b rfl | (apply And.intro) | decide)) ?_
        refine r2_i rfl rfl ?_
        refine ⟨?_, rfl⟩
        first
          | (simp [cW, *]; done)
          | (exfalso; simp_all; done)
      · refine xG_run 4 rfl (by repeat' (first | exact trivial | assumption | exact xob_b rfl | exact xal_b rfl | (apply And.intro) | decide)) ?_
        refine r2_i rfl rfl ?_
        refine ⟨?_, rfl⟩
        first
          | (simp [cW, *]; done)
          | (exfalso; simp_all; done)
    · refine xG_run 6 rfl (by repeat' (first | exact trivial | assumption | exact xob_b rfl | exact xal_b rfl | (apply And.intro) | decide)) ?_
      refine r2_i rfl rfl ?_
      refine ⟨?_, rfl⟩
      first
        | (simp [cW, *]; done)
        | (exfalso; simp_all; done)
  · refine xG_run 5 rfl (by repeat' (first | exact trivial | assumption | exact xob_b rfl | exact xal_b rfl | (apply And.intro) | decide)) ?_
    refine r2_i rfl rfl ?_
    refine ⟨?_, rfl⟩
    first
      | (simp [cW, *]; done)
      | (exfalso; simp_all; done)
set_option maxRecDepth 4000 in
theorem e_faces {κ : xKK} {d : Nat} {M : xM} {a : Nat} (ha : xob a 3 182) : xE2 κ mX3_faces d [.ref a] M (fun v M' => v = some (.int (cF M a)) ∧ M' = M) := by
  refine xE2_of ci_X3_faces cl_X3_faces cw_X3_faces rfl (L := [some (.ref a), none]) rfl ?_
  refine xG_run 2 rfl (by repeat' (first | exact trivial | assumption | exact xob_b rfl | exact xal_b rfl | (apply And.intro) | decide)) ?_
  refine xG_br rfl (fun h4 => ?_) (fun h4 => ?_)
  · refine xG_run 13 rfl (by repeat' (first | exact trivial | assumption | exact xob_b rfl | exact xal_b rfl | (apply And.intro) | decide)) ?_
    refine xG_br rfl (fun h38 => ?_) (fun h38 => ?_)
    · refine xG_run 1 rfl (by repeat' (first | exact trivial | assumption | exact xob_b rfl | exact xal_b rfl | (apply And.intro) | decide)) ?_
      refine r2_i rfl rfl ?_
      refine ⟨?_, rfl⟩
      first
        | (simp [cF, *]; done)
        | (exfalso; simp_all; done)
    · refine xG_run 5 rfl (by repeat' (first | exact trivial | assumption | exact xob_b rfl | exact xal_b rfl | (apply And.intro) | decide)) ?_
      refine r2_i rfl rfl ?_
      refine ⟨?_, rfl⟩
      first
        | (simp [cF, *]; done)
        | (exfalso; simp_all; done)
  · refine xG_run 7 rfl (by repeat' (first | exact trivial | assumption | exact xob_b rfl | exact xal_b rfl | (apply And.intro) | decide)) ?_
    refine r2_i rfl rfl ?_
    refine ⟨?_, rfl⟩
    first
      | (simp [cF, *]; done)
      | (exfalso; simp_all; done)
set_option maxRecDepth 4000 in
theorem e_wholeHeft {κ : xKK} {d : Nat} {M : xM} {a : Nat} (ha : xob a 3 182) (hd : 1 ≤ d) : xE2 κ mX3_wholeHeft d [.ref a] M (fun v M' => v = some (.int (cH M a)) ∧ M' = M) := by
  refine xE2_of ci_X3_wholeHeft cl_X3_wholeHeft cw_X3_wholeHeft rfl (L := [some (.ref a), none, none]) rfl ?_
  refine xG_run 1 rfl (by repeat' (first | exact trivial | assumption | exact xob_b rfl | exact xal_b rfl | (apply And.intro) | decide)) ?_
  refine xG_c2 0 rfl (by repeat' (first | exact trivial | assumption | exact xob_b rfl | exact xal_b rfl | (apply And.intro) | decide)) rfl rfl (by decide) cw_X3_weight (d' := d - 1) (e_weight ha) (by omega) ?_
  rintro v M' ⟨rfl, hM⟩
  subst M'
  refine xG_run 6 rfl (by repeat' (first | exact trivial | assumption | exact xob_b rfl | exact xal_b rfl | (apply And.intro) | decide)) ?_
  refine xG_br rfl (fun h14 => ?_) (fun h14 => ?_)
  · refine xG_run 8 rfl (by repeat' (first | exact trivial | assumption | exact xob_b rfl | exact xal_b rfl | (apply And.intro) | decide)) ?_
    refine xG_br rfl (fun h31 => ?_) (fun h31 => ?_)
    · refine xG_run 3 rfl (by repeat' (first | exact trivial | assumption | exact xob_b rfl | exact xal_b rfl | (apply And.intro) | decide)) ?_
      refine xG_br rfl (fun h43 => ?_) (fun h43 => ?_)
      · refine xG_run 1 rfl (by repeat' (first | exact trivial | assumption | exact xob_b rfl | exact xal_b rfl | (apply And.intro) | decide)) ?_
        refine r2_i rfl rfl ?_
        refine ⟨?_, rfl⟩
        first
          | (simp [cH, *]; done)
          | (exfalso; simp_all; done)
      · refine xG_run 5 rfl (by repeat' (first | exact trivial | assumption | exact xob_b rfl | exact xal_b rfl | (apply And.intro) | decide)) ?_
        refine r2_i rfl rfl ?_
        refine ⟨?_, rfl⟩
        first
          | (simp [cH, *]; done)
          | (exfalso; simp_all; done)
    · refine xG_run 3 rfl (by repeat' (first | exact trivial | assumption | exact xob_b rfl | exact xal_b rfl | (apply And.intro) | decide)) ?_
      refine r2_i rfl rfl ?_
      refine ⟨?_, rfl⟩
      first
        | (simp [cH, *]; done)
        | (exfalso; simp_all; done)
  · refine xG_run 1 rfl (by repeat' (first | exact trivial | assumption | exact xob_b rfl | exact xal_b rfl | (apply And.intro) | decide)) ?_
    refine r2_i rfl rfl ?_
    refine ⟨?_, rfl⟩
    first
      | (simp [cH, *]; done)
      | (exfalso; simp_all; done)
set_option maxRecDepth 4000 in
theorem e_failure {κ : xKK} {d : Nat} {M : xM} {a : Nat} (ha : xob a 3 182) : xE2 κ mX3_failure d [.ref a] M (fun v M' => v = some (.int (cT M a)) ∧ M' = M) := by
  refine xE2_of ci_X3_failure cl_X3_failure cw_X3_failure rfl (L := [some (.ref a)]) rfl ?_
  refine xG_run 3 rfl (by repeat' (first | exact trivial | assumption | exact xob_b rfl | exact xal_b rfl | (apply And.intro) | decide)) ?_
  refine xG_br rfl (fun h5 => ?_) (fun h5 => ?_)
  · refine xG_run 1 rfl (by repeat' (first | exact trivial | assumption | exact xob_b rfl | exact xal_b rfl | (apply And.intro) | decide)) ?_
    refine r2_i rfl rfl ?_
    refine ⟨?_, rfl⟩
    first
      | (simp [cT, *]; done)
      | (exfalso; simp_all; done)
  · refine xG_run 3 rfl (by repeat' (first | exact trivial | assumption | exact xob_b rfl | exact xal_b rfl | (apply And.intro) | decide)) ?_
    refine xG_br rfl (fun h13 => ?_) (fun h13 => ?_)
    · refine xG_run 3 rfl (by repeat' (first | exact trivial | assumption | exact xob_b rfl | exact xal_b rfl | (apply And.intro) | decide)) ?_
      refine xG_br rfl (fun h31 => ?_) (fun h31 => ?_)
      · refine xG_run 2 rfl (by repeat' (first | exact trivial | assumption | exact xob_b rfl | exact xal_b rfl | (apply And.intro) | decide)) ?_
        refine r2_i rfl rfl ?_
        refine ⟨?_, rfl⟩
        first
          | (simp [cT, *]; done)
          | (exfalso; simp_all; done)
      · refine xG_run 8 rfl (by repeat' (first | exact trivial | assumption | exact xob_b rfl | exact xal_b rfl | (apply And.intro) | decide)) ?_
        refine r2_i rfl rfl ?_
        refine ⟨?_, rfl⟩
        first
          | (simp [cT, *]; done)
          | (exfalso; simp_all; done)
    · refine xG_run 2 rfl (by repeat' (first | exact trivial | assumption | exact xob_b rfl | exact xal_b rfl | (apply And.intro) | decide)) ?_
      refine xG_br rfl (fun h20 => ?_) (fun h20 => ?_)
      · refine xG_run 3 rfl (by repeat' (first | exact trivial | assumption | exact xob_b rfl | exact xal_b rfl | (apply And.intro) | decide)) ?_
        refine xG_br rfl (fun h31 => ?_) (fun h31 => ?_)
        · refine xG_run 2 rfl (by repeat' (first | exact trivial | assumption | exact xob_b rfl | exact xal_b rfl | (apply And.intro) | decide)) ?_
          refine r2_i rfl rfl ?_
          refine ⟨?_, rfl⟩
          first
            | (simp [cT, *]; done)
            | (exfalso; simp_all; done)
        · refine xG_run 8 rfl (by repeat' (first | exact trivial | assumption | exact xob_b rfl | exact xal_b rfl | (apply And.intro) | decide)) ?_
          refine r2_i rfl rfl ?_
          refine ⟨?_, rfl⟩
          first
            | (simp [cT, *]; done)
            | (exfalso; simp_all; done)
      · refine xG_run 1 rfl (by repeat' (first | exact trivial | assumption | exact xob_b rfl | exact xal_b rfl | (apply And.intro) | decide)) ?_
        refine r2_i rfl rfl ?_
        refine ⟨?_, rfl⟩
        first
          | (simp [cT, *]; done)
          | (exfalso; simp_all; done)
set_option maxRecDepth 4000 in
theorem e_sheds {κ : xKK} {d : Nat} {M : xM} {a : Nat} {u : Int32} (ha : xob a 3 182) (h0 : ¬ (if gI M a 4 < 1 then (1 : Int32) else gI M a 4) = 0) : xE2 κ mX3_sheds d [.ref a, .int u] M (fun v M' => v = some (.int (cS M a u)) ∧ M' = M) := by
  refine xE2_of ci_X3_sheds cl_X3_sheds cw_X3_sheds rfl (L := [some (.ref a), some (.int u)]) rfl ?_
  refine xG_run 8 rfl (by repeat' (first | exact trivial | assumption | exact xob_b rfl | exact xal_b rfl | (apply And.intro) | decide)) ?_
  refine r2_i rfl rfl ?_
  exact ⟨rfl, rfl⟩
set_option maxRecDepth 4000 in
theorem e_pullAt {κ : xKK} {d : Nat} {M : xM} {a : Nat} {l : Int32} (ha : xob a 5 182) : xE2 κ mX5_pullAt d [.ref a, .int l] M (fun v M' => v = some (.int (cP M a l)) ∧ M' = M) := by
  refine xE2_of ci_X5_pullAt cl_X5_pullAt cw_X5_pullAt rfl (L := [some (.ref a), some (.int l), none]) rfl ?_
  refine xG_run 18 rfl (by repeat' (first | exact trivial | assumption | exact xob_b rfl | exact xal_b rfl | (apply And.intro) | decide)) ?_
  refine xG_br rfl (fun h30 => ?_) (fun h30 => ?_)
  · refine xG_run 2 rfl (by repeat' (first | exact trivial | assumption | exact xob_b rfl | exact xal_b rfl | (apply And.intro) | decide)) ?_
    refine r2_i rfl rfl ?_
    refine ⟨?_, rfl⟩
    unfold cP
    first
      | rw [if_pos h30]
      | (rw [if_neg h30]; first | rw [if_neg (i_nlt h34)] | rw [if_pos (i_nle h34)])
  · refine xG_run 1 rfl (by repeat' (first | exact trivial | assumption | exact xob_b rfl | exact xal_b rfl | (apply And.intro) | decide)) ?_
    refine xG_br rfl (fun h34 => ?_) (fun h34 => ?_)
    · refine xG_run 1 rfl (by repeat' (first | exact trivial | assumption | exact xob_b rfl | exact xal_b rfl | (apply And.intro) | decide)) ?_
      refine r2_i rfl rfl ?_
      refine ⟨?_, rfl⟩
      unfold cP
      first
        | rw [if_pos h30]
        | (rw [if_neg h30]; first | rw [if_neg (i_nlt h34)] | rw [if_pos (i_nle h34)])
    · refine xG_run 2 rfl (by repeat' (first | exact trivial | assumption | exact xob_b rfl | exact xal_b rfl | (apply And.intro) | decide)) ?_
      refine r2_i rfl rfl ?_
      refine ⟨?_, rfl⟩
      unfold cP
      first
        | rw [if_pos h30]
        | (rw [if_neg h30]; first | rw [if_neg (i_nlt h34)] | rw [if_pos (i_nle h34)])
