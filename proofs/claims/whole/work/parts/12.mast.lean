/-! ===== the mast, as the class holds it ===== -/
theorem xob_p1 {i : Nat} (h : i < 10) : xob (6 + i) 3 182 := xob_b ((show ∀ i, i < 10 → xobB (6 + i) 3 182 = true by decide +kernel) i h)
theorem xob_r1 {i : Nat} (h : i < 12) : xob (16 + i) 5 182 := xob_b ((show ∀ i, i < 12 → xobB (16 + i) 5 182 = true by decide +kernel) i h)
theorem xob_p28 {i : Nat} (h : i < 10) : xob (33 + i) 3 182 := xob_b ((show ∀ i, i < 10 → xobB (33 + i) 3 182 = true by decide +kernel) i h)
theorem xob_r28 {i : Nat} (h : i < 12) : xob (43 + i) 5 182 := xob_b ((show ∀ i, i < 12 → xobB (43 + i) 5 182 = true by decide +kernel) i h)
theorem xob_p75 {i : Nat} (h : i < 10) : xob (80 + i) 3 182 := xob_b ((show ∀ i, i < 10 → xobB (80 + i) 3 182 = true by decide +kernel) i h)
theorem xob_r75 {i : Nat} (h : i < 12) : xob (90 + i) 5 182 := xob_b ((show ∀ i, i < 12 → xobB (90 + i) 5 182 = true by decide +kernel) i h)
set_option maxRecDepth 4000 in
theorem e_allIce {κ : xKK} {d : Nat} {M : xM} {np : Nat} (hn : gI M 1 1 = nI np) (hn2 : np ≤ 10) : xE2 κ mX1_allIce d [.ref 1] M (fun v M' => v = some (.int (iSum (fun j => gI M (6 + j) 6) np)) ∧ M' = M) := by
  refine xE2_of ci_X1_allIce cl_X1_allIce cw_X1_allIce rfl (L := [some (.ref 1), none, none]) rfl ?_
  refine xG_run 4 rfl (by repeat' (first | exact trivial | assumption | exact xob_b rfl | exact xal_b rfl | (apply And.intro) | decide)) ?_
  refine xG_up (fun j => (4, [some (.ref 1), some (.int (iSum (fun j => gI M (6 + j) 6) j)), some (.int (nI j))], [], M, z2)) np ?_ ?_ 0 (Nat.zero_le _)
  · intro j hj ih
    have hj1 : (nI j).toNatClampNeg = j := nI_cl (by omega)
    have hx : xob (6 + (nI j).toNatClampNeg) 3 182 := by rw [hj1]; exact xob_p1 (by omega)
    have hq : xqr 2 182 (nI j) := xqr_n rfl 10 rfl (by omega) (by omega)
    refine xG_run 3 rfl (by repeat' (first | exact trivial | assumption | exact xob_b rfl | exact xal_b rfl | (apply And.intro) | decide)) ?_
    refine xG_brF rfl (by rw [hn]; exact nI_ge hj (by omega)) ?_
    refine xG_run 10 rfl (by repeat' (first | exact trivial | assumption | exact xob_b rfl | exact xal_b rfl | (apply And.intro) | decide)) ?_
    rw [hj1, nI_1]; exact ih
  · refine xG_run 3 rfl (by repeat' (first | exact trivial | assumption | exact xob_b rfl | exact xal_b rfl | (apply And.intro) | decide)) ?_
    refine xG_brT rfl (by rw [hn]; exact Int32.le_refl _) ?_
    refine xG_run 1 rfl (by repeat' (first | exact trivial | assumption | exact xob_b rfl | exact xal_b rfl | (apply And.intro) | decide)) ?_
    refine r2_i rfl rfl ?_
    exact ⟨rfl, rfl⟩
set_option maxRecDepth 4000 in
theorem e_allWeight {κ : xKK} {d : Nat} {M : xM} {np : Nat} (hn : gI M 1 1 = nI np) (hn2 : np ≤ 10) (hd : 1 ≤ d) : xE2 κ mX1_allWeight d [.ref 1] M (fun v M' => v = some (.int (iSum (fun j => cW M (6 + j)) np)) ∧ M' = M) := by
  refine xE2_of ci_X1_allWeight cl_X1_allWeight cw_X1_allWeight rfl (L := [some (.ref 1), none, none]) rfl ?_
  refine xG_run 4 rfl (by repeat' (first | exact trivial | assumption | exact xob_b rfl | exact xal_b rfl | (apply And.intro) | decide)) ?_
  refine xG_up (fun j => (4, [some (.ref 1), some (.int (iSum (fun j => cW M (6 + j)) j)), some (.int (nI j))], [], M, z2)) np ?_ ?_ 0 (Nat.zero_le _)
  · intro j hj ih
    have hj1 : (nI j).toNatClampNeg = j := nI_cl (by omega)
    have hx : xob (6 + (nI j).toNatClampNeg) 3 182 := by rw [hj1]; exact xob_p1 (by omega)
    have hq : xqr 2 182 (nI j) := xqr_n rfl 10 rfl (by omega) (by omega)
    refine xG_run 3 rfl (by repeat' (first | exact trivial | assumption | exact xob_b rfl | exact xal_b rfl | (apply And.intro) | decide)) ?_
    refine xG_brF rfl (by rw [hn]; exact nI_ge hj (by omega)) ?_
    refine xG_run 5 rfl (by repeat' (first | exact trivial | assumption | exact xob_b rfl | exact xal_b rfl | (apply And.intro) | decide)) ?_
    refine xG_c2 0 rfl (by repeat' (first | exact trivial | assumption | exact xob_b rfl | exact xal_b rfl | (apply And.intro) | decide)) rfl rfl (by decide) cw_X3_weight (d' := d - 1) (e_weight hx) (by omega) ?_
    rintro v M' ⟨rfl, hM⟩
    subst M'
    dsimp only [Option.toList, List.cons_append, List.nil_append]
    refine xG_run 4 rfl (by repeat' (first | exact trivial | assumption | exact xob_b rfl | exact xal_b rfl | (apply And.intro) | decide)) ?_
    rw [hj1, nI_1]; exact ih
  · refine xG_run 3 rfl (by repeat' (first | exact trivial | assumption | exact xob_b rfl | exact xal_b rfl | (apply And.intro) | decide)) ?_
    refine xG_brT rfl (by rw [hn]; exact Int32.le_refl _) ?_
    refine xG_run 1 rfl (by repeat' (first | exact trivial | assumption | exact xob_b rfl | exact xal_b rfl | (apply And.intro) | decide)) ?_
    refine r2_i rfl rfl ?_
    exact ⟨rfl, rfl⟩
set_option maxRecDepth 4000 in
theorem e_wholeRopes {κ : xKK} {d : Nat} {M : xM} {nr : Nat} (hn : gI M 1 3 = nI nr) (hn2 : nr ≤ 12) : xE2 κ mX1_wholeRopes d [.ref 1] M (fun v M' => v = some (.int (iSum (fun j => if gI M (16 + j) 5 = 0 then (1 : Int32) else 0) nr)) ∧ M' = M) := by
  refine xE2_of ci_X1_wholeRopes cl_X1_wholeRopes cw_X1_wholeRopes rfl (L := [some (.ref 1), none, none]) rfl ?_
  refine xG_run 4 rfl (by repeat' (first | exact trivial | assumption | exact xob_b rfl | exact xal_b rfl | (apply And.intro) | decide)) ?_
  refine xG_up (fun j => (4, [some (.ref 1), some (.int (iSum (fun j => if gI M (16 + j) 5 = 0 then (1 : Int32) else 0) j)), some (.int (nI j))], [], M, z2)) nr ?_ ?_ 0 (Nat.zero_le _)
  · intro j hj ih
    have hj1 : (nI j).toNatClampNeg = j := nI_cl (by omega)
    have hx : xob (16 + (nI j).toNatClampNeg) 5 182 := by rw [hj1]; exact xob_r1 (by omega)
    have hq : xqr 3 182 (nI j) := xqr_n rfl 12 rfl (by omega) (by omega)
    refine xG_run 3 rfl (by repeat' (first | exact trivial | assumption | exact xob_b rfl | exact xal_b rfl | (apply And.intro) | decide)) ?_
    refine xG_brF rfl (by rw [hn]; exact nI_ge hj (by omega)) ?_
    refine xG_run 6 rfl (by repeat' (first | exact trivial | assumption | exact xob_b rfl | exact xal_b rfl | (apply And.intro) | decide)) ?_
    refine xG_br rfl (fun h22 => ?_) (fun h22 => ?_)
    · refine xG_run 5 rfl (by repeat' (first | exact trivial | assumption | exact xob_b rfl | exact xal_b rfl | (apply And.intro) | decide)) ?_
      rw [hj1] at h22
      rw [nI_1, iSum_s (f := (fun j => if gI M (16 + j) 5 = 0 then (1 : Int32) else 0)) (n := j) (by first | exact if_pos h22 | exact if_neg h22 | exact if_pos (Decidable.not_not.mp h22))]; exact ih
    · refine xG_run 6 rfl (by repeat' (first | exact trivial | assumption | exact xob_b rfl | exact xal_b rfl | (apply And.intro) | decide)) ?_
      rw [hj1] at h22
      rw [nI_1, iSum_s (f := (fun j => if gI M (16 + j) 5 = 0 then (1 : Int32) else 0)) (n := j) (by first | exact if_pos h22 | exact if_neg h22 | exact if_pos (Decidable.not_not.mp h22))]; exact ih
  · refine xG_run 3 rfl (by repeat' (first | exact trivial | assumption | exact xob_b rfl | exact xal_b rfl | (apply And.intro) | decide)) ?_
    refine xG_brT rfl (by rw [hn]; exact Int32.le_refl _) ?_
    refine xG_run 1 rfl (by repeat' (first | exact trivial | assumption | exact xob_b rfl | exact xal_b rfl | (apply And.intro) | decide)) ?_
    refine r2_i rfl rfl ?_
    exact ⟨rfl, rfl⟩
set_option maxRecDepth 4000 in
theorem e_upperGust {κ : xKK} {d : Nat} {M : xM} {n : Nat} (hn : gI M 1 9 = nI n) (hn2 : n ≤ 8) : xE2 κ mX1_upperGust d [.ref 1] M (fun v M' => v = some (.int (iSum (gI M 5) n)) ∧ M' = M) := by
  refine xE2_of ci_X1_upperGust cl_X1_upperGust cw_X1_upperGust rfl (L := [some (.ref 1), none, none]) rfl ?_
  refine xG_run 4 rfl (by repeat' (first | exact trivial | assumption | exact xob_b rfl | exact xal_b rfl | (apply And.intro) | decide)) ?_
  refine xG_up (fun j => (4, [some (.ref 1), some (.int (iSum (gI M 5) j)), some (.int (nI j))], [], M, z2)) n ?_ ?_ 0 (Nat.zero_le _)
  · intro j hj ih
    have hj1 : (nI j).toNatClampNeg = j := nI_cl (by omega)
    have hx : xar 5 0 182 (nI j) := xar_n rfl 8 rfl (by omega) (by omega)
    refine xG_run 3 rfl (by repeat' (first | exact trivial | assumption | exact xob_b rfl | exact xal_b rfl | (apply And.intro) | decide)) ?_
    refine xG_brF rfl (by rw [hn]; exact nI_ge hj (by omega)) ?_
    refine xG_run 9 rfl (by repeat' (first | exact trivial | assumption | exact xob_b rfl | exact xal_b rfl | (apply And.intro) | decide)) ?_
    rw [hj1, nI_1]; exact ih
  · refine xG_run 3 rfl (by repeat' (first | exact trivial | assumption | exact xob_b rfl | exact xal_b rfl | (apply And.intro) | decide)) ?_
    refine xG_brT rfl (by rw [hn]; exact Int32.le_refl _) ?_
    refine xG_run 1 rfl (by repeat' (first | exact trivial | assumption | exact xob_b rfl | exact xal_b rfl | (apply And.intro) | decide)) ?_
    refine r2_i rfl rfl ?_
    exact ⟨rfl, rfl⟩
set_option maxRecDepth 4000 in
theorem e_lowerGust {κ : xKK} {d : Nat} {M : xM} {n q : Nat} (hn : gI M 1 9 = nI n) (hn2 : n ≤ 8) (hq : iSum (fun j => gI M 5 j * gI M 5 j) n = nI q) (hq2 : q < 8000000) : xE2 κ mX1_lowerGust d [.ref 1] M (fun v M' => (∃ s : Nat, v = some (.int (nI s)) ∧ s * s ≤ q ∧ q < (s + 1) * (s + 1)) ∧ M' = M) := by
  refine xE2_of ci_X1_lowerGust cl_X1_lowerGust cw_X1_lowerGust rfl (L := [some (.ref 1), none, none]) rfl ?_
  refine xG_run 4 rfl (by repeat' (first | exact trivial | assumption | exact xob_b rfl | exact xal_b rfl | (apply And.intro) | decide)) ?_
  refine xG_up (fun j => (4, [some (.ref 1), some (.int (iSum (fun j => gI M 5 j * gI M 5 j) j)), some (.int (nI j))], [], M, z2)) n ?_ ?_ 0 (Nat.zero_le _)
  · intro j hj ih
    have hj1 : (nI j).toNatClampNeg = j := nI_cl (by omega)
    have hx : xar 5 0 182 (nI j) := xar_n rfl 8 rfl (by omega) (by omega)
    refine xG_run 3 rfl (by repeat' (first | exact trivial | assumption | exact xob_b rfl | exact xal_b rfl | (apply And.intro) | decide)) ?_
    refine xG_brF rfl (by rw [hn]; exact nI_ge hj (by omega)) ?_
    refine xG_run 14 rfl (by repeat' (first | exact trivial | assumption | exact xob_b rfl | exact xal_b rfl | (apply And.intro) | decide)) ?_
    rw [hj1, nI_1]; exact ih
  · refine xG_run 3 rfl (by repeat' (first | exact trivial | assumption | exact xob_b rfl | exact xal_b rfl | (apply And.intro) | decide)) ?_
    refine xG_brT rfl (by rw [hn]; exact Int32.le_refl _) ?_
    refine xG_run 2 rfl (by repeat' (first | exact trivial | assumption | exact xob_b rfl | exact xal_b rfl | (apply And.intro) | decide)) ?_
    rw [hq]
    have lp : ∀ k j : Nat, k + j = 3000 → j * j ≤ q → xG κ mX1_lowerGust (d, 0, 0) (36, [some (.ref 1), some (.int (nI q)), some (.int (nI j))], [], M, z2) (xRet mX1_lowerGust false (fun v M' n' => n' = 182 ∧ ((∃ s : Nat, v = some (.int (nI s)) ∧ s * s ≤ q ∧ q < (s + 1) * (s + 1)) ∧ M' = M))) := by
      intro k
      induction k with
      | zero =>
        intro j hj h2
        have : j = 3000 := by omega
        subst this
        omega
      | succ k ih =>
        intro j hj h2
        have hs : j * j ≤ 3000 * 3000 := Nat.mul_le_mul (by omega) (by omega)
        have hs2 : (j + 1) * (j + 1) ≤ 3001 * 3001 := Nat.mul_le_mul (by omega) (by omega)
        refine xG_run 2 rfl (by repeat' (first | exact trivial | assumption | exact xob_b rfl | exact xal_b rfl | (apply And.intro) | decide)) ?_
        refine xG_brF rfl (nI_ge (a := j) (b := 10000) (by omega) (by omega)) ?_
        refine xG_run 8 rfl (by repeat' (first | exact trivial | assumption | exact xob_b rfl | exact xal_b rfl | (apply And.intro) | decide)) ?_
        refine xG_br rfl (fun h51 => ?_) (fun h51 => ?_)
        · refine xG_run 1 rfl (by repeat' (first | exact trivial | assumption | exact xob_b rfl | exact xal_b rfl | (apply And.intro) | decide)) ?_
          refine r2_i rfl rfl ?_
          refine ⟨⟨j, rfl, h2, ?_⟩, rfl⟩
          rw [nI_1, pk_mul] at h51
          exact (nI_ltI (by omega) (by omega)).mp h51
        · refine xG_run 2 rfl (by repeat' (first | exact trivial | assumption | exact xob_b rfl | exact xal_b rfl | (apply And.intro) | decide)) ?_
          rw [nI_1]; exact ih (j + 1) (by omega) (by rw [nI_1, pk_mul, Int32.not_lt] at h51; have := (nI_leI (by omega) (by omega)).mp h51; omega)
    exact lp 3000 0 (by omega) (by omega)
def cOd (M : xM) : Nat → Int32
  | 0 => 1000000
  | n + 1 => if 0 < gI M (6 + n) 6 then cOd M n * (100 - gI M (6 + n) 7) / 100 else cOd M n
set_option maxRecDepth 4000 in
theorem e_oddsNoneFalls {κ : xKK} {d : Nat} {M : xM} {np : Nat} (hn : gI M 1 1 = nI np) (hn2 : np ≤ 10) : xE2 κ mX1_oddsNoneFalls d [.ref 1] M (fun v M' => v = some (.int (cOd M np)) ∧ M' = M) := by
  refine xE2_of ci_X1_oddsNoneFalls cl_X1_oddsNoneFalls cw_X1_oddsNoneFalls rfl (L := [some (.ref 1), none, none]) rfl ?_
  refine xG_run 4 rfl (by repeat' (first | exact trivial | assumption | exact xob_b rfl | exact xal_b rfl | (apply And.intro) | decide)) ?_
  refine xG_up (fun j => (5, [some (.ref 1), some (.int (cOd M j)), some (.int (nI j))], [], M, z2)) np ?_ ?_ 0 (Nat.zero_le _)
  · intro j hj ih
    have hj1 : (nI j).toNatClampNeg = j := nI_cl (by omega)
    have hx : xob (6 + (nI j).toNatClampNeg) 3 182 := by rw [hj1]; exact xob_p1 (by omega)
    have hq : xqr 2 182 (nI j) := xqr_n rfl 10 rfl (by omega) (by omega)
    refine xG_run 3 rfl (by repeat' (first | exact trivial | assumption | exact xob_b rfl | exact xal_b rfl | (apply And.intro) | decide)) ?_
    refine xG_brF rfl (by rw [hn]; exact nI_ge hj (by omega)) ?_
    refine xG_run 5 rfl (by repeat' (first | exact trivial | assumption | exact xob_b rfl | exact xal_b rfl | (apply And.intro) | decide)) ?_
    refine xG_br rfl (fun h22 => ?_) (fun h22 => ?_)
    · refine xG_run 2 rfl (by repeat' (first | exact trivial | assumption | exact xob_b rfl | exact xal_b rfl | (apply And.intro) | decide)) ?_
      rw [hj1] at h22
      first
        | (rw [nI_1, ← (show cOd M (j + 1) = cOd M j from if_neg (by first | exact h22 | exact i_nlt h22))]; exact ih)
        | (rw [hj1, nI_1, ← (show cOd M (j + 1) = cOd M j * (100 - gI M (6 + j) 7) / 100 from if_pos (i_nle h22))]; exact ih)
    · refine xG_run 14 rfl (by repeat' (first | exact trivial | assumption | exact xob_b rfl | exact xal_b rfl | (apply And.intro) | decide)) ?_
      rw [hj1] at h22
      first
        | (rw [nI_1, ← (show cOd M (j + 1) = cOd M j from if_neg (by first | exact h22 | exact i_nlt h22))]; exact ih)
        | (rw [hj1, nI_1, ← (show cOd M (j + 1) = cOd M j * (100 - gI M (6 + j) 7) / 100 from if_pos (i_nle h22))]; exact ih)
  · refine xG_run 3 rfl (by repeat' (first | exact trivial | assumption | exact xob_b rfl | exact xal_b rfl | (apply And.intro) | decide)) ?_
    refine xG_brT rfl (by rw [hn]; exact Int32.le_refl _) ?_
    refine xG_run 1 rfl (by repeat' (first | exact trivial | assumption | exact xob_b rfl | exact xal_b rfl | (apply And.intro) | decide)) ?_
    refine r2_i rfl rfl ?_
    exact ⟨rfl, rfl⟩
set_option maxRecDepth 4000 in
theorem e_bitCount {κ : xKK} {d : Nat} {M : xM} {x : Int32} : xE2 κ mJ6_bitCount_0f7a4 d [.int x] M (fun v M' => v = some (.int (bC x)) ∧ M' = M) := by
  refine xE2_of ci_J6_bitCount_0f7a4 cl_J6_bitCount_0f7a4 cw_J6_bitCount_0f7a4 rfl (L := [some (.int x)]) rfl ?_
  refine xG_run 41 rfl (by repeat' (first | exact trivial | assumption | exact xob_b rfl | exact xal_b rfl | (apply And.intro) | decide)) ?_
  refine r2_i rfl rfl ?_
  exact ⟨rfl, rfl⟩
def cIc (M : xM) : Nat → Int32
  | 0 => 0
  | n + 1 => if 0 < gI M (6 + n) 6 ∧ bC (cIc M n) < 6 then cIc M n ||| ((1 : Int32) <<< (nI n &&& 31)) else cIc M n
set_option maxRecDepth 4000 in
theorem e_icySet {κ : xKK} {d : Nat} {M : xM} {np : Nat} (hn : gI M 1 1 = nI np) (hn2 : np ≤ 10) (hd : 1 ≤ d) : xE2 κ mX1_icySet d [.ref 1] M (fun v M' => v = some (.int (cIc M np)) ∧ M' = M) := by
  refine xE2_of ci_X1_icySet cl_X1_icySet cw_X1_icySet rfl (L := [some (.ref 1), none, none]) rfl ?_
  refine xG_run 4 rfl (by repeat' (first | exact trivial | assumption | exact xob_b rfl | exact xal_b rfl | (apply And.intro) | decide)) ?_
  refine xG_up (fun j => (4, [some (.ref 1), some (.int (cIc M j)), some (.int (nI j))], [], M, z2)) np ?_ ?_ 0 (Nat.zero_le _)
  · intro j hj ih
    have hj1 : (nI j).toNatClampNeg = j := nI_cl (by omega)
    have hx : xob (6 + (nI j).toNatClampNeg) 3 182 := by rw [hj1]; exact xob_p1 (by omega)
    have hq : xqr 2 182 (nI j) := xqr_n rfl 10 rfl (by omega) (by omega)
    refine xG_run 3 rfl (by repeat' (first | exact trivial | assumption | exact xob_b rfl | exact xal_b rfl | (apply And.intro) | decide)) ?_
    refine xG_brF rfl (by rw [hn]; exact nI_ge hj (by omega)) ?_
    refine xG_run 5 rfl (by repeat' (first | exact trivial | assumption | exact xob_b rfl | exact xal_b rfl | (apply And.intro) | decide)) ?_
    refine xG_br rfl (fun h21 => ?_) (fun h21 => ?_)
    · refine xG_run 2 rfl (by repeat' (first | exact trivial | assumption | exact xob_b rfl | exact xal_b rfl | (apply And.intro) | decide)) ?_
      rw [hj1] at h21
      first
        | (rw [nI_1, ← (show cIc M (j + 1) = cIc M j from if_neg (fun q => by first | exact i_nlt h21 q.1 | exact i_nlt h30 q.2))]; exact ih)
        | (rw [nI_1, ← (show cIc M (j + 1) = _ from if_pos ⟨i_nle h21, i_nle h30⟩)]; exact ih)
    · refine xG_run 1 rfl (by repeat' (first | exact trivial | assumption | exact xob_b rfl | exact xal_b rfl | (apply And.intro) | decide)) ?_
      refine xG_c2 1 rfl (by repeat' (first | exact trivial | assumption | exact xob_b rfl | exact xal_b rfl | (apply And.intro) | decide)) rfl rfl (by decide) cw_J6_bitCount_0f7a4 (d' := d - 1) (e_bitCount) (by omega) ?_
      rintro v M' ⟨rfl, hM⟩
      subst M'
      dsimp only [Option.toList, List.cons_append, List.nil_append]
      refine xG_run 1 rfl (by repeat' (first | exact trivial | assumption | exact xob_b rfl | exact xal_b rfl | (apply And.intro) | decide)) ?_
      refine xG_br rfl (fun h30 => ?_) (fun h30 => ?_)
      · refine xG_run 2 rfl (by repeat' (first | exact trivial | assumption | exact xob_b rfl | exact xal_b rfl | (apply And.intro) | decide)) ?_
        rw [hj1] at h21
        first
          | (rw [nI_1, ← (show cIc M (j + 1) = cIc M j from if_neg (fun q => by first | exact i_nlt h21 q.1 | exact i_nlt h30 q.2))]; exact ih)
          | (rw [nI_1, ← (show cIc M (j + 1) = _ from if_pos ⟨i_nle h21, i_nle h30⟩)]; exact ih)
      · refine xG_run 8 rfl (by repeat' (first | exact trivial | assumption | exact xob_b rfl | exact xal_b rfl | (apply And.intro) | decide)) ?_
        rw [hj1] at h21
        first
          | (rw [nI_1, ← (show cIc M (j + 1) = cIc M j from if_neg (fun q => by first | exact i_nlt h21 q.1 | exact i_nlt h30 q.2))]; exact ih)
          | (rw [nI_1, ← (show cIc M (j + 1) = _ from if_pos ⟨i_nle h21, i_nle h30⟩)]; exact ih)
  · refine xG_run 3 rfl (by repeat' (first | exact trivial | assumption | exact xob_b rfl | exact xal_b rfl | (apply And.intro) | decide)) ?_
    refine xG_brT rfl (by rw [hn]; exact Int32.le_refl _) ?_
    refine xG_run 1 rfl (by repeat' (first | exact trivial | assumption | exact xob_b rfl | exact xal_b rfl | (apply And.intro) | decide)) ?_
    refine r2_i rfl rfl ?_
    exact ⟨rfl, rfl⟩
def cLo (M : xM) (l : Int32) : Nat → Int32
  | 0 => 0
  | n + 1 => if gI M (16 + n) 5 = 0 ∧ cP M (16 + n) l = 0 then cLo M l n ||| ((1 : Int32) <<< (nI n &&& 31)) else cLo M l n
set_option maxRecDepth 4000 in
theorem e_looseAt {κ : xKK} {d : Nat} {M : xM} {nr : Nat} (hn : gI M 1 3 = nI nr) (hn2 : nr ≤ 12) {l : Int32} (hd : 1 ≤ d) : xE2 κ mX1_looseAt d [.ref 1, .int l] M (fun v M' => v = some (.int (cLo M l nr)) ∧ M' = M) := by
  refine xE2_of ci_X1_looseAt cl_X1_looseAt cw_X1_looseAt rfl (L := [some (.ref 1), some (.int l), none, none]) rfl ?_
  refine xG_run 4 rfl (by repeat' (first | exact trivial | assumption | exact xob_b rfl | exact xal_b rfl | (apply And.intro) | decide)) ?_
  refine xG_up (fun j => (4, [some (.ref 1), some (.int l), some (.int (cLo M l j)), some (.int (nI j))], [], M, z2)) nr ?_ ?_ 0 (Nat.zero_le _)
  · intro j hj ih
    have hj1 : (nI j).toNatClampNeg = j := nI_cl (by omega)
    have hx : xob (16 + (nI j).toNatClampNeg) 5 182 := by rw [hj1]; exact xob_r1 (by omega)
    have hq : xqr 3 182 (nI j) := xqr_n rfl 12 rfl (by omega) (by omega)
    refine xG_run 3 rfl (by repeat' (first | exact trivial | assumption | exact xob_b rfl | exact xal_b rfl | (apply And.intro) | decide)) ?_
    refine xG_brF rfl (by rw [hn]; exact nI_ge hj (by omega)) ?_
    refine xG_run 5 rfl (by repeat' (first | exact trivial | assumption | exact xob_b rfl | exact xal_b rfl | (apply And.intro) | decide)) ?_
    refine xG_br rfl (fun h21 => ?_) (fun h21 => ?_)
    · refine xG_run 2 rfl (by repeat' (first | exact trivial | assumption | exact xob_b rfl | exact xal_b rfl | (apply And.intro) | decide)) ?_
      rw [hj1] at h21
      try rw [hj1] at h34
      first
        | (rw [nI_1, ← (show cLo M l (j + 1) = cLo M l j from if_neg (fun q => by first | exact h21 q.1 | exact h34 q.2))]; exact ih)
        | (rw [nI_1, ← (show cLo M l (j + 1) = _ from if_pos ⟨Decidable.not_not.mp h21, Decidable.not_not.mp h34⟩)]; exact ih)
    · refine xG_run 5 rfl (by repeat' (first | exact trivial | assumption | exact xob_b rfl | exact xal_b rfl | (apply And.intro) | decide)) ?_
      refine xG_c2 1 rfl (by repeat' (first | exact trivial | assumption | exact xob_b rfl | exact xal_b rfl | (apply And.intro) | decide)) rfl rfl (by decide) cw_X5_pullAt (d' := d - 1) (e_pullAt hx) (by omega) ?_
      rintro v M' ⟨rfl, hM⟩
      subst M'
      dsimp only [Option.toList, List.cons_append, List.nil_append]
      refine xG_br rfl (fun h34 => ?_) (fun h34 => ?_)
      · refine xG_run 2 rfl (by repeat' (first | exact trivial | assumption | exact xob_b rfl | exact xal_b rfl | (apply And.intro) | decide)) ?_
        rw [hj1] at h21
        try rw [hj1] at h34
        first
          | (rw [nI_1, ← (show cLo M l (j + 1) = cLo M l j from if_neg (fun q => by first | exact h21 q.1 | exact h34 q.2))]; exact ih)
          | (rw [nI_1, ← (show cLo M l (j + 1) = _ from if_pos ⟨Decidable.not_not.mp h21, Decidable.not_not.mp h34⟩)]; exact ih)
      · refine xG_run 8 rfl (by repeat' (first | exact trivial | assumption | exact xob_b rfl | exact xal_b rfl | (apply And.intro) | decide)) ?_
        rw [hj1] at h21
        try rw [hj1] at h34
        first
          | (rw [nI_1, ← (show cLo M l (j + 1) = cLo M l j from if_neg (fun q => by first | exact h21 q.1 | exact h34 q.2))]; exact ih)
          | (rw [nI_1, ← (show cLo M l (j + 1) = _ from if_pos ⟨Decidable.not_not.mp h21, Decidable.not_not.mp h34⟩)]; exact ih)
  · refine xG_run 3 rfl (by repeat' (first | exact trivial | assumption | exact xob_b rfl | exact xal_b rfl | (apply And.intro) | decide)) ?_
    refine xG_brT rfl (by rw [hn]; exact Int32.le_refl _) ?_
    refine xG_run 1 rfl (by repeat' (first | exact trivial | assumption | exact xob_b rfl | exact xal_b rfl | (apply And.intro) | decide)) ?_
    refine r2_i rfl rfl ?_
    exact ⟨rfl, rfl⟩
def cSh (M : xM) (m a : Nat) : Int32 := if nI 5 - 1 < gI M a 2 / 20 then nI 5 - 1 else gI M a 2 / 20
def cV (M : xM) (m a : Nat) : Int64 := (gI M m 5 * gI M (m + 3) (cSh M m a).toNatClampNeg / 100).toInt64
def cPu (M : xM) (m a : Nat) : Int64 := cV M m a * cV M m a * (cF M a).toInt64 / 100 * (gI M m 6).toInt64
set_option maxRecDepth 4000 in
theorem e_pushOn1 {κ : xKK} {d : Nat} {M : xM} {i : Nat} (hi : i < 10) (h1 : 0 ≤ (cSh M 1 (6 + i)).toInt) (h2 : (cSh M 1 (6 + i)).toInt < 5) (hd : 1 ≤ d) : xE2 κ mX1_pushOn d [.ref 1, .ref (6 + i)] M (fun v M' => v = some (.long (cPu M 1 (6 + i))) ∧ M' = M) := by
  refine xE2_of ci_X1_pushOn cl_X1_pushOn cw_X1_pushOn rfl (L := [some (.ref 1), some (.ref (6 + i)), none, none, none]) rfl ?_
  have hx : xob (6 + i) 3 182 := xob_p1 hi
  have hs : xar 4 0 182 (cSh M 1 (6 + i)) := xar_b rfl 5 rfl h1 h2
  refine xG_run 26 rfl (by repeat' (first | exact trivial | assumption | exact xob_b rfl | exact xal_b rfl | (apply And.intro) | decide)) ?_
  refine xG_c2 0 rfl (by repeat' (first | exact trivial | assumption | exact xob_b rfl | exact xal_b rfl | (apply And.intro) | decide)) rfl rfl (by decide) cw_X3_faces (d' := d - 1) (e_faces hx) (by omega) ?_
  rintro v M' ⟨rfl, hM⟩
  subst M'
  dsimp only [Option.toList, List.cons_append, List.nil_append]
  refine xG_run 8 rfl (by repeat' (first | exact trivial | assumption | exact xob_b rfl | exact xal_b rfl | (apply And.intro) | decide)) ?_
  refine r2_l rfl rfl ?_
  exact ⟨rfl, rfl⟩
set_option maxRecDepth 4000 in
theorem e_pushMoment1 {κ : xKK} {d : Nat} {M : xM} {np : Nat} (hn : gI M 1 1 = nI np) (hn2 : np ≤ 10) (h1 : ∀ i, i < np → 0 ≤ (cSh M 1 (6 + i)).toInt ∧ (cSh M 1 (6 + i)).toInt < 5) (hd : 2 ≤ d) : xE2 κ mX1_pushMoment d [.ref 1] M (fun v M' => v = some (.long (lSum (fun i => cPu M 1 (6 + i) * (gI M (6 + i) 2).toInt64) np)) ∧ M' = M) := by
  refine xE2_of ci_X1_pushMoment cl_X1_pushMoment cw_X1_pushMoment rfl (L := [some (.ref 1), none, none, none]) rfl ?_
  refine xG_run 4 rfl (by repeat' (first | exact trivial | assumption | exact xob_b rfl | exact xal_b rfl | (apply And.intro) | decide)) ?_
  refine xG_up (fun j => (4, [some (.ref 1), some (.long (lSum (fun i => cPu M 1 (6 + i) * (gI M (6 + i) 2).toInt64) j)), none, some (.int (nI j))], [], M, z2)) np ?_ ?_ 0 (Nat.zero_le _)
  · intro j hj ih
    have hj1 : (nI j).toNatClampNeg = j := nI_cl (by omega)
    have hx : xob (6 + (nI j).toNatClampNeg) 3 182 := by rw [hj1]; exact xob_p1 (by omega)
    have hq : xqr 2 182 (nI j) := xqr_n rfl 10 rfl (by omega) (by omega)
    refine xG_run 3 rfl (by repeat' (first | exact trivial | assumption | exact xob_b rfl | exact xal_b rfl | (apply And.intro) | decide)) ?_
    refine xG_brF rfl (by rw [hn]; exact nI_ge hj (by omega)) ?_
    refine xG_run 6 rfl (by repeat' (first | exact trivial | assumption | exact xob_b rfl | exact xal_b rfl | (apply And.intro) | decide)) ?_
    refine xG_c2 1 rfl (by repeat' (first | exact trivial | assumption | exact xob_b rfl | exact xal_b rfl | (apply And.intro) | decide)) rfl rfl (by decide) cw_X1_pushOn (d' := d - 1) (e_pushOn1 (i := (nI j).toNatClampNeg) (by omega) (by rw [hj1]; exact (h1 j hj).1) (by rw [hj1]; exact (h1 j hj).2) (by omega)) (by omega) ?_
    rintro v M' ⟨rfl, hM⟩
    subst M'
    dsimp only [Option.toList, List.cons_append, List.nil_append]
    refine xG_run 11 rfl (by repeat' (first | exact trivial | assumption | exact xob_b rfl | exact xal_b rfl | (apply And.intro) | decide)) ?_
    rw [hj1, nI_1]; exact ih
  · refine xG_run 3 rfl (by repeat' (first | exact trivial | assumption | exact xob_b rfl | exact xal_b rfl | (apply And.intro) | decide)) ?_
    refine xG_brT rfl (by rw [hn]; exact Int32.le_refl _) ?_
    refine xG_run 1 rfl (by repeat' (first | exact trivial | assumption | exact xob_b rfl | exact xal_b rfl | (apply And.intro) | decide)) ?_
    refine r2_l rfl rfl ?_
    exact ⟨rfl, rfl⟩
set_option maxRecDepth 4000 in
theorem e_pushOn28 {κ : xKK} {d : Nat} {M : xM} {i : Nat} (hi : i < 10) (h1 : 0 ≤ (cSh M 28 (33 + i)).toInt) (h2 : (cSh M 28 (33 + i)).toInt < 5) (hd : 1 ≤ d) : xE2 κ mX1_pushOn d [.ref 28, .ref (33 + i)] M (fun v M' => v = some (.long (cPu M 28 (33 + i))) ∧ M' = M) := by
  refine xE2_of ci_X1_pushOn cl_X1_pushOn cw_X1_pushOn rfl (L := [some (.ref 28), some (.ref (33 + i)), none, none, none]) rfl ?_
  have hx : xob (33 + i) 3 182 := xob_p28 hi
  have hs : xar 31 0 182 (cSh M 28 (33 + i)) := xar_b rfl 5 rfl h1 h2
  refine xG_run 26 rfl (by repeat' (first | exact trivial | assumption | exact xob_b rfl | exact xal_b rfl | (apply And.intro) | decide)) ?_
  refine xG_c2 0 rfl (by repeat' (first | exact trivial | assumption | exact xob_b rfl | exact xal_b rfl | (apply And.intro) | decide)) rfl rfl (by decide) cw_X3_faces (d' := d - 1) (e_faces hx) (by omega) ?_
  rintro v M' ⟨rfl, hM⟩
  subst M'
  dsimp only [Option.toList, List.cons_append, List.nil_append]
  refine xG_run 8 rfl (by repeat' (first | exact trivial | assumption | exact xob_b rfl | exact xal_b rfl | (apply And.intro) | decide)) ?_
  refine r2_l rfl rfl ?_
  exact ⟨rfl, rfl⟩
set_option maxRecDepth 4000 in
theorem e_pushMoment28 {κ : xKK} {d : Nat} {M : xM} {np : Nat} (hn : gI M 28 1 = nI np) (hn2 : np ≤ 10) (h1 : ∀ i, i < np → 0 ≤ (cSh M 28 (33 + i)).toInt ∧ (cSh M 28 (33 + i)).toInt < 5) (hd : 2 ≤ d) : xE2 κ mX1_pushMoment d [.ref 28] M (fun v M' => v = some (.long (lSum (fun i => cPu M 28 (33 + i) * (gI M (33 + i) 2).toInt64) np)) ∧ M' = M) := by
  refine xE2_of ci_X1_pushMoment cl_X1_pushMoment cw_X1_pushMoment rfl (L := [some (.ref 28), none, none, none]) rfl ?_
  refine xG_run 4 rfl (by repeat' (first | exact trivial | assumption | exact xob_b rfl | exact xal_b rfl | (apply And.intro) | decide)) ?_
  refine xG_up (fun j => (4, [some (.ref 28), some (.long (lSum (fun i => cPu M 28 (33 + i) * (gI M (33 + i) 2).toInt64) j)), none, some (.int (nI j))], [], M, z2)) np ?_ ?_ 0 (Nat.zero_le _)
  · intro j hj ih
    have hj1 : (nI j).toNatClampNeg = j := nI_cl (by omega)
    have hx : xob (33 + (nI j).toNatClampNeg) 3 182 := by rw [hj1]; exact xob_p28 (by omega)
    have hq : xqr 29 182 (nI j) := xqr_n rfl 10 rfl (by omega) (by omega)
    refine xG_run 3 rfl (by repeat' (first | exact trivial | assumption | exact xob_b rfl | exact xal_b rfl | (apply And.intro) | decide)) ?_
    refine xG_brF rfl (by rw [hn]; exact nI_ge hj (by omega)) ?_
    refine xG_run 6 rfl (by repeat' (first | exact trivial | assumption | exact xob_b rfl | exact xal_b rfl | (apply And.intro) | decide)) ?_
    refine xG_c2 1 rfl (by repeat' (first | exact trivial | assumption | exact xob_b rfl | exact xal_b rfl | (apply And.intro) | decide)) rfl rfl (by decide) cw_X1_pushOn (d' := d - 1) (e_pushOn28 (i := (nI j).toNatClampNeg) (by omega) (by rw [hj1]; exact (h1 j hj).1) (by rw [hj1]; exact (h1 j hj).2) (by omega)) (by omega) ?_
    rintro v M' ⟨rfl, hM⟩
    subst M'
    dsimp only [Option.toList, List.cons_append, List.nil_append]
    refine xG_run 11 rfl (by repeat' (first | exact trivial | assumption | exact xob_b rfl | exact xal_b rfl | (apply And.intro) | decide)) ?_
    rw [hj1, nI_1]; exact ih
  · refine xG_run 3 rfl (by repeat' (first | exact trivial | assumption | exact xob_b rfl | exact xal_b rfl | (apply And.intro) | decide)) ?_
    refine xG_brT rfl (by rw [hn]; exact Int32.le_refl _) ?_
    refine xG_run 1 rfl (by repeat' (first | exact trivial | assumption | exact xob_b rfl | exact xal_b rfl | (apply And.intro) | decide)) ?_
    refine r2_l rfl rfl ?_
    exact ⟨rfl, rfl⟩
set_option maxRecDepth 4000 in
theorem e_pieceAt {κ : xKK} {d : Nat} {M : xM} {np : Nat} {i : Int32} (hn : gI M 1 1 = nI np) (hn2 : np ≤ 10) : xE2 κ mX1_pieceAt d [.ref 1, .int i] M (fun v M' => ((v = some .null ∧ ¬ (0 ≤ i ∧ i < nI np)) ∨ ∃ j : Nat, j < np ∧ i = nI j ∧ v = some (.ref (6 + j))) ∧ M' = M) := by
  refine xE2_of ci_X1_pieceAt cl_X1_pieceAt cw_X1_pieceAt rfl (L := [some (.ref 1), some (.int i)]) rfl ?_
  by_cases h0 : i < 0
  · refine xG_run 1 rfl (by repeat' (first | exact trivial | assumption | exact xob_b rfl | exact xal_b rfl | (apply And.intro) | decide)) ?_
    refine xG_brT rfl h0 ?_
    refine xG_run 1 rfl (by repeat' (first | exact trivial | assumption | exact xob_b rfl | exact xal_b rfl | (apply And.intro) | decide)) ?_
    refine r2_n rfl rfl rfl ?_
    exact ⟨Or.inl ⟨rfl, fun q => i_nlt q.1 h0⟩, rfl⟩
  · obtain ⟨j, hj, rfl⟩ := nI_of h0
    refine xG_run 1 rfl (by repeat' (first | exact trivial | assumption | exact xob_b rfl | exact xal_b rfl | (apply And.intro) | decide)) ?_
    refine xG_brF rfl h0 ?_
    refine xG_run 3 rfl (by repeat' (first | exact trivial | assumption | exact xob_b rfl | exact xal_b rfl | (apply And.intro) | decide)) ?_
    by_cases hlt : j < np
    · have hj1 : (nI j).toNatClampNeg = j := nI_cl (by omega)
      have hq : xqr 2 182 (nI j) := xqr_n rfl 10 rfl (by omega) (by omega)
      refine xG_brF rfl (by rw [hn]; exact nI_ge hlt (by omega)) ?_
      refine xG_run 5 rfl (by repeat' (first | exact trivial | assumption | exact xob_b rfl | exact xal_b rfl | (apply And.intro) | decide)) ?_
      rw [hj1]
      refine r2_r rfl rfl rfl ?_
      exact ⟨Or.inr ⟨j, hlt, rfl, rfl⟩, rfl⟩
    · refine xG_brT rfl (by rw [hn]; exact nI_le (by omega) hj) ?_
      refine xG_run 1 rfl (by repeat' (first | exact trivial | assumption | exact xob_b rfl | exact xal_b rfl | (apply And.intro) | decide)) ?_
      refine r2_n rfl rfl rfl ?_
      exact ⟨Or.inl ⟨rfl, fun q => nI_nlt (by omega) hj q.2⟩, rfl⟩
set_option maxRecDepth 4000 in
theorem e_ropeAt {κ : xKK} {d : Nat} {M : xM} {np : Nat} {i : Int32} (hn : gI M 1 3 = nI np) (hn2 : np ≤ 12) : xE2 κ mX1_ropeAt d [.ref 1, .int i] M (fun v M' => ((v = some .null ∧ ¬ (0 ≤ i ∧ i < nI np)) ∨ ∃ j : Nat, j < np ∧ i = nI j ∧ v = some (.ref (16 + j))) ∧ M' = M) := by
  refine xE2_of ci_X1_ropeAt cl_X1_ropeAt cw_X1_ropeAt rfl (L := [some (.ref 1), some (.int i)]) rfl ?_
  by_cases h0 : i < 0
  · refine xG_run 1 rfl (by repeat' (first | exact trivial | assumption | exact xob_b rfl | exact xal_b rfl | (apply And.intro) | decide)) ?_
    refine xG_brT rfl h0 ?_
    refine xG_run 1 rfl (by repeat' (first | exact trivial | assumption | exact xob_b rfl | exact xal_b rfl | (apply And.intro) | decide)) ?_
    refine r2_n rfl rfl rfl ?_
    exact ⟨Or.inl ⟨rfl, fun q => i_nlt q.1 h0⟩, rfl⟩
  · obtain ⟨j, hj, rfl⟩ := nI_of h0
    refine xG_run 1 rfl (by repeat' (first | exact trivial | assumption | exact xob_b rfl | exact xal_b rfl | (apply And.intro) | decide)) ?_
    refine xG_brF rfl h0 ?_
    refine xG_run 3 rfl (by repeat' (first | exact trivial | assumption | exact xob_b rfl | exact xal_b rfl | (apply And.intro) | decide)) ?_
    by_cases hlt : j < np
    · have hj1 : (nI j).toNatClampNeg = j := nI_cl (by omega)
      have hq : xqr 3 182 (nI j) := xqr_n rfl 12 rfl (by omega) (by omega)
      refine xG_brF rfl (by rw [hn]; exact nI_ge hlt (by omega)) ?_
      refine xG_run 5 rfl (by repeat' (first | exact trivial | assumption | exact xob_b rfl | exact xal_b rfl | (apply And.intro) | decide)) ?_
      rw [hj1]
      refine r2_r rfl rfl rfl ?_
      exact ⟨Or.inr ⟨j, hlt, rfl, rfl⟩, rfl⟩
    · refine xG_brT rfl (by rw [hn]; exact nI_le (by omega) hj) ?_
      refine xG_run 1 rfl (by repeat' (first | exact trivial | assumption | exact xob_b rfl | exact xal_b rfl | (apply And.intro) | decide)) ?_
      refine r2_n rfl rfl rfl ?_
      exact ⟨Or.inl ⟨rfl, fun q => nI_nlt (by omega) hj q.2⟩, rfl⟩
