/-! ===== the class's face: the simple calls ===== -/
theorem inI {j n : Nat} (h : j < n) (hn : n < 2147483648) : 0 ≤ nI j ∧ nI j < nI n := ⟨nI_pos' (by omega), nI_lt h hn⟩
set_option maxRecDepth 4000 in
theorem e_x_becomes {κ : xKK} {d : Nat} {M : xM} {nr : Nat} (hn : gI M 1 3 = nI nr) (hn2 : nr ≤ 12) {i w : Int32} (hd : 1 ≤ d) : xE2 κ mX11_becomes d [.ref 0, .int i, .int w] M (fun v M' => (∃ j, j < nr ∧ i = nI j ∧ 0 ≤ w ∧ w ≤ 2 ∧ v = some (.int (gI M (16 + j) 5)) ∧ M' = sI M (16 + j) 5 w) ∨ (¬ (∃ j, j < nr ∧ i = nI j ∧ 0 ≤ w ∧ w ≤ 2) ∧ v = some (.int (-1)) ∧ M' = M)) := by
  refine xE2_of ci_X11_becomes cl_X11_becomes cw_X11_becomes rfl (L := [some (.ref 0), some (.int i), some (.int w), none, none]) rfl ?_
  refine xG_run 3 rfl (by repeat' (first | exact trivial | assumption | exact xob_b rfl | exact xal_b rfl | (apply And.intro) | decide)) ?_
  refine xG_c2 1 rfl (by repeat' (first | exact trivial | assumption | exact xob_b rfl | exact xal_b rfl | (apply And.intro) | decide)) rfl rfl (by decide) cw_X1_ropeAt (d' := d - 1) (e_ropeAt hn hn2) (by omega) ?_
  rintro v M' ⟨hv, hM⟩
  subst M'
  rcases hv with ⟨rfl, hno⟩ | ⟨j, hj, hij, rfl⟩
  · dsimp only [Option.toList, List.cons_append, List.nil_append]
    refine xG_run 4 rfl (by repeat' (first | exact trivial | assumption | exact xob_b rfl | exact xal_b rfl | (apply And.intro) | decide)) ?_
    refine r2_i rfl rfl ?_
    first
      | exact Or.inl ⟨j, hj, hij, Int32.not_lt.mp h14, h19, rfl, rfl⟩
      | exact Or.inr ⟨fun ⟨j9, a1, a2, a3, a4⟩ => by first | exact hno (by rw [a2]; exact inI a1 (by omega)) | exact i_nlt a3 h14 | exact h19 a4, rfl, rfl⟩
  · dsimp only [Option.toList, List.cons_append, List.nil_append]
    have hx : xob (16 + j) 5 182 := xob_r1 (by omega)
    refine xG_run 4 rfl (by repeat' (first | exact trivial | assumption | exact xob_b rfl | exact xal_b rfl | (apply And.intro) | decide)) ?_
    refine xG_br rfl (fun h14 => ?_) (fun h14 => ?_)
    · refine xG_run 1 rfl (by repeat' (first | exact trivial | assumption | exact xob_b rfl | exact xal_b rfl | (apply And.intro) | decide)) ?_
      refine r2_i rfl rfl ?_
      first
        | exact Or.inl ⟨j, hj, hij, Int32.not_lt.mp h14, h19, rfl, rfl⟩
        | exact Or.inr ⟨fun ⟨j9, a1, a2, a3, a4⟩ => by first | exact hno (by rw [a2]; exact inI a1 (by omega)) | exact i_nlt a3 h14 | exact h19 a4, rfl, rfl⟩
    · refine xG_run 2 rfl (by repeat' (first | exact trivial | assumption | exact xob_b rfl | exact xal_b rfl | (apply And.intro) | decide)) ?_
      refine xG_br rfl (fun h19 => ?_) (fun h19 => ?_)
      · refine xG_run 7 rfl (by repeat' (first | exact trivial | assumption | exact xob_b rfl | exact xal_b rfl | (apply And.intro) | decide)) ?_
        refine r2_i rfl rfl ?_
        first
          | exact Or.inl ⟨j, hj, hij, Int32.not_lt.mp h14, h19, rfl, rfl⟩
          | exact Or.inr ⟨fun ⟨j9, a1, a2, a3, a4⟩ => by first | exact hno (by rw [a2]; exact inI a1 (by omega)) | exact i_nlt a3 h14 | exact h19 a4, rfl, rfl⟩
      · refine xG_run 1 rfl (by repeat' (first | exact trivial | assumption | exact xob_b rfl | exact xal_b rfl | (apply And.intro) | decide)) ?_
        refine r2_i rfl rfl ?_
        first
          | exact Or.inl ⟨j, hj, hij, Int32.not_lt.mp h14, h19, rfl, rfl⟩
          | exact Or.inr ⟨fun ⟨j9, a1, a2, a3, a4⟩ => by first | exact hno (by rw [a2]; exact inI a1 (by omega)) | exact i_nlt a3 h14 | exact h19 a4, rfl, rfl⟩
set_option maxRecDepth 4000 in
theorem e_x_tight {κ : xKK} {d : Nat} {M : xM} {nr : Nat} (hn : gI M 1 3 = nI nr) (hn2 : nr ≤ 12) {i w : Int32} (hd : 1 ≤ d) : xE2 κ mX11_tight d [.ref 0, .int i, .int w] M (fun v M' => (∃ j, j < nr ∧ i = nI j ∧ 0 ≤ w ∧ w ≤ 999 ∧ v = some (.int (gI M (16 + j) 4)) ∧ M' = sI M (16 + j) 4 w) ∨ (¬ (∃ j, j < nr ∧ i = nI j ∧ 0 ≤ w ∧ w ≤ 999) ∧ v = some (.int (-1)) ∧ M' = M)) := by
  refine xE2_of ci_X11_tight cl_X11_tight cw_X11_tight rfl (L := [some (.ref 0), some (.int i), some (.int w), none, none]) rfl ?_
  refine xG_run 3 rfl (by repeat' (first | exact trivial | assumption | exact xob_b rfl | exact xal_b rfl | (apply And.intro) | decide)) ?_
  refine xG_c2 1 rfl (by repeat' (first | exact trivial | assumption | exact xob_b rfl | exact xal_b rfl | (apply And.intro) | decide)) rfl rfl (by decide) cw_X1_ropeAt (d' := d - 1) (e_ropeAt hn hn2) (by omega) ?_
  rintro v M' ⟨hv, hM⟩
  subst M'
  rcases hv with ⟨rfl, hno⟩ | ⟨j, hj, hij, rfl⟩
  · dsimp only [Option.toList, List.cons_append, List.nil_append]
    refine xG_run 4 rfl (by repeat' (first | exact trivial | assumption | exact xob_b rfl | exact xal_b rfl | (apply And.intro) | decide)) ?_
    refine r2_i rfl rfl ?_
    first
      | exact Or.inl ⟨j, hj, hij, Int32.not_lt.mp h14, h21, rfl, rfl⟩
      | exact Or.inr ⟨fun ⟨j9, a1, a2, a3, a4⟩ => by first | exact hno (by rw [a2]; exact inI a1 (by omega)) | exact i_nlt a3 h14 | exact h21 a4, rfl, rfl⟩
  · dsimp only [Option.toList, List.cons_append, List.nil_append]
    have hx : xob (16 + j) 5 182 := xob_r1 (by omega)
    refine xG_run 4 rfl (by repeat' (first | exact trivial | assumption | exact xob_b rfl | exact xal_b rfl | (apply And.intro) | decide)) ?_
    refine xG_br rfl (fun h14 => ?_) (fun h14 => ?_)
    · refine xG_run 1 rfl (by repeat' (first | exact trivial | assumption | exact xob_b rfl | exact xal_b rfl | (apply And.intro) | decide)) ?_
      refine r2_i rfl rfl ?_
      first
        | exact Or.inl ⟨j, hj, hij, Int32.not_lt.mp h14, h21, rfl, rfl⟩
        | exact Or.inr ⟨fun ⟨j9, a1, a2, a3, a4⟩ => by first | exact hno (by rw [a2]; exact inI a1 (by omega)) | exact i_nlt a3 h14 | exact h21 a4, rfl, rfl⟩
    · refine xG_run 2 rfl (by repeat' (first | exact trivial | assumption | exact xob_b rfl | exact xal_b rfl | (apply And.intro) | decide)) ?_
      refine xG_br rfl (fun h21 => ?_) (fun h21 => ?_)
      · refine xG_run 7 rfl (by repeat' (first | exact trivial | assumption | exact xob_b rfl | exact xal_b rfl | (apply And.intro) | decide)) ?_
        refine r2_i rfl rfl ?_
        first
          | exact Or.inl ⟨j, hj, hij, Int32.not_lt.mp h14, h21, rfl, rfl⟩
          | exact Or.inr ⟨fun ⟨j9, a1, a2, a3, a4⟩ => by first | exact hno (by rw [a2]; exact inI a1 (by omega)) | exact i_nlt a3 h14 | exact h21 a4, rfl, rfl⟩
      · refine xG_run 1 rfl (by repeat' (first | exact trivial | assumption | exact xob_b rfl | exact xal_b rfl | (apply And.intro) | decide)) ?_
        refine r2_i rfl rfl ?_
        first
          | exact Or.inl ⟨j, hj, hij, Int32.not_lt.mp h14, h21, rfl, rfl⟩
          | exact Or.inr ⟨fun ⟨j9, a1, a2, a3, a4⟩ => by first | exact hno (by rw [a2]; exact inI a1 (by omega)) | exact i_nlt a3 h14 | exact h21 a4, rfl, rfl⟩
set_option maxRecDepth 4000 in
theorem e_x_ice {κ : xKK} {d : Nat} {M : xM} {np : Nat} (hn : gI M 1 1 = nI np) (hn2 : np ≤ 10) {i w : Int32} (hd : 1 ≤ d) : xE2 κ mX11_ice d [.ref 0, .int i, .int w] M (fun v M' => (∃ j, j < np ∧ i = nI j ∧ 0 ≤ w ∧ w ≤ 20 ∧ v = some (.int (gI M (6 + j) 6)) ∧ M' = sI M (6 + j) 6 w) ∨ (¬ (∃ j, j < np ∧ i = nI j ∧ 0 ≤ w ∧ w ≤ 20) ∧ v = some (.int (-1)) ∧ M' = M)) := by
  refine xE2_of ci_X11_ice cl_X11_ice cw_X11_ice rfl (L := [some (.ref 0), some (.int i), some (.int w), none, none]) rfl ?_
  refine xG_run 3 rfl (by repeat' (first | exact trivial | assumption | exact xob_b rfl | exact xal_b rfl | (apply And.intro) | decide)) ?_
  refine xG_c2 1 rfl (by repeat' (first | exact trivial | assumption | exact xob_b rfl | exact xal_b rfl | (apply And.intro) | decide)) rfl rfl (by decide) cw_X1_pieceAt (d' := d - 1) (e_pieceAt hn hn2) (by omega) ?_
  rintro v M' ⟨hv, hM⟩
  subst M'
  rcases hv with ⟨rfl, hno⟩ | ⟨j, hj, hij, rfl⟩
  · dsimp only [Option.toList, List.cons_append, List.nil_append]
    refine xG_run 4 rfl (by repeat' (first | exact trivial | assumption | exact xob_b rfl | exact xal_b rfl | (apply And.intro) | decide)) ?_
    refine r2_i rfl rfl ?_
    first
      | exact Or.inl ⟨j, hj, hij, Int32.not_lt.mp h14, h20, rfl, rfl⟩
      | exact Or.inr ⟨fun ⟨j9, a1, a2, a3, a4⟩ => by first | exact hno (by rw [a2]; exact inI a1 (by omega)) | exact i_nlt a3 h14 | exact h20 a4, rfl, rfl⟩
  · dsimp only [Option.toList, List.cons_append, List.nil_append]
    have hx : xob (6 + j) 3 182 := xob_p1 (by omega)
    refine xG_run 4 rfl (by repeat' (first | exact trivial | assumption | exact xob_b rfl | exact xal_b rfl | (apply And.intro) | decide)) ?_
    refine xG_br rfl (fun h14 => ?_) (fun h14 => ?_)
    · refine xG_run 1 rfl (by repeat' (first | exact trivial | assumption | exact xob_b rfl | exact xal_b rfl | (apply And.intro) | decide)) ?_
      refine r2_i rfl rfl ?_
      first
        | exact Or.inl ⟨j, hj, hij, Int32.not_lt.mp h14, h20, rfl, rfl⟩
        | exact Or.inr ⟨fun ⟨j9, a1, a2, a3, a4⟩ => by first | exact hno (by rw [a2]; exact inI a1 (by omega)) | exact i_nlt a3 h14 | exact h20 a4, rfl, rfl⟩
    · refine xG_run 2 rfl (by repeat' (first | exact trivial | assumption | exact xob_b rfl | exact xal_b rfl | (apply And.intro) | decide)) ?_
      refine xG_br rfl (fun h20 => ?_) (fun h20 => ?_)
      · refine xG_run 7 rfl (by repeat' (first | exact trivial | assumption | exact xob_b rfl | exact xal_b rfl | (apply And.intro) | decide)) ?_
        refine r2_i rfl rfl ?_
        first
          | exact Or.inl ⟨j, hj, hij, Int32.not_lt.mp h14, h20, rfl, rfl⟩
          | exact Or.inr ⟨fun ⟨j9, a1, a2, a3, a4⟩ => by first | exact hno (by rw [a2]; exact inI a1 (by omega)) | exact i_nlt a3 h14 | exact h20 a4, rfl, rfl⟩
      · refine xG_run 1 rfl (by repeat' (first | exact trivial | assumption | exact xob_b rfl | exact xal_b rfl | (apply And.intro) | decide)) ?_
        refine r2_i rfl rfl ?_
        first
          | exact Or.inl ⟨j, hj, hij, Int32.not_lt.mp h14, h20, rfl, rfl⟩
          | exact Or.inr ⟨fun ⟨j9, a1, a2, a3, a4⟩ => by first | exact hno (by rw [a2]; exact inI a1 (by omega)) | exact i_nlt a3 h14 | exact h20 a4, rfl, rfl⟩
set_option maxRecDepth 4000 in
theorem e_x_odds {κ : xKK} {d : Nat} {M : xM} {np : Nat} (hn : gI M 1 1 = nI np) (hn2 : np ≤ 10) {i w : Int32} (hd : 1 ≤ d) : xE2 κ mX11_odds d [.ref 0, .int i, .int w] M (fun v M' => (∃ j, j < np ∧ i = nI j ∧ 0 ≤ w ∧ w ≤ 100 ∧ v = some (.int (gI M (6 + j) 7)) ∧ M' = sI M (6 + j) 7 w) ∨ (¬ (∃ j, j < np ∧ i = nI j ∧ 0 ≤ w ∧ w ≤ 100) ∧ v = some (.int (-1)) ∧ M' = M)) := by
  refine xE2_of ci_X11_odds cl_X11_odds cw_X11_odds rfl (L := [some (.ref 0), some (.int i), some (.int w), none, none]) rfl ?_
  refine xG_run 3 rfl (by repeat' (first | exact trivial | assumption | exact xob_b rfl | exact xal_b rfl | (apply And.intro) | decide)) ?_
  refine xG_c2 1 rfl (by repeat' (first | exact trivial | assumption | exact xob_b rfl | exact xal_b rfl | (apply And.intro) | decide)) rfl rfl (by decide) cw_X1_pieceAt (d' := d - 1) (e_pieceAt hn hn2) (by omega) ?_
  rintro v M' ⟨hv, hM⟩
  subst M'
  rcases hv with ⟨rfl, hno⟩ | ⟨j, hj, hij, rfl⟩
  · dsimp only [Option.toList, List.cons_append, List.nil_append]
    refine xG_run 4 rfl (by repeat' (first | exact trivial | assumption | exact xob_b rfl | exact xal_b rfl | (apply And.intro) | decide)) ?_
    refine r2_i rfl rfl ?_
    first
      | exact Or.inl ⟨j, hj, hij, Int32.not_lt.mp h14, h20, rfl, rfl⟩
      | exact Or.inr ⟨fun ⟨j9, a1, a2, a3, a4⟩ => by first | exact hno (by rw [a2]; exact inI a1 (by omega)) | exact i_nlt a3 h14 | exact h20 a4, rfl, rfl⟩
  · dsimp only [Option.toList, List.cons_append, List.nil_append]
    have hx : xob (6 + j) 3 182 := xob_p1 (by omega)
    refine xG_run 4 rfl (by repeat' (first | exact trivial | assumption | exact xob_b rfl | exact xal_b rfl | (apply And.intro) | decide)) ?_
    refine xG_br rfl (fun h14 => ?_) (fun h14 => ?_)
    · refine xG_run 1 rfl (by repeat' (first | exact trivial | assumption | exact xob_b rfl | exact xal_b rfl | (apply And.intro) | decide)) ?_
      refine r2_i rfl rfl ?_
      first
        | exact Or.inl ⟨j, hj, hij, Int32.not_lt.mp h14, h20, rfl, rfl⟩
        | exact Or.inr ⟨fun ⟨j9, a1, a2, a3, a4⟩ => by first | exact hno (by rw [a2]; exact inI a1 (by omega)) | exact i_nlt a3 h14 | exact h20 a4, rfl, rfl⟩
    · refine xG_run 2 rfl (by repeat' (first | exact trivial | assumption | exact xob_b rfl | exact xal_b rfl | (apply And.intro) | decide)) ?_
      refine xG_br rfl (fun h20 => ?_) (fun h20 => ?_)
      · refine xG_run 7 rfl (by repeat' (first | exact trivial | assumption | exact xob_b rfl | exact xal_b rfl | (apply And.intro) | decide)) ?_
        refine r2_i rfl rfl ?_
        first
          | exact Or.inl ⟨j, hj, hij, Int32.not_lt.mp h14, h20, rfl, rfl⟩
          | exact Or.inr ⟨fun ⟨j9, a1, a2, a3, a4⟩ => by first | exact hno (by rw [a2]; exact inI a1 (by omega)) | exact i_nlt a3 h14 | exact h20 a4, rfl, rfl⟩
      · refine xG_run 1 rfl (by repeat' (first | exact trivial | assumption | exact xob_b rfl | exact xal_b rfl | (apply And.intro) | decide)) ?_
        refine r2_i rfl rfl ?_
        first
          | exact Or.inl ⟨j, hj, hij, Int32.not_lt.mp h14, h20, rfl, rfl⟩
          | exact Or.inr ⟨fun ⟨j9, a1, a2, a3, a4⟩ => by first | exact hno (by rw [a2]; exact inI a1 (by omega)) | exact i_nlt a3 h14 | exact h20 a4, rfl, rfl⟩
set_option maxRecDepth 4000 in
theorem e_about {κ : xKK} {d : Nat} {M : xM} {a : Nat} {w : Int32} (ha : xob a 3 182) (hd : 1 ≤ d) : xE2 κ mX3_about d [.ref a, .int w] M (fun v M' => v = some (.int (cAb M a w)) ∧ M' = M) := by
  refine xE2_of ci_X3_about cl_X3_about cw_X3_about rfl (L := [some (.ref a), some (.int w)]) rfl ?_
  refine xG_run 1 rfl (by repeat' (first | exact trivial | assumption | exact xob_b rfl | exact xal_b rfl | (apply And.intro) | decide)) ?_
  by_cases q0 : w = 0
  · refine xG_swI 48 0 rfl (by rw [q0]; decide) (by decide) rfl (by decide) ?_
    refine xG_run 2 rfl (by repeat' (first | exact trivial | assumption | exact xob_b rfl | exact xal_b rfl | (apply And.intro) | decide)) ?_
    refine r2_i rfl rfl ?_
    refine ⟨?_, rfl⟩
    simp [cAb, *]
  by_cases q1 : w = 1
  · refine xG_swI 53 1 rfl (by rw [q1]; decide) (by decide) rfl (by decide) ?_
    refine xG_run 2 rfl (by repeat' (first | exact trivial | assumption | exact xob_b rfl | exact xal_b rfl | (apply And.intro) | decide)) ?_
    refine r2_i rfl rfl ?_
    refine ⟨?_, rfl⟩
    simp [cAb, *]
  by_cases q2 : w = 2
  · refine xG_swI 58 2 rfl (by rw [q2]; decide) (by decide) rfl (by decide) ?_
    refine xG_run 2 rfl (by repeat' (first | exact trivial | assumption | exact xob_b rfl | exact xal_b rfl | (apply And.intro) | decide)) ?_
    refine r2_i rfl rfl ?_
    refine ⟨?_, rfl⟩
    simp [cAb, *]
  by_cases q3 : w = 3
  · refine xG_swI 63 3 rfl (by rw [q3]; decide) (by decide) rfl (by decide) ?_
    refine xG_run 2 rfl (by repeat' (first | exact trivial | assumption | exact xob_b rfl | exact xal_b rfl | (apply And.intro) | decide)) ?_
    refine r2_i rfl rfl ?_
    refine ⟨?_, rfl⟩
    simp [cAb, *]
  by_cases q4 : w = 4
  · refine xG_swI 68 4 rfl (by rw [q4]; decide) (by decide) rfl (by decide) ?_
    refine xG_run 2 rfl (by repeat' (first | exact trivial | assumption | exact xob_b rfl | exact xal_b rfl | (apply And.intro) | decide)) ?_
    refine r2_i rfl rfl ?_
    refine ⟨?_, rfl⟩
    simp [cAb, *]
  by_cases q5 : w = 5
  · refine xG_swI 73 5 rfl (by rw [q5]; decide) (by decide) rfl (by decide) ?_
    refine xG_run 2 rfl (by repeat' (first | exact trivial | assumption | exact xob_b rfl | exact xal_b rfl | (apply And.intro) | decide)) ?_
    refine r2_i rfl rfl ?_
    refine ⟨?_, rfl⟩
    simp [cAb, *]
  by_cases q6 : w = 6
  · refine xG_swI 78 6 rfl (by rw [q6]; decide) (by decide) rfl (by decide) ?_
    refine xG_run 1 rfl (by repeat' (first | exact trivial | assumption | exact xob_b rfl | exact xal_b rfl | (apply And.intro) | decide)) ?_
    refine xG_c2 0 rfl (by repeat' (first | exact trivial | assumption | exact xob_b rfl | exact xal_b rfl | (apply And.intro) | decide)) rfl rfl (by decide) cw_X3_weight (d' := d - 1) (e_weight ha) (by omega) ?_
    rintro v M' ⟨rfl, hM⟩
    subst M'
    dsimp only [Option.toList, List.cons_append, List.nil_append]
    refine r2_i rfl rfl ?_
    refine ⟨?_, rfl⟩
    simp [cAb, *]
  by_cases q7 : w = 7
  · refine xG_swI 83 7 rfl (by rw [q7]; decide) (by decide) rfl (by decide) ?_
    refine xG_run 1 rfl (by repeat' (first | exact trivial | assumption | exact xob_b rfl | exact xal_b rfl | (apply And.intro) | decide)) ?_
    refine xG_c2 0 rfl (by repeat' (first | exact trivial | assumption | exact xob_b rfl | exact xal_b rfl | (apply And.intro) | decide)) rfl rfl (by decide) cw_X3_faces (d' := d - 1) (e_faces ha) (by omega) ?_
    rintro v M' ⟨rfl, hM⟩
    subst M'
    dsimp only [Option.toList, List.cons_append, List.nil_append]
    refine r2_i rfl rfl ?_
    refine ⟨?_, rfl⟩
    simp [cAb, *]
  refine xG_swO 88 rfl (by have := lv_neT q0 (a := 0) (by decide); have := lv_neT q1 (a := 1) (by decide); have := lv_neT q2 (a := 2) (by decide); have := lv_neT q3 (a := 3) (by decide); have := lv_neT q4 (a := 4) (by decide); have := lv_neT q5 (a := 5) (by decide); have := lv_neT q6 (a := 6) (by decide); have := lv_neT q7 (a := 7) (by decide); omega) (by decide) ?_
  refine xG_run 1 rfl (by repeat' (first | exact trivial | assumption | exact xob_b rfl | exact xal_b rfl | (apply And.intro) | decide)) ?_
  refine r2_i rfl rfl ?_
  refine ⟨?_, rfl⟩
  simp [cAb, *]
set_option maxRecDepth 4000 in
theorem e_rabout {κ : xKK} {d : Nat} {M : xM} {a : Nat} {w : Int32} (ha : xob a 5 182) : xE2 κ mX5_about d [.ref a, .int w] M (fun v M' => v = some (.int (cRb M a w)) ∧ M' = M) := by
  refine xE2_of ci_X5_about cl_X5_about cw_X5_about rfl (L := [some (.ref a), some (.int w)]) rfl ?_
  refine xG_run 1 rfl (by repeat' (first | exact trivial | assumption | exact xob_b rfl | exact xal_b rfl | (apply And.intro) | decide)) ?_
  by_cases q0 : w = 0
  · refine xG_swI 44 0 rfl (by rw [q0]; decide) (by decide) rfl (by decide) ?_
    refine xG_run 2 rfl (by repeat' (first | exact trivial | assumption | exact xob_b rfl | exact xal_b rfl | (apply And.intro) | decide)) ?_
    refine r2_i rfl rfl ?_
    refine ⟨?_, rfl⟩
    first
      | (simp [cRb, *]; done)
      | (exfalso; simp_all; done)
  by_cases q1 : w = 1
  · refine xG_swI 49 1 rfl (by rw [q1]; decide) (by decide) rfl (by decide) ?_
    refine xG_run 3 rfl (by repeat' (first | exact trivial | assumption | exact xob_b rfl | exact xal_b rfl | (apply And.intro) | decide)) ?_
    refine xG_br rfl (fun h54 => ?_) (fun h54 => ?_)
    · refine xG_run 1 rfl (by repeat' (first | exact trivial | assumption | exact xob_b rfl | exact xal_b rfl | (apply And.intro) | decide)) ?_
      refine r2_i rfl rfl ?_
      refine ⟨?_, rfl⟩
      first
        | (simp [cRb, *]; done)
        | (exfalso; simp_all; done)
    · refine xG_run 2 rfl (by repeat' (first | exact trivial | assumption | exact xob_b rfl | exact xal_b rfl | (apply And.intro) | decide)) ?_
      refine r2_i rfl rfl ?_
      refine ⟨?_, rfl⟩
      first
        | (simp [cRb, *]; done)
        | (exfalso; simp_all; done)
  by_cases q2 : w = 2
  · refine xG_swI 63 2 rfl (by rw [q2]; decide) (by decide) rfl (by decide) ?_
    refine xG_run 2 rfl (by repeat' (first | exact trivial | assumption | exact xob_b rfl | exact xal_b rfl | (apply And.intro) | decide)) ?_
    refine r2_i rfl rfl ?_
    refine ⟨?_, rfl⟩
    first
      | (simp [cRb, *]; done)
      | (exfalso; simp_all; done)
  by_cases q3 : w = 3
  · refine xG_swI 68 3 rfl (by rw [q3]; decide) (by decide) rfl (by decide) ?_
    refine xG_run 2 rfl (by repeat' (first | exact trivial | assumption | exact xob_b rfl | exact xal_b rfl | (apply And.intro) | decide)) ?_
    refine r2_i rfl rfl ?_
    refine ⟨?_, rfl⟩
    first
      | (simp [cRb, *]; done)
      | (exfalso; simp_all; done)
  by_cases q4 : w = 4
  · refine xG_swI 73 4 rfl (by rw [q4]; decide) (by decide) rfl (by decide) ?_
    refine xG_run 2 rfl (by repeat' (first | exact trivial | assumption | exact xob_b rfl | exact xal_b rfl | (apply And.intro) | decide)) ?_
    refine r2_i rfl rfl ?_
    refine ⟨?_, rfl⟩
    first
      | (simp [cRb, *]; done)
      | (exfalso; simp_all; done)
  by_cases q5 : w = 5
  · refine xG_swI 78 5 rfl (by rw [q5]; decide) (by decide) rfl (by decide) ?_
    refine xG_run 2 rfl (by repeat' (first | exact trivial | assumption | exact xob_b rfl | exact xal_b rfl | (apply And.intro) | decide)) ?_
    refine r2_i rfl rfl ?_
    refine ⟨?_, rfl⟩
    first
      | (simp [cRb, *]; done)
      | (exfalso; simp_all; done)
  by_cases q6 : w = 6
  · refine xG_swI 83 6 rfl (by rw [q6]; decide) (by decide) rfl (by decide) ?_
    refine xG_run 2 rfl (by repeat' (first | exact trivial | assumption | exact xob_b rfl | exact xal_b rfl | (apply And.intro) | decide)) ?_
    refine r2_i rfl rfl ?_
    refine ⟨?_, rfl⟩
    first
      | (simp [cRb, *]; done)
      | (exfalso; simp_all; done)
  refine xG_swO 88 rfl (by have := lv_neT q0 (a := 0) (by decide); have := lv_neT q1 (a := 1) (by decide); have := lv_neT q2 (a := 2) (by decide); have := lv_neT q3 (a := 3) (by decide); have := lv_neT q4 (a := 4) (by decide); have := lv_neT q5 (a := 5) (by decide); have := lv_neT q6 (a := 6) (by decide); omega) (by decide) ?_
  refine xG_run 1 rfl (by repeat' (first | exact trivial | assumption | exact xob_b rfl | exact xal_b rfl | (apply And.intro) | decide)) ?_
  refine r2_i rfl rfl ?_
  refine ⟨?_, rfl⟩
  first
    | (simp [cRb, *]; done)
    | (exfalso; simp_all; done)
set_option maxRecDepth 4000 in
theorem e_x_piece {κ : xKK} {d : Nat} {M : xM} {np : Nat} (hn : gI M 1 1 = nI np) (hn2 : np ≤ 10) {i w : Int32} (hd : 2 ≤ d) : xE2 κ mX11_piece d [.ref 0, .int i, .int w] M (fun v M' => ((∃ j, j < np ∧ i = nI j ∧ 0 ≤ w ∧ w ≤ 7 ∧ v = some (.int (cAb M (6 + j) w))) ∨ (¬ (∃ j, j < np ∧ i = nI j ∧ 0 ≤ w ∧ w ≤ 7) ∧ v = some (.int (-1)))) ∧ M' = M) := by
  refine xE2_of ci_X11_piece cl_X11_piece cw_X11_piece rfl (L := [some (.ref 0), some (.int i), some (.int w), none]) rfl ?_
  refine xG_run 3 rfl (by repeat' (first | exact trivial | assumption | exact xob_b rfl | exact xal_b rfl | (apply And.intro) | decide)) ?_
  refine xG_c2 1 rfl (by repeat' (first | exact trivial | assumption | exact xob_b rfl | exact xal_b rfl | (apply And.intro) | decide)) rfl rfl (by decide) cw_X1_pieceAt (d' := d - 1) (e_pieceAt hn hn2) (by omega) ?_
  rintro v M' ⟨hv, hM⟩
  subst M'
  rcases hv with ⟨rfl, hno⟩ | ⟨j, hj, hij, rfl⟩
  · dsimp only [Option.toList, List.cons_append, List.nil_append]
    refine xG_run 5 rfl (by repeat' (first | exact trivial | assumption | exact xob_b rfl | exact xal_b rfl | (apply And.intro) | decide)) ?_
    refine r2_i rfl rfl ?_
    first
      | exact ⟨Or.inl ⟨j, hj, hij, Int32.not_lt.mp h14, h20, rfl⟩, rfl⟩
      | exact ⟨Or.inr ⟨fun ⟨j9, a1, a2, a3, a4⟩ => by first | exact hno (by rw [a2]; exact inI a1 (by omega)) | exact i_nlt a3 h14 | exact h20 a4, rfl⟩, rfl⟩
  · dsimp only [Option.toList, List.cons_append, List.nil_append]
    have hx : xob (6 + j) 3 182 := xob_p1 (by omega)
    refine xG_run 4 rfl (by repeat' (first | exact trivial | assumption | exact xob_b rfl | exact xal_b rfl | (apply And.intro) | decide)) ?_
    refine xG_br rfl (fun h14 => ?_) (fun h14 => ?_)
    · refine xG_run 2 rfl (by repeat' (first | exact trivial | assumption | exact xob_b rfl | exact xal_b rfl | (apply And.intro) | decide)) ?_
      refine r2_i rfl rfl ?_
      first
        | exact ⟨Or.inl ⟨j, hj, hij, Int32.not_lt.mp h14, h20, rfl⟩, rfl⟩
        | exact ⟨Or.inr ⟨fun ⟨j9, a1, a2, a3, a4⟩ => by first | exact hno (by rw [a2]; exact inI a1 (by omega)) | exact i_nlt a3 h14 | exact h20 a4, rfl⟩, rfl⟩
    · refine xG_run 2 rfl (by repeat' (first | exact trivial | assumption | exact xob_b rfl | exact xal_b rfl | (apply And.intro) | decide)) ?_
      refine xG_br rfl (fun h20 => ?_) (fun h20 => ?_)
      · refine xG_run 2 rfl (by repeat' (first | exact trivial | assumption | exact xob_b rfl | exact xal_b rfl | (apply And.intro) | decide)) ?_
        refine xG_c2 1 rfl (by repeat' (first | exact trivial | assumption | exact xob_b rfl | exact xal_b rfl | (apply And.intro) | decide)) rfl rfl (by decide) cw_X3_about (d' := d - 1) (e_about hx (by omega)) (by omega) ?_
        rintro v M' ⟨rfl, hM⟩
        subst M'
        dsimp only [Option.toList, List.cons_append, List.nil_append]
        refine r2_i rfl rfl ?_
        first
          | exact ⟨Or.inl ⟨j, hj, hij, Int32.not_lt.mp h14, h20, rfl⟩, rfl⟩
          | exact ⟨Or.inr ⟨fun ⟨j9, a1, a2, a3, a4⟩ => by first | exact hno (by rw [a2]; exact inI a1 (by omega)) | exact i_nlt a3 h14 | exact h20 a4, rfl⟩, rfl⟩
      · refine xG_run 2 rfl (by repeat' (first | exact trivial | assumption | exact xob_b rfl | exact xal_b rfl | (apply And.intro) | decide)) ?_
        refine r2_i rfl rfl ?_
        first
          | exact ⟨Or.inl ⟨j, hj, hij, Int32.not_lt.mp h14, h20, rfl⟩, rfl⟩
          | exact ⟨Or.inr ⟨fun ⟨j9, a1, a2, a3, a4⟩ => by first | exact hno (by rw [a2]; exact inI a1 (by omega)) | exact i_nlt a3 h14 | exact h20 a4, rfl⟩, rfl⟩
set_option maxRecDepth 4000 in
theorem e_x_rope {κ : xKK} {d : Nat} {M : xM} {nr : Nat} (hn : gI M 1 3 = nI nr) (hn2 : nr ≤ 12) {i w : Int32} (hd : 2 ≤ d) : xE2 κ mX11_rope d [.ref 0, .int i, .int w] M (fun v M' => ((∃ j, j < nr ∧ i = nI j ∧ 0 ≤ w ∧ w ≤ 6 ∧ v = some (.int (cRb M (16 + j) w))) ∨ (¬ (∃ j, j < nr ∧ i = nI j ∧ 0 ≤ w ∧ w ≤ 6) ∧ v = some (.int (-1)))) ∧ M' = M) := by
  refine xE2_of ci_X11_rope cl_X11_rope cw_X11_rope rfl (L := [some (.ref 0), some (.int i), some (.int w), none]) rfl ?_
  refine xG_run 3 rfl (by repeat' (first | exact trivial | assumption | exact xob_b rfl | exact xal_b rfl | (apply And.intro) | decide)) ?_
  refine xG_c2 1 rfl (by repeat' (first | exact trivial | assumption | exact xob_b rfl | exact xal_b rfl | (apply And.intro) | decide)) rfl rfl (by decide) cw_X1_ropeAt (d' := d - 1) (e_ropeAt hn hn2) (by omega) ?_
  rintro v M' ⟨hv, hM⟩
  subst M'
  rcases hv with ⟨rfl, hno⟩ | ⟨j, hj, hij, rfl⟩
  · dsimp only [Option.toList, List.cons_append, List.nil_append]
    refine xG_run 5 rfl (by repeat' (first | exact trivial | assumption | exact xob_b rfl | exact xal_b rfl | (apply And.intro) | decide)) ?_
    refine r2_i rfl rfl ?_
    first
      | exact ⟨Or.inl ⟨j, hj, hij, Int32.not_lt.mp h14, h20, rfl⟩, rfl⟩
      | exact ⟨Or.inr ⟨fun ⟨j9, a1, a2, a3, a4⟩ => by first | exact hno (by rw [a2]; exact inI a1 (by omega)) | exact i_nlt a3 h14 | exact h20 a4, rfl⟩, rfl⟩
  · dsimp only [Option.toList, List.cons_append, List.nil_append]
    have hx : xob (16 + j) 5 182 := xob_r1 (by omega)
    refine xG_run 4 rfl (by repeat' (first | exact trivial | assumption | exact xob_b rfl | exact xal_b rfl | (apply And.intro) | decide)) ?_
    refine xG_br rfl (fun h14 => ?_) (fun h14 => ?_)
    · refine xG_run 2 rfl (by repeat' (first | exact trivial | assumption | exact xob_b rfl | exact xal_b rfl | (apply And.intro) | decide)) ?_
      refine r2_i rfl rfl ?_
      first
        | exact ⟨Or.inl ⟨j, hj, hij, Int32.not_lt.mp h14, h20, rfl⟩, rfl⟩
        | exact ⟨Or.inr ⟨fun ⟨j9, a1, a2, a3, a4⟩ => by first | exact hno (by rw [a2]; exact inI a1 (by omega)) | exact i_nlt a3 h14 | exact h20 a4, rfl⟩, rfl⟩
    · refine xG_run 2 rfl (by repeat' (first | exact trivial | assumption | exact xob_b rfl | exact xal_b rfl | (apply And.intro) | decide)) ?_
      refine xG_br rfl (fun h20 => ?_) (fun h20 => ?_)
      · refine xG_run 2 rfl (by repeat' (first | exact trivial | assumption | exact xob_b rfl | exact xal_b rfl | (apply And.intro) | decide)) ?_
        refine xG_c2 1 rfl (by repeat' (first | exact trivial | assumption | exact xob_b rfl | exact xal_b rfl | (apply And.intro) | decide)) rfl rfl (by decide) cw_X5_about (d' := d - 1) (e_rabout hx) (by omega) ?_
        rintro v M' ⟨rfl, hM⟩
        subst M'
        dsimp only [Option.toList, List.cons_append, List.nil_append]
        refine r2_i rfl rfl ?_
        first
          | exact ⟨Or.inl ⟨j, hj, hij, Int32.not_lt.mp h14, h20, rfl⟩, rfl⟩
          | exact ⟨Or.inr ⟨fun ⟨j9, a1, a2, a3, a4⟩ => by first | exact hno (by rw [a2]; exact inI a1 (by omega)) | exact i_nlt a3 h14 | exact h20 a4, rfl⟩, rfl⟩
      · refine xG_run 2 rfl (by repeat' (first | exact trivial | assumption | exact xob_b rfl | exact xal_b rfl | (apply And.intro) | decide)) ?_
        refine r2_i rfl rfl ?_
        first
          | exact ⟨Or.inl ⟨j, hj, hij, Int32.not_lt.mp h14, h20, rfl⟩, rfl⟩
          | exact ⟨Or.inr ⟨fun ⟨j9, a1, a2, a3, a4⟩ => by first | exact hno (by rw [a2]; exact inI a1 (by omega)) | exact i_nlt a3 h14 | exact h20 a4, rfl⟩, rfl⟩
set_option maxRecDepth 4000 in
theorem e_x_falls {κ : xKK} {d : Nat} {M : xM} {np : Nat} (hn : gI M 1 1 = nI np) (hn2 : np ≤ 10) (hd : 1 ≤ d) : xE2 κ mX11_falls d [.ref 0] M (fun v M' => v = some (.int (cOd M np)) ∧ M' = M) := by
  refine xE2_of ci_X11_falls cl_X11_falls cw_X11_falls rfl (L := [some (.ref 0)]) rfl ?_
  refine xG_run 2 rfl (by repeat' (first | exact trivial | assumption | exact xob_b rfl | exact xal_b rfl | (apply And.intro) | decide)) ?_
  refine xG_c2 0 rfl (by repeat' (first | exact trivial | assumption | exact xob_b rfl | exact xal_b rfl | (apply And.intro) | decide)) rfl rfl (by decide) cw_X1_oddsNoneFalls (d' := d - 1) (e_oddsNoneFalls hn hn2) (by omega) ?_
  rintro v M' ⟨rfl, hM⟩
  subst M'
  dsimp only [Option.toList, List.cons_append, List.nil_append]
  refine r2_i rfl rfl ?_
  exact ⟨rfl, rfl⟩
set_option maxRecDepth 4000 in
theorem e_x_wind {κ : xKK} {d : Nat} {M : xM} {w q : Int32} : xE2 κ mX11_wind d [.ref 0, .int w, .int q] M (fun v M' => (0 ≤ w ∧ w ≤ 99 ∧ (q = 1 ∨ q = -1) ∧ v = some (.int (gI M 1 5)) ∧ M' = sI (sI M 1 5 w) 1 6 q) ∨ (¬ (0 ≤ w ∧ w ≤ 99 ∧ (q = 1 ∨ q = -1)) ∧ v = some (.int (-1)) ∧ M' = M)) := by
  refine xE2_of ci_X11_wind cl_X11_wind cw_X11_wind rfl (L := [some (.ref 0), some (.int w), some (.int q), none]) rfl ?_
  refine xG_run 1 rfl (by repeat' (first | exact trivial | assumption | exact xob_b rfl | exact xal_b rfl | (apply And.intro) | decide)) ?_
  refine xG_br rfl (fun h1 => ?_) (fun h1 => ?_)
  · refine xG_run 1 rfl (by repeat' (first | exact trivial | assumption | exact xob_b rfl | exact xal_b rfl | (apply And.intro) | decide)) ?_
    refine r2_i rfl rfl ?_
    first
      | exact Or.inl ⟨Int32.not_lt.mp h1, Int32.not_lt.mp h7, Or.inl h12, rfl, rfl⟩
      | exact Or.inl ⟨Int32.not_lt.mp h1, Int32.not_lt.mp h7, Or.inr h17, rfl, rfl⟩
      | (refine Or.inr ⟨?_, rfl, rfl⟩
         rintro ⟨a1, a2, a3⟩
         first
           | exact i_nlt a1 h1
           | exact i_nlt a2 h7
           | exact a3.elim h12 h17)
  · refine xG_run 2 rfl (by repeat' (first | exact trivial | assumption | exact xob_b rfl | exact xal_b rfl | (apply And.intro) | decide)) ?_
    refine xG_br rfl (fun h7 => ?_) (fun h7 => ?_)
    · refine xG_run 1 rfl (by repeat' (first | exact trivial | assumption | exact xob_b rfl | exact xal_b rfl | (apply And.intro) | decide)) ?_
      refine r2_i rfl rfl ?_
      first
        | exact Or.inl ⟨Int32.not_lt.mp h1, Int32.not_lt.mp h7, Or.inl h12, rfl, rfl⟩
        | exact Or.inl ⟨Int32.not_lt.mp h1, Int32.not_lt.mp h7, Or.inr h17, rfl, rfl⟩
        | (refine Or.inr ⟨?_, rfl, rfl⟩
           rintro ⟨a1, a2, a3⟩
           first
             | exact i_nlt a1 h1
             | exact i_nlt a2 h7
             | exact a3.elim h12 h17)
    · refine xG_run 2 rfl (by repeat' (first | exact trivial | assumption | exact xob_b rfl | exact xal_b rfl | (apply And.intro) | decide)) ?_
      refine xG_br rfl (fun h12 => ?_) (fun h12 => ?_)
      · refine xG_run 13 rfl (by repeat' (first | exact trivial | assumption | exact xob_b rfl | exact xal_b rfl | (apply And.intro) | decide)) ?_
        refine r2_i rfl rfl ?_
        first
          | exact Or.inl ⟨Int32.not_lt.mp h1, Int32.not_lt.mp h7, Or.inl h12, rfl, rfl⟩
          | exact Or.inl ⟨Int32.not_lt.mp h1, Int32.not_lt.mp h7, Or.inr h17, rfl, rfl⟩
          | (refine Or.inr ⟨?_, rfl, rfl⟩
             rintro ⟨a1, a2, a3⟩
             first
               | exact i_nlt a1 h1
               | exact i_nlt a2 h7
               | exact a3.elim h12 h17)
      · refine xG_run 2 rfl (by repeat' (first | exact trivial | assumption | exact xob_b rfl | exact xal_b rfl | (apply And.intro) | decide)) ?_
        refine xG_br rfl (fun h17 => ?_) (fun h17 => ?_)
        · refine xG_run 13 rfl (by repeat' (first | exact trivial | assumption | exact xob_b rfl | exact xal_b rfl | (apply And.intro) | decide)) ?_
          refine r2_i rfl rfl ?_
          first
            | exact Or.inl ⟨Int32.not_lt.mp h1, Int32.not_lt.mp h7, Or.inl h12, rfl, rfl⟩
            | exact Or.inl ⟨Int32.not_lt.mp h1, Int32.not_lt.mp h7, Or.inr h17, rfl, rfl⟩
            | (refine Or.inr ⟨?_, rfl, rfl⟩
               rintro ⟨a1, a2, a3⟩
               first
                 | exact i_nlt a1 h1
                 | exact i_nlt a2 h7
                 | exact a3.elim h12 h17)
        · refine xG_run 1 rfl (by repeat' (first | exact trivial | assumption | exact xob_b rfl | exact xal_b rfl | (apply And.intro) | decide)) ?_
          refine r2_i rfl rfl ?_
          first
            | exact Or.inl ⟨Int32.not_lt.mp h1, Int32.not_lt.mp h7, Or.inl h12, rfl, rfl⟩
            | exact Or.inl ⟨Int32.not_lt.mp h1, Int32.not_lt.mp h7, Or.inr h17, rfl, rfl⟩
            | (refine Or.inr ⟨?_, rfl, rfl⟩
               rintro ⟨a1, a2, a3⟩
               first
                 | exact i_nlt a1 h1
                 | exact i_nlt a2 h7
                 | exact a3.elim h12 h17)
set_option maxRecDepth 4000 in
theorem e_x_share {κ : xKK} {d : Nat} {M : xM} {i w : Int32} : xE2 κ mX11_share d [.ref 0, .int i, .int w] M (fun v M' => (∃ j, j < 5 ∧ i = nI j ∧ 0 ≤ w ∧ w ≤ 200 ∧ v = some (.int (gI M 4 j)) ∧ M' = sI M 4 j w) ∨ (¬ (∃ j, j < 5 ∧ i = nI j ∧ 0 ≤ w ∧ w ≤ 200) ∧ v = some (.int (-1)) ∧ M' = M)) := by
  refine xE2_of ci_X11_share cl_X11_share cw_X11_share rfl (L := [some (.ref 0), some (.int i), some (.int w), none]) rfl ?_
  by_cases h0 : i < 0
  · refine xG_run 1 rfl (by repeat' (first | exact trivial | assumption | exact xob_b rfl | exact xal_b rfl | (apply And.intro) | decide)) ?_
    refine xG_brT rfl h0 ?_
    refine xG_run 1 rfl (by repeat' (first | exact trivial | assumption | exact xob_b rfl | exact xal_b rfl | (apply And.intro) | decide)) ?_
    refine r2_i rfl rfl ?_
    exact Or.inr ⟨fun ⟨j9, a1, a2, a3, a4⟩ => i_nlt (inI a1 (by omega)).1 (a2 ▸ h0), rfl, rfl⟩
  · obtain ⟨j, hj, rfl⟩ := nI_of h0
    have hj1 : (nI j).toNatClampNeg = j := nI_cl (by omega)
    refine xG_run 1 rfl (by repeat' (first | exact trivial | assumption | exact xob_b rfl | exact xal_b rfl | (apply And.intro) | decide)) ?_
    refine xG_brF rfl h0 ?_
    refine xG_run 5 rfl (by repeat' (first | exact trivial | assumption | exact xob_b rfl | exact xal_b rfl | (apply And.intro) | decide)) ?_
    by_cases hlt : j < 5
    · refine xG_brF rfl (show ¬ nI 5 ≤ nI j from nI_ge hlt (by omega)) ?_
      have hx : xar 4 0 182 (nI j) := xar_n rfl 5 rfl hlt hj
      refine xG_run 1 rfl (by repeat' (first | exact trivial | assumption | exact xob_b rfl | exact xal_b rfl | (apply And.intro) | decide)) ?_
      refine xG_br rfl (fun h17 => ?_) (fun h17 => ?_)
      · refine xG_run 1 rfl (by repeat' (first | exact trivial | assumption | exact xob_b rfl | exact xal_b rfl | (apply And.intro) | decide)) ?_
        refine r2_i rfl rfl ?_
        first
          | (rw [hj1]; exact Or.inl ⟨j, hlt, rfl, Int32.not_lt.mp h17, h24, rfl, rfl⟩)
          | exact Or.inr ⟨fun ⟨j9, a1, a2, a3, a4⟩ => by first | exact i_nlt a3 h17 | exact h24 a4, rfl, rfl⟩
      · refine xG_run 2 rfl (by repeat' (first | exact trivial | assumption | exact xob_b rfl | exact xal_b rfl | (apply And.intro) | decide)) ?_
        refine xG_br rfl (fun h24 => ?_) (fun h24 => ?_)
        · refine xG_run 13 rfl (by repeat' (first | exact trivial | assumption | exact xob_b rfl | exact xal_b rfl | (apply And.intro) | decide)) ?_
          refine r2_i rfl rfl ?_
          first
            | (rw [hj1]; exact Or.inl ⟨j, hlt, rfl, Int32.not_lt.mp h17, h24, rfl, rfl⟩)
            | exact Or.inr ⟨fun ⟨j9, a1, a2, a3, a4⟩ => by first | exact i_nlt a3 h17 | exact h24 a4, rfl, rfl⟩
        · refine xG_run 1 rfl (by repeat' (first | exact trivial | assumption | exact xob_b rfl | exact xal_b rfl | (apply And.intro) | decide)) ?_
          refine r2_i rfl rfl ?_
          first
            | (rw [hj1]; exact Or.inl ⟨j, hlt, rfl, Int32.not_lt.mp h17, h24, rfl, rfl⟩)
            | exact Or.inr ⟨fun ⟨j9, a1, a2, a3, a4⟩ => by first | exact i_nlt a3 h17 | exact h24 a4, rfl, rfl⟩
    · refine xG_brT rfl (show nI 5 ≤ nI j from nI_le (by omega) hj) ?_
      refine xG_run 1 rfl (by repeat' (first | exact trivial | assumption | exact xob_b rfl | exact xal_b rfl | (apply And.intro) | decide)) ?_
      refine r2_i rfl rfl ?_
      exact Or.inr ⟨fun ⟨j9, a1, a2, a3, a4⟩ => hlt (by rw [nI_eq hj (by omega)] at a2; omega), rfl, rfl⟩
set_option maxRecDepth 4000 in
theorem e_x_gust {κ : xKK} {d : Nat} {M : xM} {w : Int32} {n : Nat} (hn : gI M 1 9 = nI n) (hn2 : n ≤ 8) : xE2 κ mX11_gust d [.ref 0, .int w] M (fun v M' => (0 ≤ w ∧ w ≤ 999 ∧ n < 8 ∧ v = some (.int (nI (n + 1))) ∧ M' = sI (sI M 5 n w) 1 9 (nI (n + 1))) ∨ (0 ≤ w ∧ w ≤ 999 ∧ n = 8 ∧ v = some (.int (-2)) ∧ M' = M) ∨ (¬ (0 ≤ w ∧ w ≤ 999) ∧ v = some (.int (-1)) ∧ M' = M)) := by
  refine xE2_of ci_X11_gust cl_X11_gust cw_X11_gust rfl (L := [some (.ref 0), some (.int w)]) rfl ?_
  have hcl : (gI M 1 9).toNatClampNeg = n := by rw [hn]; exact nI_cl (by omega)
  refine xG_run 1 rfl (by repeat' (first | exact trivial | assumption | exact xob_b rfl | exact xal_b rfl | (apply And.intro) | decide)) ?_
  refine xG_br rfl (fun h1 => ?_) (fun h1 => ?_)
  · refine xG_run 1 rfl (by repeat' (first | exact trivial | assumption | exact xob_b rfl | exact xal_b rfl | (apply And.intro) | decide)) ?_
    refine r2_i rfl rfl ?_
    first
      | exact Or.inr (Or.inl ⟨Int32.not_lt.mp h1, h8, hlt, rfl, rfl⟩)
      | (refine Or.inr (Or.inr ⟨?_, rfl, rfl⟩)
         rintro ⟨a1, a2⟩
         first
           | exact i_nlt a1 h1
           | exact h8 a2)
      | (rw [hcl, show gI (sI M 5 n w) 1 9 = gI M 1 9 from gI_ne (Or.inl (by decide)), hn, nI_1]
         exact Or.inl ⟨Int32.not_lt.mp h1, h8, hlt, by rw [gI_self], rfl⟩)
  · refine xG_run 2 rfl (by repeat' (first | exact trivial | assumption | exact xob_b rfl | exact xal_b rfl | (apply And.intro) | decide)) ?_
    refine xG_br rfl (fun h8 => ?_) (fun h8 => ?_)
    · refine xG_run 4 rfl (by repeat' (first | exact trivial | assumption | exact xob_b rfl | exact xal_b rfl | (apply And.intro) | decide)) ?_
      refine xG_br rfl (fun h22 => ?_) (fun h22 => ?_)
      · have hlt : n < 8 := by rw [hn] at h22; exact (nI_ltI (by omega) (by omega)).mp (show nI n < nI 8 from h22)
        have hx : xar 5 0 182 (gI M 1 9) := by rw [hn]; exact xar_n rfl 8 rfl hlt (by omega)
        refine xG_run 18 rfl (by repeat' (first | exact trivial | assumption | exact xob_b rfl | exact xal_b rfl | (apply And.intro) | decide)) ?_
        refine r2_i rfl rfl ?_
        first
          | exact Or.inr (Or.inl ⟨Int32.not_lt.mp h1, h8, hlt, rfl, rfl⟩)
          | (refine Or.inr (Or.inr ⟨?_, rfl, rfl⟩)
             rintro ⟨a1, a2⟩
             first
               | exact i_nlt a1 h1
               | exact h8 a2)
          | (rw [hcl, show gI (sI M 5 n w) 1 9 = gI M 1 9 from gI_ne (Or.inl (by decide)), hn, nI_1]
             exact Or.inl ⟨Int32.not_lt.mp h1, h8, hlt, by rw [gI_self], rfl⟩)
      · have hlt : n = 8 := by
          rw [hn] at h22
          have : ¬ n < 8 := fun q => h22 (show nI n < nI 8 from nI_lt q (by omega))
          omega
        refine xG_run 1 rfl (by repeat' (first | exact trivial | assumption | exact xob_b rfl | exact xal_b rfl | (apply And.intro) | decide)) ?_
        refine r2_i rfl rfl ?_
        first
          | exact Or.inr (Or.inl ⟨Int32.not_lt.mp h1, h8, hlt, rfl, rfl⟩)
          | (refine Or.inr (Or.inr ⟨?_, rfl, rfl⟩)
             rintro ⟨a1, a2⟩
             first
               | exact i_nlt a1 h1
               | exact h8 a2)
          | (rw [hcl, show gI (sI M 5 n w) 1 9 = gI M 1 9 from gI_ne (Or.inl (by decide)), hn, nI_1]
             exact Or.inl ⟨Int32.not_lt.mp h1, h8, hlt, by rw [gI_self], rfl⟩)
    · refine xG_run 1 rfl (by repeat' (first | exact trivial | assumption | exact xob_b rfl | exact xal_b rfl | (apply And.intro) | decide)) ?_
      refine r2_i rfl rfl ?_
      first
        | exact Or.inr (Or.inl ⟨Int32.not_lt.mp h1, h8, hlt, rfl, rfl⟩)
        | (refine Or.inr (Or.inr ⟨?_, rfl, rfl⟩)
           rintro ⟨a1, a2⟩
           first
             | exact i_nlt a1 h1
             | exact h8 a2)
        | (rw [hcl, show gI (sI M 5 n w) 1 9 = gI M 1 9 from gI_ne (Or.inl (by decide)), hn, nI_1]
           exact Or.inl ⟨Int32.not_lt.mp h1, h8, hlt, by rw [gI_self], rfl⟩)
