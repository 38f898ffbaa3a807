/-! ===== the reference's face: the simple calls ===== -/
theorem in32 {w lo hi : Int32} {L H : Int64} (h1 : lo.toInt = L.toInt) (h2 : hi.toInt = H.toInt) : lo ≤ w ∧ w ≤ hi ↔ L ≤ w.toInt64 ∧ w.toInt64 ≤ H := by
  rw [Int64.le_iff_toInt_le, Int64.le_iff_toInt_le, Int32.toInt_toInt64, Int32.le_iff_toInt_le, Int32.le_iff_toInt_le, h1, h2]
theorem inI_of {p : Int32} {n : Nat} (h : 0 ≤ p ∧ p < nI n) (hn : n < 2147483648) : ∃ j, j < n ∧ p = nI j := by
  obtain ⟨j, hj, rfl⟩ := nI_of (i_nlt h.1)
  exact ⟨j, (nI_ltI (by omega) (by omega)).mp h.2, rfl⟩
set_option maxRecDepth 4000 in
theorem e_becomesNow {κ : xKK} {d : Nat} {M : xM} {a : Nat} {x w : Int32} (hx : x = nI a) (ha : a < 1651) : xE2 κ mX12_becomesNow d [.ref 166, .int x, .int w] M (fun v M' => v = some (.int (gI M 167 a)) ∧ M' = sI M 167 a w) := by
  refine xE2_of ci_X12_becomesNow cl_X12_becomesNow cw_X12_becomesNow rfl (L := [some (.ref 166), some (.int x), some (.int w), none]) rfl ?_
  subst hx
  have hs : xar 167 0 182 (nI a) := xar_n rfl 1651 rfl ha (by omega)
  have hj1 : (nI a).toNatClampNeg = a := nI_cl (by omega)
  refine xG_run 11 rfl (by repeat' (first | exact trivial | assumption | exact xob_b rfl | exact xal_b rfl | (apply And.intro) | decide)) ?_
  refine r2_i rfl rfl ?_
  rw [hj1]
  exact ⟨rfl, rfl⟩
set_option maxRecDepth 4000 in
theorem e_m_becomes {κ : xKK} {d : Nat} {M : xM} {nr : Nat} (hn : gI M 167 1644 = nI nr) (hn2 : nr ≤ 12) {i w : Int32} (hd : 2 ≤ d) : xE2 κ mX12_becomes d [.ref 166, .int i, .int w] M (fun v M' => (∃ j, j < nr ∧ i = nI j ∧ 0 ≤ w ∧ w ≤ 2 ∧ v = some (.int (gI M 167 (70 + 6 * j + 5))) ∧ M' = sI M 167 (70 + 6 * j + 5) w) ∨ (¬ (∃ j, j < nr ∧ i = nI j ∧ 0 ≤ w ∧ w ≤ 2) ∧ v = some (.int (-1)) ∧ M' = M)) := by
  refine xE2_of ci_X12_becomes cl_X12_becomes cw_X12_becomes rfl (L := [some (.ref 166), some (.int i), some (.int w)]) rfl ?_
  refine xG_run 2 rfl (by repeat' (first | exact trivial | assumption | exact xob_b rfl | exact xal_b rfl | (apply And.intro) | decide)) ?_
  refine xG_c2 1 rfl (by repeat' (first | exact trivial | assumption | exact xob_b rfl | exact xal_b rfl | (apply And.intro) | decide)) rfl rfl (by decide) cw_X12_isRope (d' := d - 1) (e_isRope hn hn2 (by omega)) (by omega) ?_
  rintro v M' ⟨rfl, hM⟩
  subst M'
  dsimp only [Option.toList, List.cons_append, List.nil_append]
  refine xG_br rfl (fun h5 => ?_) (fun h5 => ?_)
  · have b5 := z0.mp h5
    skip
    refine xG_run 1 rfl (by repeat' (first | exact trivial | assumption | exact xob_b rfl | exact xal_b rfl | (apply And.intro) | decide)) ?_
    refine r2_i rfl rfl ?_
    first
      | exact Or.inl ⟨j, hj, rfl, b17.1, b17.2, rfl, rfl⟩
      | (refine Or.inr ⟨?_, rfl, rfl⟩
         rintro ⟨j9, a1, a2, a3, a4⟩
         first
           | exact b17 ⟨a3, a4⟩
           | exact b5 (by rw [a2]; exact inI a1 (by omega)))
  · have b5 := z1.mp h5
    obtain ⟨j, hj, rfl⟩ := inI_of b5 (by omega)
    refine xG_run 4 rfl (by repeat' (first | exact trivial | assumption | exact xob_b rfl | exact xal_b rfl | (apply And.intro) | decide)) ?_
    refine xG_c2 3 rfl (by repeat' (first | exact trivial | assumption | exact xob_b rfl | exact xal_b rfl | (apply And.intro) | decide)) rfl rfl (by decide) cw_X12_isIn (d' := d - 1) (e_isIn (c := 0 ≤ w ∧ w ≤ 2) (in32 rfl rfl)) (by omega) ?_
    rintro v M' ⟨rfl, hM⟩
    subst M'
    dsimp only [Option.toList, List.cons_append, List.nil_append]
    refine xG_br rfl (fun h17 => ?_) (fun h17 => ?_)
    · have b17 := z0.mp h17
      refine xG_run 1 rfl (by repeat' (first | exact trivial | assumption | exact xob_b rfl | exact xal_b rfl | (apply And.intro) | decide)) ?_
      refine r2_i rfl rfl ?_
      first
        | exact Or.inl ⟨j, hj, rfl, b17.1, b17.2, rfl, rfl⟩
        | (refine Or.inr ⟨?_, rfl, rfl⟩
           rintro ⟨j9, a1, a2, a3, a4⟩
           first
             | exact b17 ⟨a3, a4⟩
             | exact b5 (by rw [a2]; exact inI a1 (by omega)))
    · have b17 := z1.mp h17
      refine xG_run 9 rfl (by repeat' (first | exact trivial | assumption | exact xob_b rfl | exact xal_b rfl | (apply And.intro) | decide)) ?_
      refine xG_c2 2 rfl (by repeat' (first | exact trivial | assumption | exact xob_b rfl | exact xal_b rfl | (apply And.intro) | decide)) rfl rfl (by decide) cw_X12_becomesNow (d' := d - 1) (e_becomesNow (show _ = nI (70 + 6 * j + 5) from ix6 j 5) (by omega)) (by omega) ?_
      rintro v M' ⟨rfl, hM⟩
      subst hM
      dsimp only [Option.toList, List.cons_append, List.nil_append]
      refine xG_run 1 rfl (by repeat' (first | exact trivial | assumption | exact xob_b rfl | exact xal_b rfl | (apply And.intro) | decide)) ?_
      refine r2_i rfl rfl ?_
      first
        | exact Or.inl ⟨j, hj, rfl, b17.1, b17.2, rfl, rfl⟩
        | (refine Or.inr ⟨?_, rfl, rfl⟩
           rintro ⟨j9, a1, a2, a3, a4⟩
           first
             | exact b17 ⟨a3, a4⟩
             | exact b5 (by rw [a2]; exact inI a1 (by omega)))
set_option maxRecDepth 4000 in
theorem e_m_tight {κ : xKK} {d : Nat} {M : xM} {nr : Nat} (hn : gI M 167 1644 = nI nr) (hn2 : nr ≤ 12) {i w : Int32} (hd : 2 ≤ d) : xE2 κ mX12_tight d [.ref 166, .int i, .int w] M (fun v M' => (∃ j, j < nr ∧ i = nI j ∧ 0 ≤ w ∧ w ≤ 999 ∧ v = some (.int (gI M 167 (70 + 6 * j + 4))) ∧ M' = sI M 167 (70 + 6 * j + 4) w) ∨ (¬ (∃ j, j < nr ∧ i = nI j ∧ 0 ≤ w ∧ w ≤ 999) ∧ v = some (.int (-1)) ∧ M' = M)) := by
  refine xE2_of ci_X12_tight cl_X12_tight cw_X12_tight rfl (L := [some (.ref 166), some (.int i), some (.int w)]) rfl ?_
  refine xG_run 2 rfl (by repeat' (first | exact trivial | assumption | exact xob_b rfl | exact xal_b rfl | (apply And.intro) | decide)) ?_
  refine xG_c2 1 rfl (by repeat' (first | exact trivial | assumption | exact xob_b rfl | exact xal_b rfl | (apply And.intro) | decide)) rfl rfl (by decide) cw_X12_isRope (d' := d - 1) (e_isRope hn hn2 (by omega)) (by omega) ?_
  rintro v M' ⟨rfl, hM⟩
  subst M'
  dsimp only [Option.toList, List.cons_append, List.nil_append]
  refine xG_br rfl (fun h5 => ?_) (fun h5 => ?_)
  · have b5 := z0.mp h5
    skip
    refine xG_run 1 rfl (by repeat' (first | exact trivial | assumption | exact xob_b rfl | exact xal_b rfl | (apply And.intro) | decide)) ?_
    refine r2_i rfl rfl ?_
    first
      | exact Or.inl ⟨j, hj, rfl, b17.1, b17.2, rfl, rfl⟩
      | (refine Or.inr ⟨?_, rfl, rfl⟩
         rintro ⟨j9, a1, a2, a3, a4⟩
         first
           | exact b17 ⟨a3, a4⟩
           | exact b5 (by rw [a2]; exact inI a1 (by omega)))
  · have b5 := z1.mp h5
    obtain ⟨j, hj, rfl⟩ := inI_of b5 (by omega)
    refine xG_run 4 rfl (by repeat' (first | exact trivial | assumption | exact xob_b rfl | exact xal_b rfl | (apply And.intro) | decide)) ?_
    refine xG_c2 3 rfl (by repeat' (first | exact trivial | assumption | exact xob_b rfl | exact xal_b rfl | (apply And.intro) | decide)) rfl rfl (by decide) cw_X12_isIn (d' := d - 1) (e_isIn (c := 0 ≤ w ∧ w ≤ 999) (in32 rfl rfl)) (by omega) ?_
    rintro v M' ⟨rfl, hM⟩
    subst M'
    dsimp only [Option.toList, List.cons_append, List.nil_append]
    refine xG_br rfl (fun h17 => ?_) (fun h17 => ?_)
    · have b17 := z0.mp h17
      refine xG_run 1 rfl (by repeat' (first | exact trivial | assumption | exact xob_b rfl | exact xal_b rfl | (apply And.intro) | decide)) ?_
      refine r2_i rfl rfl ?_
      first
        | exact Or.inl ⟨j, hj, rfl, b17.1, b17.2, rfl, rfl⟩
        | (refine Or.inr ⟨?_, rfl, rfl⟩
           rintro ⟨j9, a1, a2, a3, a4⟩
           first
             | exact b17 ⟨a3, a4⟩
             | exact b5 (by rw [a2]; exact inI a1 (by omega)))
    · have b17 := z1.mp h17
      refine xG_run 9 rfl (by repeat' (first | exact trivial | assumption | exact xob_b rfl | exact xal_b rfl | (apply And.intro) | decide)) ?_
      refine xG_c2 2 rfl (by repeat' (first | exact trivial | assumption | exact xob_b rfl | exact xal_b rfl | (apply And.intro) | decide)) rfl rfl (by decide) cw_X12_becomesNow (d' := d - 1) (e_becomesNow (show _ = nI (70 + 6 * j + 4) from ix6 j 4) (by omega)) (by omega) ?_
      rintro v M' ⟨rfl, hM⟩
      subst hM
      dsimp only [Option.toList, List.cons_append, List.nil_append]
      refine xG_run 1 rfl (by repeat' (first | exact trivial | assumption | exact xob_b rfl | exact xal_b rfl | (apply And.intro) | decide)) ?_
      refine r2_i rfl rfl ?_
      first
        | exact Or.inl ⟨j, hj, rfl, b17.1, b17.2, rfl, rfl⟩
        | (refine Or.inr ⟨?_, rfl, rfl⟩
           rintro ⟨j9, a1, a2, a3, a4⟩
           first
             | exact b17 ⟨a3, a4⟩
             | exact b5 (by rw [a2]; exact inI a1 (by omega)))
set_option maxRecDepth 4000 in
theorem e_m_ice {κ : xKK} {d : Nat} {M : xM} {np : Nat} (hn : gI M 167 1643 = nI np) (hn2 : np ≤ 10) {i w : Int32} (hd : 2 ≤ d) : xE2 κ mX12_ice d [.ref 166, .int i, .int w] M (fun v M' => (∃ j, j < np ∧ i = nI j ∧ 0 ≤ w ∧ w ≤ 20 ∧ v = some (.int (gI M 167 (7 * j + 5))) ∧ M' = sI M 167 (7 * j + 5) w) ∨ (¬ (∃ j, j < np ∧ i = nI j ∧ 0 ≤ w ∧ w ≤ 20) ∧ v = some (.int (-1)) ∧ M' = M)) := by
  refine xE2_of ci_X12_ice cl_X12_ice cw_X12_ice rfl (L := [some (.ref 166), some (.int i), some (.int w)]) rfl ?_
  refine xG_run 2 rfl (by repeat' (first | exact trivial | assumption | exact xob_b rfl | exact xal_b rfl | (apply And.intro) | decide)) ?_
  refine xG_c2 1 rfl (by repeat' (first | exact trivial | assumption | exact xob_b rfl | exact xal_b rfl | (apply And.intro) | decide)) rfl rfl (by decide) cw_X12_isPiece (d' := d - 1) (e_isPiece hn hn2 (by omega)) (by omega) ?_
  rintro v M' ⟨rfl, hM⟩
  subst M'
  dsimp only [Option.toList, List.cons_append, List.nil_append]
  refine xG_br rfl (fun h5 => ?_) (fun h5 => ?_)
  · have b5 := z0.mp h5
    skip
    refine xG_run 1 rfl (by repeat' (first | exact trivial | assumption | exact xob_b rfl | exact xal_b rfl | (apply And.intro) | decide)) ?_
    refine r2_i rfl rfl ?_
    first
      | exact Or.inl ⟨j, hj, rfl, b17.1, b17.2, rfl, rfl⟩
      | (refine Or.inr ⟨?_, rfl, rfl⟩
         rintro ⟨j9, a1, a2, a3, a4⟩
         first
           | exact b17 ⟨a3, a4⟩
           | exact b5 (by rw [a2]; exact inI a1 (by omega)))
  · have b5 := z1.mp h5
    obtain ⟨j, hj, rfl⟩ := inI_of b5 (by omega)
    refine xG_run 4 rfl (by repeat' (first | exact trivial | assumption | exact xob_b rfl | exact xal_b rfl | (apply And.intro) | decide)) ?_
    refine xG_c2 3 rfl (by repeat' (first | exact trivial | assumption | exact xob_b rfl | exact xal_b rfl | (apply And.intro) | decide)) rfl rfl (by decide) cw_X12_isIn (d' := d - 1) (e_isIn (c := 0 ≤ w ∧ w ≤ 20) (in32 rfl rfl)) (by omega) ?_
    rintro v M' ⟨rfl, hM⟩
    subst M'
    dsimp only [Option.toList, List.cons_append, List.nil_append]
    refine xG_br rfl (fun h17 => ?_) (fun h17 => ?_)
    · have b17 := z0.mp h17
      refine xG_run 1 rfl (by repeat' (first | exact trivial | assumption | exact xob_b rfl | exact xal_b rfl | (apply And.intro) | decide)) ?_
      refine r2_i rfl rfl ?_
      first
        | exact Or.inl ⟨j, hj, rfl, b17.1, b17.2, rfl, rfl⟩
        | (refine Or.inr ⟨?_, rfl, rfl⟩
           rintro ⟨j9, a1, a2, a3, a4⟩
           first
             | exact b17 ⟨a3, a4⟩
             | exact b5 (by rw [a2]; exact inI a1 (by omega)))
    · have b17 := z1.mp h17
      refine xG_run 7 rfl (by repeat' (first | exact trivial | assumption | exact xob_b rfl | exact xal_b rfl | (apply And.intro) | decide)) ?_
      refine xG_c2 2 rfl (by repeat' (first | exact trivial | assumption | exact xob_b rfl | exact xal_b rfl | (apply And.intro) | decide)) rfl rfl (by decide) cw_X12_becomesNow (d' := d - 1) (e_becomesNow (show _ = nI (7 * j + 5) from ix7 j 5) (by omega)) (by omega) ?_
      rintro v M' ⟨rfl, hM⟩
      subst hM
      dsimp only [Option.toList, List.cons_append, List.nil_append]
      refine xG_run 1 rfl (by repeat' (first | exact trivial | assumption | exact xob_b rfl | exact xal_b rfl | (apply And.intro) | decide)) ?_
      refine r2_i rfl rfl ?_
      first
        | exact Or.inl ⟨j, hj, rfl, b17.1, b17.2, rfl, rfl⟩
        | (refine Or.inr ⟨?_, rfl, rfl⟩
           rintro ⟨j9, a1, a2, a3, a4⟩
           first
             | exact b17 ⟨a3, a4⟩
             | exact b5 (by rw [a2]; exact inI a1 (by omega)))
set_option maxRecDepth 4000 in
theorem e_m_odds {κ : xKK} {d : Nat} {M : xM} {np : Nat} (hn : gI M 167 1643 = nI np) (hn2 : np ≤ 10) {i w : Int32} (hd : 2 ≤ d) : xE2 κ mX12_odds d [.ref 166, .int i, .int w] M (fun v M' => (∃ j, j < np ∧ i = nI j ∧ 0 ≤ w ∧ w ≤ 100 ∧ v = some (.int (gI M 167 (7 * j + 6))) ∧ M' = sI M 167 (7 * j + 6) w) ∨ (¬ (∃ j, j < np ∧ i = nI j ∧ 0 ≤ w ∧ w ≤ 100) ∧ v = some (.int (-1)) ∧ M' = M)) := by
  refine xE2_of ci_X12_odds cl_X12_odds cw_X12_odds rfl (L := [some (.ref 166), some (.int i), some (.int w)]) rfl ?_
  refine xG_run 2 rfl (by repeat' (first | exact trivial | assumption | exact xob_b rfl | exact xal_b rfl | (apply And.intro) | decide)) ?_
  refine xG_c2 1 rfl (by repeat' (first | exact trivial | assumption | exact xob_b rfl | exact xal_b rfl | (apply And.intro) | decide)) rfl rfl (by decide) cw_X12_isPiece (d' := d - 1) (e_isPiece hn hn2 (by omega)) (by omega) ?_
  rintro v M' ⟨rfl, hM⟩
  subst M'
  dsimp only [Option.toList, List.cons_append, List.nil_append]
  refine xG_br rfl (fun h5 => ?_) (fun h5 => ?_)
  · have b5 := z0.mp h5
    skip
    refine xG_run 1 rfl (by repeat' (first | exact trivial | assumption | exact xob_b rfl | exact xal_b rfl | (apply And.intro) | decide)) ?_
    refine r2_i rfl rfl ?_
    first
      | exact Or.inl ⟨j, hj, rfl, b17.1, b17.2, rfl, rfl⟩
      | (refine Or.inr ⟨?_, rfl, rfl⟩
         rintro ⟨j9, a1, a2, a3, a4⟩
         first
           | exact b17 ⟨a3, a4⟩
           | exact b5 (by rw [a2]; exact inI a1 (by omega)))
  · have b5 := z1.mp h5
    obtain ⟨j, hj, rfl⟩ := inI_of b5 (by omega)
    refine xG_run 4 rfl (by repeat' (first | exact trivial | assumption | exact xob_b rfl | exact xal_b rfl | (apply And.intro) | decide)) ?_
    refine xG_c2 3 rfl (by repeat' (first | exact trivial | assumption | exact xob_b rfl | exact xal_b rfl | (apply And.intro) | decide)) rfl rfl (by decide) cw_X12_isIn (d' := d - 1) (e_isIn (c := 0 ≤ w ∧ w ≤ 100) (in32 rfl rfl)) (by omega) ?_
    rintro v M' ⟨rfl, hM⟩
    subst M'
    dsimp only [Option.toList, List.cons_append, List.nil_append]
    refine xG_br rfl (fun h17 => ?_) (fun h17 => ?_)
    · have b17 := z0.mp h17
      refine xG_run 1 rfl (by repeat' (first | exact trivial | assumption | exact xob_b rfl | exact xal_b rfl | (apply And.intro) | decide)) ?_
      refine r2_i rfl rfl ?_
      first
        | exact Or.inl ⟨j, hj, rfl, b17.1, b17.2, rfl, rfl⟩
        | (refine Or.inr ⟨?_, rfl, rfl⟩
           rintro ⟨j9, a1, a2, a3, a4⟩
           first
             | exact b17 ⟨a3, a4⟩
             | exact b5 (by rw [a2]; exact inI a1 (by omega)))
    · have b17 := z1.mp h17
      refine xG_run 7 rfl (by repeat' (first | exact trivial | assumption | exact xob_b rfl | exact xal_b rfl | (apply And.intro) | decide)) ?_
      refine xG_c2 2 rfl (by repeat' (first | exact trivial | assumption | exact xob_b rfl | exact xal_b rfl | (apply And.intro) | decide)) rfl rfl (by decide) cw_X12_becomesNow (d' := d - 1) (e_becomesNow (show _ = nI (7 * j + 6) from ix7 j 6) (by omega)) (by omega) ?_
      rintro v M' ⟨rfl, hM⟩
      subst hM
      dsimp only [Option.toList, List.cons_append, List.nil_append]
      refine xG_run 1 rfl (by repeat' (first | exact trivial | assumption | exact xob_b rfl | exact xal_b rfl | (apply And.intro) | decide)) ?_
      refine r2_i rfl rfl ?_
      first
        | exact Or.inl ⟨j, hj, rfl, b17.1, b17.2, rfl, rfl⟩
        | (refine Or.inr ⟨?_, rfl, rfl⟩
           rintro ⟨j9, a1, a2, a3, a4⟩
           first
             | exact b17 ⟨a3, a4⟩
             | exact b5 (by rw [a2]; exact inI a1 (by omega)))
def rAb (M : xM) (p : Nat) (w : Int32) : Int32 := if w < 6 then rs M p w.toNatClampNeg else if w = 6 then rW M p else rF M p
set_option maxRecDepth 4000 in
theorem e_m_piece {κ : xKK} {d : Nat} {M : xM} {np : Nat} (hn : gI M 167 1643 = nI np) (hn2 : np ≤ 10) {i w : Int32} (hd : 2 ≤ d) : xE2 κ mX12_piece d [.ref 166, .int i, .int w] M (fun v M' => ((∃ j, j < np ∧ i = nI j ∧ 0 ≤ w ∧ w ≤ 7 ∧ v = some (.int (rAb M j w))) ∨ (¬ (∃ j, j < np ∧ i = nI j ∧ 0 ≤ w ∧ w ≤ 7) ∧ v = some (.int (-1)))) ∧ M' = M) := by
  refine xE2_of ci_X12_piece cl_X12_piece cw_X12_piece rfl (L := [some (.ref 166), some (.int i), some (.int w)]) rfl ?_
  refine xG_run 2 rfl (by repeat' (first | exact trivial | assumption | exact xob_b rfl | exact xal_b rfl | (apply And.intro) | decide)) ?_
  refine xG_c2 1 rfl (by repeat' (first | exact trivial | assumption | exact xob_b rfl | exact xal_b rfl | (apply And.intro) | decide)) rfl rfl (by decide) cw_X12_isPiece (d' := d - 1) (e_isPiece hn hn2 (by omega)) (by omega) ?_
  rintro v M' ⟨rfl, hM⟩
  subst M'
  dsimp only [Option.toList, List.cons_append, List.nil_append]
  refine xG_br rfl (fun h5 => ?_) (fun h5 => ?_)
  · have b5 := z0.mp h5
    skip
    refine xG_run 1 rfl (by repeat' (first | exact trivial | assumption | exact xob_b rfl | exact xal_b rfl | (apply And.intro) | decide)) ?_
    refine r2_i rfl rfl ?_
    refine ⟨?_, rfl⟩
    first
      | (refine Or.inl ⟨j, hj, rfl, b17.1, b17.2, ?_⟩
         unfold rAb
         first
           | rw [if_pos hw6]
           | rw [if_neg (i_nlt h25), if_pos (Decidable.not_not.mp h40)]
           | rw [if_neg (i_nlt h25), if_neg h40])
      | (refine Or.inr ⟨?_, rfl⟩
         rintro ⟨j9, a1, a2, a3, a4⟩
         first
           | exact b17 ⟨a3, a4⟩
           | exact b5 (by rw [a2]; exact inI a1 (by omega)))
  · have b5 := z1.mp h5
    obtain ⟨j, hj, rfl⟩ := inI_of b5 (by omega)
    refine xG_run 4 rfl (by repeat' (first | exact trivial | assumption | exact xob_b rfl | exact xal_b rfl | (apply And.intro) | decide)) ?_
    refine xG_c2 3 rfl (by repeat' (first | exact trivial | assumption | exact xob_b rfl | exact xal_b rfl | (apply And.intro) | decide)) rfl rfl (by decide) cw_X12_isIn (d' := d - 1) (e_isIn (c := 0 ≤ w ∧ w ≤ 7) (in32 rfl rfl)) (by omega) ?_
    rintro v M' ⟨rfl, hM⟩
    subst M'
    dsimp only [Option.toList, List.cons_append, List.nil_append]
    refine xG_br rfl (fun h17 => ?_) (fun h17 => ?_)
    · have b17 := z1.mp h17
      refine xG_run 2 rfl (by repeat' (first | exact trivial | assumption | exact xob_b rfl | exact xal_b rfl | (apply And.intro) | decide)) ?_
      refine xG_br rfl (fun h25 => ?_) (fun h25 => ?_)
      · skip
        refine xG_run 2 rfl (by repeat' (first | exact trivial | assumption | exact xob_b rfl | exact xal_b rfl | (apply And.intro) | decide)) ?_
        refine xG_br rfl (fun h40 => ?_) (fun h40 => ?_)
        · refine xG_run 2 rfl (by repeat' (first | exact trivial | assumption | exact xob_b rfl | exact xal_b rfl | (apply And.intro) | decide)) ?_
          refine xG_c2 1 rfl (by repeat' (first | exact trivial | assumption | exact xob_b rfl | exact xal_b rfl | (apply And.intro) | decide)) rfl rfl (by decide) cw_X12_faces (d' := d - 1) (e_rfaces (p := j) (by omega) (by omega)) (by omega) ?_
          rintro v M' ⟨rfl, hM⟩
          subst M'
          dsimp only [Option.toList, List.cons_append, List.nil_append]
          refine r2_i rfl rfl ?_
          refine ⟨?_, rfl⟩
          first
            | (refine Or.inl ⟨j, hj, rfl, b17.1, b17.2, ?_⟩
               unfold rAb
               first
                 | rw [if_pos hw6]
                 | rw [if_neg (i_nlt h25), if_pos (Decidable.not_not.mp h40)]
                 | rw [if_neg (i_nlt h25), if_neg h40])
            | (refine Or.inr ⟨?_, rfl⟩
               rintro ⟨j9, a1, a2, a3, a4⟩
               first
                 | exact b17 ⟨a3, a4⟩
                 | exact b5 (by rw [a2]; exact inI a1 (by omega)))
        · refine xG_run 2 rfl (by repeat' (first | exact trivial | assumption | exact xob_b rfl | exact xal_b rfl | (apply And.intro) | decide)) ?_
          refine xG_c2 1 rfl (by repeat' (first | exact trivial | assumption | exact xob_b rfl | exact xal_b rfl | (apply And.intro) | decide)) rfl rfl (by decide) cw_X12_weight (d' := d - 1) (e_rweight (p := j) (by omega) (by omega)) (by omega) ?_
          rintro v M' ⟨rfl, hM⟩
          subst M'
          dsimp only [Option.toList, List.cons_append, List.nil_append]
          refine xG_run 1 rfl (by repeat' (first | exact trivial | assumption | exact xob_b rfl | exact xal_b rfl | (apply And.intro) | decide)) ?_
          refine r2_i rfl rfl ?_
          refine ⟨?_, rfl⟩
          first
            | (refine Or.inl ⟨j, hj, rfl, b17.1, b17.2, ?_⟩
               unfold rAb
               first
                 | rw [if_pos hw6]
                 | rw [if_neg (i_nlt h25), if_pos (Decidable.not_not.mp h40)]
                 | rw [if_neg (i_nlt h25), if_neg h40])
            | (refine Or.inr ⟨?_, rfl⟩
               rintro ⟨j9, a1, a2, a3, a4⟩
               first
                 | exact b17 ⟨a3, a4⟩
                 | exact b5 (by rw [a2]; exact inI a1 (by omega)))
      · have hw6 := i_nle h25
        obtain ⟨k9, hk9, hwk⟩ := inI_of (n := 6) ⟨b17.1, hw6⟩ (by omega)
        have hwn : w = nI w.toNatClampNeg := by rw [hwk, nI_cl (by omega)]
        have hwl : w.toNatClampNeg < 6 := by rw [hwk, nI_cl (by omega)]; exact hk9
        refine xG_run 3 rfl (by repeat' (first | exact trivial | assumption | exact xob_b rfl | exact xal_b rfl | (apply And.intro) | decide)) ?_
        refine xG_c2 2 rfl (by repeat' (first | exact trivial | assumption | exact xob_b rfl | exact xal_b rfl | (apply And.intro) | decide)) rfl rfl (by decide) cw_X12_of (d' := d - 1) (e_of (p := j) (k := w.toNatClampNeg) rfl hwn (by omega)) (by omega) ?_
        rintro v M' ⟨rfl, hM⟩
        subst M'
        dsimp only [Option.toList, List.cons_append, List.nil_append]
        refine xG_run 1 rfl (by repeat' (first | exact trivial | assumption | exact xob_b rfl | exact xal_b rfl | (apply And.intro) | decide)) ?_
        refine r2_i rfl rfl ?_
        refine ⟨?_, rfl⟩
        first
          | (refine Or.inl ⟨j, hj, rfl, b17.1, b17.2, ?_⟩
             unfold rAb
             first
               | rw [if_pos hw6]
               | rw [if_neg (i_nlt h25), if_pos (Decidable.not_not.mp h40)]
               | rw [if_neg (i_nlt h25), if_neg h40])
          | (refine Or.inr ⟨?_, rfl⟩
             rintro ⟨j9, a1, a2, a3, a4⟩
             first
               | exact b17 ⟨a3, a4⟩
               | exact b5 (by rw [a2]; exact inI a1 (by omega)))
    · have b17 := z0.mp (Decidable.not_not.mp h17)
      refine xG_run 1 rfl (by repeat' (first | exact trivial | assumption | exact xob_b rfl | exact xal_b rfl | (apply And.intro) | decide)) ?_
      refine r2_i rfl rfl ?_
      refine ⟨?_, rfl⟩
      first
        | (refine Or.inl ⟨j, hj, rfl, b17.1, b17.2, ?_⟩
           unfold rAb
           first
             | rw [if_pos hw6]
             | rw [if_neg (i_nlt h25), if_pos (Decidable.not_not.mp h40)]
             | rw [if_neg (i_nlt h25), if_neg h40])
        | (refine Or.inr ⟨?_, rfl⟩
           rintro ⟨j9, a1, a2, a3, a4⟩
           first
             | exact b17 ⟨a3, a4⟩
             | exact b5 (by rw [a2]; exact inI a1 (by omega)))
def rOd (M : xM) : Nat → Int32
  | 0 => 1000000
  | n + 1 => if 0 < rs M n 5 then rOd M n * (100 - rs M n 6) / 100 else rOd M n
set_option maxRecDepth 4000 in
theorem e_m_falls {κ : xKK} {d : Nat} {M : xM} {np : Nat} (hn : gI M 167 1643 = nI np) (hn2 : np ≤ 10) (hd : 1 ≤ d) : xE2 κ mX12_falls d [.ref 166] M (fun v M' => v = some (.int (rOd M np)) ∧ M' = M) := by
  refine xE2_of ci_X12_falls cl_X12_falls cw_X12_falls rfl (L := [some (.ref 166), none, none]) rfl ?_
  have hs : xar 167 0 182 1643 := xar_n (j := 1643) rfl 1651 rfl (by omega) (by omega)
  have hn : gI M 167 (1643 : Int32).toNatClampNeg = nI np := hn
  refine xG_run 4 rfl (by repeat' (first | exact trivial | assumption | exact xob_b rfl | exact xal_b rfl | (apply And.intro) | decide)) ?_
  refine xG_up (fun j => (5, [some (.ref 166), some (.int (rOd M j)), some (.int (nI j))], [], M, z2)) np ?_ ?_ 0 (Nat.zero_le _)
  · intro j hj ih
    refine xG_run 5 rfl (by repeat' (first | exact trivial | assumption | exact xob_b rfl | exact xal_b rfl | (apply And.intro) | decide)) ?_
    refine xG_brF rfl (by rw [hn]; exact nI_ge hj (by omega)) ?_
    refine xG_run 3 rfl (by repeat' (first | exact trivial | assumption | exact xob_b rfl | exact xal_b rfl | (apply And.intro) | decide)) ?_
    refine xG_c2 2 rfl (by repeat' (first | exact trivial | assumption | exact xob_b rfl | exact xal_b rfl | (apply And.intro) | decide)) rfl rfl (by decide) cw_X12_of (d' := d - 1) (e_of (p := j) (k := 5) rfl rfl (by omega)) (by omega) ?_
    rintro v M' ⟨rfl, hM⟩
    subst M'
    dsimp only [Option.toList, List.cons_append, List.nil_append]
    refine xG_br rfl (fun h23 => ?_) (fun h23 => ?_)
    · refine xG_run 4 rfl (by repeat' (first | exact trivial | assumption | exact xob_b rfl | exact xal_b rfl | (apply And.intro) | decide)) ?_
      first
        | (rw [nI_1, ← (show rOd M (j + 1) = rOd M j from if_neg (i_nlt h23))]; exact ih)
        | (rw [nI_1, ← (show rOd M (j + 1) = rOd M j * (100 - rs M j 6) / 100 from if_pos (i_nle h23))]; exact ih)
    · refine xG_run 5 rfl (by repeat' (first | exact trivial | assumption | exact xob_b rfl | exact xal_b rfl | (apply And.intro) | decide)) ?_
      refine xG_c2 2 rfl (by repeat' (first | exact trivial | assumption | exact xob_b rfl | exact xal_b rfl | (apply And.intro) | decide)) rfl rfl (by decide) cw_X12_of (d' := d - 1) (e_of (p := j) (k := 6) rfl rfl (by omega)) (by omega) ?_
      rintro v M' ⟨rfl, hM⟩
      subst M'
      dsimp only [Option.toList, List.cons_append, List.nil_append]
      refine xG_run 8 rfl (by repeat' (first | exact trivial | assumption | exact xob_b rfl | exact xal_b rfl | (apply And.intro) | decide)) ?_
      first
        | (rw [nI_1, ← (show rOd M (j + 1) = rOd M j from if_neg (i_nlt h23))]; exact ih)
        | (rw [nI_1, ← (show rOd M (j + 1) = rOd M j * (100 - rs M j 6) / 100 from if_pos (i_nle h23))]; exact ih)
  · refine xG_run 5 rfl (by repeat' (first | exact trivial | assumption | exact xob_b rfl | exact xal_b rfl | (apply And.intro) | decide)) ?_
    refine xG_brT rfl (by rw [hn]; exact Int32.le_refl _) ?_
    refine xG_run 1 rfl (by repeat' (first | exact trivial | assumption | exact xob_b rfl | exact xal_b rfl | (apply And.intro) | decide)) ?_
    refine r2_i rfl rfl ?_
    exact ⟨rfl, rfl⟩
set_option maxRecDepth 4000 in
theorem e_m_wind {κ : xKK} {d : Nat} {M : xM} {w q : Int32} (hd : 2 ≤ d) : xE2 κ mX12_wind d [.ref 166, .int w, .int q] M (fun v M' => (0 ≤ w ∧ w ≤ 99 ∧ (q = 1 ∨ q = -1) ∧ v = some (.int (gI M 167 1648)) ∧ M' = sI (sI M 167 1649 q) 167 1648 w) ∨ (¬ (0 ≤ w ∧ w ≤ 99 ∧ (q = 1 ∨ q = -1)) ∧ v = some (.int (-1)) ∧ M' = M)) := by
  refine xE2_of ci_X12_wind cl_X12_wind cw_X12_wind rfl (L := [some (.ref 166), some (.int w), some (.int q)]) rfl ?_
  have hs : xar 167 0 182 1649 := xar_n (j := 1649) rfl 1651 rfl (by omega) (by omega)
  refine xG_run 4 rfl (by repeat' (first | exact trivial | assumption | exact xob_b rfl | exact xal_b rfl | (apply And.intro) | decide)) ?_
  refine xG_c2 3 rfl (by repeat' (first | exact trivial | assumption | exact xob_b rfl | exact xal_b rfl | (apply And.intro) | decide)) rfl rfl (by decide) cw_X12_isIn (d' := d - 1) (e_isIn (c := 0 ≤ w ∧ w ≤ 99) (in32 rfl rfl)) (by omega) ?_
  rintro v M' ⟨rfl, hM⟩
  subst M'
  dsimp only [Option.toList, List.cons_append, List.nil_append]
  refine xG_br rfl (fun h9 => ?_) (fun h9 => ?_)
  · have b9 := z0.mp h9
    refine xG_run 1 rfl (by repeat' (first | exact trivial | assumption | exact xob_b rfl | exact xal_b rfl | (apply And.intro) | decide)) ?_
    refine r2_i rfl rfl ?_
    first
      | exact Or.inl ⟨b9.1, b9.2, Or.inl h14, by rw [← gI_ne (M := M) (a := 167) (k := 1649) (a' := 167) (k' := 1648) (v := q) (Or.inr (by decide))]; rfl, rfl⟩
      | exact Or.inl ⟨b9.1, b9.2, Or.inr h19, by rw [← gI_ne (M := M) (a := 167) (k := 1649) (a' := 167) (k' := 1648) (v := q) (Or.inr (by decide))]; rfl, rfl⟩
      | (refine Or.inr ⟨?_, rfl, rfl⟩
         rintro ⟨a1, a2, a3⟩
         first
           | exact b9 ⟨a1, a2⟩
           | exact a3.elim h14 h19)
  · have b9 := z1.mp h9
    refine xG_run 2 rfl (by repeat' (first | exact trivial | assumption | exact xob_b rfl | exact xal_b rfl | (apply And.intro) | decide)) ?_
    refine xG_br rfl (fun h14 => ?_) (fun h14 => ?_)
    · refine xG_run 8 rfl (by repeat' (first | exact trivial | assumption | exact xob_b rfl | exact xal_b rfl | (apply And.intro) | decide)) ?_
      refine xG_c2 2 rfl (by repeat' (first | exact trivial | assumption | exact xob_b rfl | exact xal_b rfl | (apply And.intro) | decide)) rfl rfl (by decide) cw_X12_becomesNow (d' := d - 1) (e_becomesNow (a := 1648) rfl (by omega)) (by omega) ?_
      rintro v M' ⟨rfl, hM⟩
      subst hM
      dsimp only [Option.toList, List.cons_append, List.nil_append]
      refine r2_i rfl rfl ?_
      first
        | exact Or.inl ⟨b9.1, b9.2, Or.inl h14, by rw [← gI_ne (M := M) (a := 167) (k := 1649) (a' := 167) (k' := 1648) (v := q) (Or.inr (by decide))]; rfl, rfl⟩
        | exact Or.inl ⟨b9.1, b9.2, Or.inr h19, by rw [← gI_ne (M := M) (a := 167) (k := 1649) (a' := 167) (k' := 1648) (v := q) (Or.inr (by decide))]; rfl, rfl⟩
        | (refine Or.inr ⟨?_, rfl, rfl⟩
           rintro ⟨a1, a2, a3⟩
           first
             | exact b9 ⟨a1, a2⟩
             | exact a3.elim h14 h19)
    · refine xG_run 2 rfl (by repeat' (first | exact trivial | assumption | exact xob_b rfl | exact xal_b rfl | (apply And.intro) | decide)) ?_
      refine xG_br rfl (fun h19 => ?_) (fun h19 => ?_)
      · refine xG_run 8 rfl (by repeat' (first | exact trivial | assumption | exact xob_b rfl | exact xal_b rfl | (apply And.intro) | decide)) ?_
        refine xG_c2 2 rfl (by repeat' (first | exact trivial | assumption | exact xob_b rfl | exact xal_b rfl | (apply And.intro) | decide)) rfl rfl (by decide) cw_X12_becomesNow (d' := d - 1) (e_becomesNow (a := 1648) rfl (by omega)) (by omega) ?_
        rintro v M' ⟨rfl, hM⟩
        subst hM
        dsimp only [Option.toList, List.cons_append, List.nil_append]
        refine r2_i rfl rfl ?_
        first
          | exact Or.inl ⟨b9.1, b9.2, Or.inl h14, by rw [← gI_ne (M := M) (a := 167) (k := 1649) (a' := 167) (k' := 1648) (v := q) (Or.inr (by decide))]; rfl, rfl⟩
          | exact Or.inl ⟨b9.1, b9.2, Or.inr h19, by rw [← gI_ne (M := M) (a := 167) (k := 1649) (a' := 167) (k' := 1648) (v := q) (Or.inr (by decide))]; rfl, rfl⟩
          | (refine Or.inr ⟨?_, rfl, rfl⟩
             rintro ⟨a1, a2, a3⟩
             first
               | exact b9 ⟨a1, a2⟩
               | exact a3.elim h14 h19)
      · refine xG_run 1 rfl (by repeat' (first | exact trivial | assumption | exact xob_b rfl | exact xal_b rfl | (apply And.intro) | decide)) ?_
        refine r2_i rfl rfl ?_
        first
          | exact Or.inl ⟨b9.1, b9.2, Or.inl h14, by rw [← gI_ne (M := M) (a := 167) (k := 1649) (a' := 167) (k' := 1648) (v := q) (Or.inr (by decide))]; rfl, rfl⟩
          | exact Or.inl ⟨b9.1, b9.2, Or.inr h19, by rw [← gI_ne (M := M) (a := 167) (k := 1649) (a' := 167) (k' := 1648) (v := q) (Or.inr (by decide))]; rfl, rfl⟩
          | (refine Or.inr ⟨?_, rfl, rfl⟩
             rintro ⟨a1, a2, a3⟩
             first
               | exact b9 ⟨a1, a2⟩
               | exact a3.elim h14 h19)
set_option maxRecDepth 4000 in
theorem e_m_share {κ : xKK} {d : Nat} {M : xM} {i w : Int32} (hd : 2 ≤ d) : xE2 κ mX12_share d [.ref 166, .int i, .int w] M (fun v M' => (∃ j, j < 5 ∧ i = nI j ∧ 0 ≤ w ∧ w ≤ 200 ∧ v = some (.int (gI M 167 (142 + j))) ∧ M' = sI M 167 (142 + j) w) ∨ (¬ (∃ j, j < 5 ∧ i = nI j ∧ 0 ≤ w ∧ w ≤ 200) ∧ v = some (.int (-1)) ∧ M' = M)) := by
  refine xE2_of ci_X12_share cl_X12_share cw_X12_share rfl (L := [some (.ref 166), some (.int i), some (.int w)]) rfl ?_
  refine xG_run 4 rfl (by repeat' (first | exact trivial | assumption | exact xob_b rfl | exact xal_b rfl | (apply And.intro) | decide)) ?_
  refine xG_c2 3 rfl (by repeat' (first | exact trivial | assumption | exact xob_b rfl | exact xal_b rfl | (apply And.intro) | decide)) rfl rfl (by decide) cw_X12_isIn (d' := d - 1) (e_isIn (c := 0 ≤ i ∧ i ≤ 4) (in32 rfl rfl)) (by omega) ?_
  rintro v M' ⟨rfl, hM⟩
  subst M'
  dsimp only [Option.toList, List.cons_append, List.nil_append]
  refine xG_br rfl (fun h9 => ?_) (fun h9 => ?_)
  · have b9 := z0.mp h9
    skip
    refine xG_run 1 rfl (by repeat' (first | exact trivial | assumption | exact xob_b rfl | exact xal_b rfl | (apply And.intro) | decide)) ?_
    refine r2_i rfl rfl ?_
    first
      | exact Or.inl ⟨j, hj, rfl, b21.1, b21.2, rfl, rfl⟩
      | (refine Or.inr ⟨?_, rfl, rfl⟩
         rintro ⟨j9, a1, a2, a3, a4⟩
         first
           | exact b21 ⟨a3, a4⟩
           | exact b9 ⟨by rw [a2]; exact (inI a1 (by omega)).1, by rw [a2]; show nI j9 ≤ nI 4; exact nI_le (by omega) (by omega)⟩)
  · have b9 := z1.mp h9
    obtain ⟨j, hj, rfl⟩ := inI_of (n := 5) ⟨b9.1, by have := b9.2; rw [Int32.le_iff_toInt_le] at this; rw [Int32.lt_iff_toInt_lt]; have h4 : (4 : Int32).toInt = 4 := rfl; have h5 : (nI 5).toInt = 5 := rfl; omega⟩ (by omega)
    refine xG_run 4 rfl (by repeat' (first | exact trivial | assumption | exact xob_b rfl | exact xal_b rfl | (apply And.intro) | decide)) ?_
    refine xG_c2 3 rfl (by repeat' (first | exact trivial | assumption | exact xob_b rfl | exact xal_b rfl | (apply And.intro) | decide)) rfl rfl (by decide) cw_X12_isIn (d' := d - 1) (e_isIn (c := 0 ≤ w ∧ w ≤ 200) (in32 rfl rfl)) (by omega) ?_
    rintro v M' ⟨rfl, hM⟩
    subst M'
    dsimp only [Option.toList, List.cons_append, List.nil_append]
    refine xG_br rfl (fun h21 => ?_) (fun h21 => ?_)
    · have b21 := z0.mp h21
      refine xG_run 1 rfl (by repeat' (first | exact trivial | assumption | exact xob_b rfl | exact xal_b rfl | (apply And.intro) | decide)) ?_
      refine r2_i rfl rfl ?_
      first
        | exact Or.inl ⟨j, hj, rfl, b21.1, b21.2, rfl, rfl⟩
        | (refine Or.inr ⟨?_, rfl, rfl⟩
           rintro ⟨j9, a1, a2, a3, a4⟩
           first
             | exact b21 ⟨a3, a4⟩
             | exact b9 ⟨by rw [a2]; exact (inI a1 (by omega)).1, by rw [a2]; show nI j9 ≤ nI 4; exact nI_le (by omega) (by omega)⟩)
    · have b21 := z1.mp h21
      refine xG_run 5 rfl (by repeat' (first | exact trivial | assumption | exact xob_b rfl | exact xal_b rfl | (apply And.intro) | decide)) ?_
      refine xG_c2 2 rfl (by repeat' (first | exact trivial | assumption | exact xob_b rfl | exact xal_b rfl | (apply And.intro) | decide)) rfl rfl (by decide) cw_X12_becomesNow (d' := d - 1) (e_becomesNow (a := 142 + j) (show nI 142 + nI j = _ from nI_add _ _) (by omega)) (by omega) ?_
      rintro v M' ⟨rfl, hM⟩
      subst hM
      dsimp only [Option.toList, List.cons_append, List.nil_append]
      refine xG_run 1 rfl (by repeat' (first | exact trivial | assumption | exact xob_b rfl | exact xal_b rfl | (apply And.intro) | decide)) ?_
      refine r2_i rfl rfl ?_
      first
        | exact Or.inl ⟨j, hj, rfl, b21.1, b21.2, rfl, rfl⟩
        | (refine Or.inr ⟨?_, rfl, rfl⟩
           rintro ⟨j9, a1, a2, a3, a4⟩
           first
             | exact b21 ⟨a3, a4⟩
             | exact b9 ⟨by rw [a2]; exact (inI a1 (by omega)).1, by rw [a2]; show nI j9 ≤ nI 4; exact nI_le (by omega) (by omega)⟩)
