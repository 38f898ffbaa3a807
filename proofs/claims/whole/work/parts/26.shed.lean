/-! ===== shedding, lock ===== -/
theorem mx1 (x : Int32) : ¬ (if x < 1 then (1 : Int32) else x) = 0 := by
  by_cases h : x < 1
  · rw [if_pos h]; decide
  · rw [if_neg h]
    intro q
    exact h (by rw [q]; decide)
def rS (M : xM) (p : Nat) (u : Int32) : Int32 := 20 * u / (if rs M p 3 < 1 then 1 else rs M p 3)
set_option maxRecDepth 4000 in
theorem e_x_shedding {κ : xKK} {d : Nat} {M : xM} {np : Nat} (hn : gI M 1 1 = nI np) (hn2 : np ≤ 10) {i w : Int32} (hd : 1 ≤ d) : xE2 κ mX11_shedding d [.ref 0, .int i, .int w] M (fun v M' => ((∃ j, j < np ∧ i = nI j ∧ 0 ≤ w ∧ w ≤ 99 ∧ v = some (.int (cS M (6 + j) w))) ∨ (¬ (∃ j, j < np ∧ i = nI j ∧ 0 ≤ w ∧ w ≤ 99) ∧ v = some (.int (-1)))) ∧ M' = M) := by
  refine xE2_of ci_X11_shedding cl_X11_shedding cw_X11_shedding rfl (L := [some (.ref 0), some (.int i), some (.int w), none]) rfl ?_
  refine xG_run 3 rfl (by repeat' (first | exact trivial | assumption | exact xob_b rfl | exact xal_b rfl | (apply And.intro) | decide)) ?_
  try dsimp only [xsto1, xsto2, xkill, xget, xset, gd_0, gd_s]
  refine xG_c2 1 rfl (by repeat' (first | exact trivial | assumption | exact xob_b rfl | exact xal_b rfl | (apply And.intro) | decide)) rfl rfl (by decide) cw_X1_pieceAt (d' := d - 1) (e_pieceAt hn hn2) (by omega) ?_
  rintro v M' ⟨hv, hM⟩
  subst M'
  rcases hv with ⟨rfl, hno⟩ | ⟨j, hj, hij, rfl⟩
  · dsimp only [Option.toList, List.cons_append, List.nil_append]
    refine xG_run 5 rfl (by repeat' (first | exact trivial | assumption | exact xob_b rfl | exact xal_b rfl | (apply And.intro) | decide)) ?_
    try dsimp only [xsto1, xsto2, xkill, xget, xset, gd_0, gd_s]
    refine r2_i rfl rfl ?_
    first
      | exact ⟨Or.inl ⟨j, hj, hij, Int32.not_lt.mp h14, h20, rfl⟩, rfl⟩
      | exact ⟨Or.inr ⟨fun ⟨j9, a1, a2, a3, a4⟩ => by first | exact hno (by rw [a2]; exact inI a1 (by omega)) | exact i_nlt a3 h14 | exact h20 a4, rfl⟩, rfl⟩
  · dsimp only [Option.toList, List.cons_append, List.nil_append]
    have hx : xob (6 + j) 3 182 := xob_p1 (by omega)
    refine xG_run 4 rfl (by repeat' (first | exact trivial | assumption | exact xob_b rfl | exact xal_b rfl | (apply And.intro) | decide)) ?_
    try dsimp only [xsto1, xsto2, xkill, xget, xset, gd_0, gd_s]
    refine xG_br rfl (fun h14 => ?_) (fun h14 => ?_)
    · refine xG_run 2 rfl (by repeat' (first | exact trivial | assumption | exact xob_b rfl | exact xal_b rfl | (apply And.intro) | decide)) ?_
      try dsimp only [xsto1, xsto2, xkill, xget, xset, gd_0, gd_s]
      refine r2_i rfl rfl ?_
      first
        | exact ⟨Or.inl ⟨j, hj, hij, Int32.not_lt.mp h14, h20, rfl⟩, rfl⟩
        | exact ⟨Or.inr ⟨fun ⟨j9, a1, a2, a3, a4⟩ => by first | exact hno (by rw [a2]; exact inI a1 (by omega)) | exact i_nlt a3 h14 | exact h20 a4, rfl⟩, rfl⟩
    · refine xG_run 2 rfl (by repeat' (first | exact trivial | assumption | exact xob_b rfl | exact xal_b rfl | (apply And.intro) | decide)) ?_
      try dsimp only [xsto1, xsto2, xkill, xget, xset, gd_0, gd_s]
      refine xG_br rfl (fun h20 => ?_) (fun h20 => ?_)
      · refine xG_run 2 rfl (by repeat' (first | exact trivial | assumption | exact xob_b rfl | exact xal_b rfl | (apply And.intro) | decide)) ?_
        try dsimp only [xsto1, xsto2, xkill, xget, xset, gd_0, gd_s]
        refine xG_c2 1 rfl (by repeat' (first | exact trivial | assumption | exact xob_b rfl | exact xal_b rfl | (apply And.intro) | decide)) rfl rfl (by decide) cw_X3_sheds (d' := d - 1) (e_sheds hx (mx1 _)) (by omega) ?_
        rintro v M' ⟨rfl, hM⟩
        subst M'
        dsimp only [Option.toList, List.cons_append, List.nil_append]
        refine r2_i rfl rfl ?_
        first
          | exact ⟨Or.inl ⟨j, hj, hij, Int32.not_lt.mp h14, h20, rfl⟩, rfl⟩
          | exact ⟨Or.inr ⟨fun ⟨j9, a1, a2, a3, a4⟩ => by first | exact hno (by rw [a2]; exact inI a1 (by omega)) | exact i_nlt a3 h14 | exact h20 a4, rfl⟩, rfl⟩
      · refine xG_run 2 rfl (by repeat' (first | exact trivial | assumption | exact xob_b rfl | exact xal_b rfl | (apply And.intro) | decide)) ?_
        try dsimp only [xsto1, xsto2, xkill, xget, xset, gd_0, gd_s]
        refine r2_i rfl rfl ?_
        first
          | exact ⟨Or.inl ⟨j, hj, hij, Int32.not_lt.mp h14, h20, rfl⟩, rfl⟩
          | exact ⟨Or.inr ⟨fun ⟨j9, a1, a2, a3, a4⟩ => by first | exact hno (by rw [a2]; exact inI a1 (by omega)) | exact i_nlt a3 h14 | exact h20 a4, rfl⟩, rfl⟩
set_option maxRecDepth 4000 in
theorem e_rshed {κ : xKK} {d : Nat} {M : xM} {p : Nat} {u : Int32} (hp : p < 10) (hd : 1 ≤ d) : xE2 κ mX12_shed d [.ref 166, .int (nI p), .int u] M (fun v M' => v = some (.int (rS M p u)) ∧ M' = M) := by
  refine xE2_of ci_X12_shed cl_X12_shed cw_X12_shed rfl (L := [some (.ref 166), some (.int (nI p)), some (.int u)]) rfl ?_
  have h0 := mx1 (rs M p 3)
  refine xG_run 6 rfl (by repeat' (first | exact trivial | assumption | exact xob_b rfl | exact xal_b rfl | (apply And.intro) | decide)) ?_
  try dsimp only [xsto1, xsto2, xkill, xget, xset, gd_0, gd_s]
  refine xG_c2 2 rfl (by repeat' (first | exact trivial | assumption | exact xob_b rfl | exact xal_b rfl | (apply And.intro) | decide)) rfl rfl (by decide) cw_X12_of (d' := d - 1) (e_of (p := p) (k := 3) rfl rfl (by omega)) (by omega) ?_
  rintro v M' ⟨rfl, hM⟩
  subst M'
  dsimp only [Option.toList, List.cons_append, List.nil_append]
  refine xG_run 1 rfl (by repeat' (first | exact trivial | assumption | exact xob_b rfl | exact xal_b rfl | (apply And.intro) | decide)) ?_
  try dsimp only [xsto1, xsto2, xkill, xget, xset, gd_0, gd_s]
  refine xG_br rfl (fun h11 => ?_) (fun h11 => ?_)
  · rw [if_neg (show ¬ rs M p 3 < 1 from i_nlt h11)] at h0
    refine xG_run 3 rfl (by repeat' (first | exact trivial | assumption | exact xob_b rfl | exact xal_b rfl | (apply And.intro) | decide)) ?_
    try dsimp only [xsto1, xsto2, xkill, xget, xset, gd_0, gd_s]
    refine xG_c2 2 rfl (by repeat' (first | exact trivial | assumption | exact xob_b rfl | exact xal_b rfl | (apply And.intro) | decide)) rfl rfl (by decide) cw_X12_of (d' := d - 1) (e_of (p := p) (k := 3) rfl rfl (by omega)) (by omega) ?_
    rintro v M' ⟨rfl, hM⟩
    subst M'
    dsimp only [Option.toList, List.cons_append, List.nil_append]
    refine xG_run 1 rfl (by repeat' (first | exact trivial | assumption | exact xob_b rfl | exact xal_b rfl | (apply And.intro) | decide)) ?_
    try dsimp only [xsto1, xsto2, xkill, xget, xset, gd_0, gd_s]
    refine r2_i rfl rfl ?_
    refine ⟨?_, rfl⟩
    unfold rS
    first
      | rw [if_neg (show ¬ rs M p 3 < 1 from i_nlt h11)]
      | rw [if_pos (show rs M p 3 < 1 from i_nle h11)]
  · rw [if_pos (show rs M p 3 < 1 from i_nle h11)] at h0
    refine xG_run 3 rfl (by repeat' (first | exact trivial | assumption | exact xob_b rfl | exact xal_b rfl | (apply And.intro) | decide)) ?_
    try dsimp only [xsto1, xsto2, xkill, xget, xset, gd_0, gd_s]
    refine r2_i rfl rfl ?_
    refine ⟨?_, rfl⟩
    unfold rS
    first
      | rw [if_neg (show ¬ rs M p 3 < 1 from i_nlt h11)]
      | rw [if_pos (show rs M p 3 < 1 from i_nle h11)]
set_option maxRecDepth 4000 in
theorem e_m_shedding {κ : xKK} {d : Nat} {M : xM} {np : Nat} (hn : gI M 167 1643 = nI np) (hn2 : np ≤ 10) {i w : Int32} (hd : 2 ≤ d) : xE2 κ mX12_shedding d [.ref 166, .int i, .int w] M (fun v M' => ((∃ j, j < np ∧ i = nI j ∧ 0 ≤ w ∧ w ≤ 99 ∧ v = some (.int (rS M j w))) ∨ (¬ (∃ j, j < np ∧ i = nI j ∧ 0 ≤ w ∧ w ≤ 99) ∧ v = some (.int (-1)))) ∧ M' = M) := by
  refine xE2_of ci_X12_shedding cl_X12_shedding cw_X12_shedding rfl (L := [some (.ref 166), some (.int i), some (.int w)]) rfl ?_
  refine xG_run 2 rfl (by repeat' (first | exact trivial | assumption | exact xob_b rfl | exact xal_b rfl | (apply And.intro) | decide)) ?_
  try dsimp only [xsto1, xsto2, xkill, xget, xset, gd_0, gd_s]
  refine xG_c2 1 rfl (by repeat' (first | exact trivial | assumption | exact xob_b rfl | exact xal_b rfl | (apply And.intro) | decide)) rfl rfl (by decide) cw_X12_isPiece (d' := d - 1) (e_isPiece hn hn2 (by omega)) (by omega) ?_
  rintro v M' ⟨rfl, hM⟩
  subst M'
  dsimp only [Option.toList, List.cons_append, List.nil_append]
  refine xG_br rfl (fun h5 => ?_) (fun h5 => ?_)
  · have b5 := z0.mp h5
    skip
    refine xG_run 1 rfl (by repeat' (first | exact trivial | assumption | exact xob_b rfl | exact xal_b rfl | (apply And.intro) | decide)) ?_
    try dsimp only [xsto1, xsto2, xkill, xget, xset, gd_0, gd_s]
    refine r2_i rfl rfl ?_
    refine ⟨?_, rfl⟩
    first
      | exact Or.inl ⟨j, hj, rfl, b17.1, b17.2, rfl⟩
      | (refine Or.inr ⟨?_, rfl⟩
         rintro ⟨j9, a1, a2, a3, a4⟩
         first
           | exact b17 ⟨a3, a4⟩
           | exact b5 (by rw [a2]; exact inI a1 (by omega)))
  · have b5 := z1.mp h5
    obtain ⟨j, hj, rfl⟩ := inI_of b5 (by omega)
    refine xG_run 4 rfl (by repeat' (first | exact trivial | assumption | exact xob_b rfl | exact xal_b rfl | (apply And.intro) | decide)) ?_
    try dsimp only [xsto1, xsto2, xkill, xget, xset, gd_0, gd_s]
    refine xG_c2 3 rfl (by repeat' (first | exact trivial | assumption | exact xob_b rfl | exact xal_b rfl | (apply And.intro) | decide)) rfl rfl (by decide) cw_X12_isIn (d' := d - 1) (e_isIn (c := 0 ≤ w ∧ w ≤ 99) (in32 rfl rfl)) (by omega) ?_
    rintro v M' ⟨rfl, hM⟩
    subst M'
    dsimp only [Option.toList, List.cons_append, List.nil_append]
    refine xG_br rfl (fun h17 => ?_) (fun h17 => ?_)
    · have b17 := z0.mp h17
      refine xG_run 1 rfl (by repeat' (first | exact trivial | assumption | exact xob_b rfl | exact xal_b rfl | (apply And.intro) | decide)) ?_
      try dsimp only [xsto1, xsto2, xkill, xget, xset, gd_0, gd_s]
      refine r2_i rfl rfl ?_
      refine ⟨?_, rfl⟩
      first
        | exact Or.inl ⟨j, hj, rfl, b17.1, b17.2, rfl⟩
        | (refine Or.inr ⟨?_, rfl⟩
           rintro ⟨j9, a1, a2, a3, a4⟩
           first
             | exact b17 ⟨a3, a4⟩
             | exact b5 (by rw [a2]; exact inI a1 (by omega)))
    · have b17 := z1.mp h17
      refine xG_run 3 rfl (by repeat' (first | exact trivial | assumption | exact xob_b rfl | exact xal_b rfl | (apply And.intro) | decide)) ?_
      try dsimp only [xsto1, xsto2, xkill, xget, xset, gd_0, gd_s]
      refine xG_c2 2 rfl (by repeat' (first | exact trivial | assumption | exact xob_b rfl | exact xal_b rfl | (apply And.intro) | decide)) rfl rfl (by decide) cw_X12_shed (d' := d - 1) (e_rshed (p := j) (by omega) (by omega)) (by omega) ?_
      rintro v M' ⟨rfl, hM⟩
      subst M'
      dsimp only [Option.toList, List.cons_append, List.nil_append]
      refine xG_run 1 rfl (by repeat' (first | exact trivial | assumption | exact xob_b rfl | exact xal_b rfl | (apply And.intro) | decide)) ?_
      try dsimp only [xsto1, xsto2, xkill, xget, xset, gd_0, gd_s]
      refine r2_i rfl rfl ?_
      refine ⟨?_, rfl⟩
      first
        | exact Or.inl ⟨j, hj, rfl, b17.1, b17.2, rfl⟩
        | (refine Or.inr ⟨?_, rfl⟩
           rintro ⟨j9, a1, a2, a3, a4⟩
           first
             | exact b17 ⟨a3, a4⟩
             | exact b5 (by rw [a2]; exact inI a1 (by omega)))
set_option maxRecDepth 4000 in
theorem e_x_gusts {κ : xKK} {d : Nat} {M : xM} {n q : Nat} (hn : gI M 1 9 = nI n) (hn2 : n ≤ 8) (hq : iSum (fun j => gI M 5 j * gI M 5 j) n = nI q) (hq2 : q < 8000000) {w : Int32} (hd : 1 ≤ d) : xE2 κ mX11_gusts d [.ref 0, .int w] M (fun v M' => ((w = 0 ∧ (∃ s : Nat, v = some (.int (nI s)) ∧ s * s ≤ q ∧ q < (s + 1) * (s + 1)) ∨ w = 1 ∧ v = some (.int (iSum (gI M 5) n))) ∨ (¬ (0 ≤ w ∧ w ≤ 1) ∧ v = some (.int (-1)))) ∧ M' = M) := by
  refine xE2_of ci_X11_gusts cl_X11_gusts cw_X11_gusts rfl (L := [some (.ref 0), some (.int w)]) rfl ?_
  refine xG_run 1 rfl (by repeat' (first | exact trivial | assumption | exact xob_b rfl | exact xal_b rfl | (apply And.intro) | decide)) ?_
  try dsimp only [xsto1, xsto2, xkill, xget, xset, gd_0, gd_s]
  refine xG_br rfl (fun h1 => ?_) (fun h1 => ?_)
  · refine xG_run 1 rfl (by repeat' (first | exact trivial | assumption | exact xob_b rfl | exact xal_b rfl | (apply And.intro) | decide)) ?_
    try dsimp only [xsto1, xsto2, xkill, xget, xset, gd_0, gd_s]
    refine xG_br rfl (fun h12 => ?_) (fun h12 => ?_)
    · first
        | (exfalso; first | exact h12 h1 | exact absurd h12 (by rw [h6]; decide) | exact h1 (Decidable.not_not.mp h12))
        | (refine xG_run 2 rfl (by repeat' (first | exact trivial | assumption | exact xob_b rfl | exact xal_b rfl | (apply And.intro) | decide)) ?_
           try dsimp only [xsto1, xsto2, xkill, xget, xset, gd_0, gd_s]
           refine xG_c2 0 rfl (by repeat' (first | exact trivial | assumption | exact xob_b rfl | exact xal_b rfl | (apply And.intro) | decide)) rfl rfl (by decide) cw_X1_upperGust (d' := d - 1) (e_upperGust hn hn2) (by omega) ?_
           rintro v M' ⟨rfl, hM⟩
           subst M'
           dsimp only [Option.toList, List.cons_append, List.nil_append]
           refine r2_i rfl rfl ?_
           first
             | exact ⟨Or.inl (Or.inl ⟨by first | exact h1 | exact Decidable.not_not.mp h12, s, rfl, hs1, hs2⟩), rfl⟩
             | exact ⟨Or.inl (Or.inr ⟨h6, rfl⟩), rfl⟩
             | exact ⟨Or.inr ⟨fun q => h6 (w01 q h1), rfl⟩, rfl⟩)
    · first
        | (exfalso; first | exact h12 h1 | exact absurd h12 (by rw [h6]; decide) | exact h1 (Decidable.not_not.mp h12))
        | (refine xG_run 2 rfl (by repeat' (first | exact trivial | assumption | exact xob_b rfl | exact xal_b rfl | (apply And.intro) | decide)) ?_
           try dsimp only [xsto1, xsto2, xkill, xget, xset, gd_0, gd_s]
           refine xG_c2 0 rfl (by repeat' (first | exact trivial | assumption | exact xob_b rfl | exact xal_b rfl | (apply And.intro) | decide)) rfl rfl (by decide) cw_X1_lowerGust (d' := d - 1) (e_lowerGust hn hn2 hq hq2) (by omega) ?_
           rintro v M' ⟨⟨s, rfl, hs1, hs2⟩, hM⟩
           subst M'
           dsimp only [Option.toList, List.cons_append, List.nil_append]
           refine xG_run 1 rfl (by repeat' (first | exact trivial | assumption | exact xob_b rfl | exact xal_b rfl | (apply And.intro) | decide)) ?_
           try dsimp only [xsto1, xsto2, xkill, xget, xset, gd_0, gd_s]
           refine r2_i rfl rfl ?_
           first
             | exact ⟨Or.inl (Or.inl ⟨by first | exact h1 | exact Decidable.not_not.mp h12, s, rfl, hs1, hs2⟩), rfl⟩
             | exact ⟨Or.inl (Or.inr ⟨h6, rfl⟩), rfl⟩
             | exact ⟨Or.inr ⟨fun q => h6 (w01 q h1), rfl⟩, rfl⟩)
  · refine xG_run 2 rfl (by repeat' (first | exact trivial | assumption | exact xob_b rfl | exact xal_b rfl | (apply And.intro) | decide)) ?_
    try dsimp only [xsto1, xsto2, xkill, xget, xset, gd_0, gd_s]
    refine xG_br rfl (fun h6 => ?_) (fun h6 => ?_)
    · refine xG_run 1 rfl (by repeat' (first | exact trivial | assumption | exact xob_b rfl | exact xal_b rfl | (apply And.intro) | decide)) ?_
      try dsimp only [xsto1, xsto2, xkill, xget, xset, gd_0, gd_s]
      refine xG_br rfl (fun h12 => ?_) (fun h12 => ?_)
      · first
          | (exfalso; first | exact h12 h1 | exact absurd h12 (by rw [h6]; decide) | exact h1 (Decidable.not_not.mp h12))
          | (refine xG_run 2 rfl (by repeat' (first | exact trivial | assumption | exact xob_b rfl | exact xal_b rfl | (apply And.intro) | decide)) ?_
             try dsimp only [xsto1, xsto2, xkill, xget, xset, gd_0, gd_s]
             refine xG_c2 0 rfl (by repeat' (first | exact trivial | assumption | exact xob_b rfl | exact xal_b rfl | (apply And.intro) | decide)) rfl rfl (by decide) cw_X1_upperGust (d' := d - 1) (e_upperGust hn hn2) (by omega) ?_
             rintro v M' ⟨rfl, hM⟩
             subst M'
             dsimp only [Option.toList, List.cons_append, List.nil_append]
             refine r2_i rfl rfl ?_
             first
               | exact ⟨Or.inl (Or.inl ⟨by first | exact h1 | exact Decidable.not_not.mp h12, s, rfl, hs1, hs2⟩), rfl⟩
               | exact ⟨Or.inl (Or.inr ⟨h6, rfl⟩), rfl⟩
               | exact ⟨Or.inr ⟨fun q => h6 (w01 q h1), rfl⟩, rfl⟩)
      · first
          | (exfalso; first | exact h12 h1 | exact absurd h12 (by rw [h6]; decide) | exact h1 (Decidable.not_not.mp h12))
          | (refine xG_run 2 rfl (by repeat' (first | exact trivial | assumption | exact xob_b rfl | exact xal_b rfl | (apply And.intro) | decide)) ?_
             try dsimp only [xsto1, xsto2, xkill, xget, xset, gd_0, gd_s]
             refine xG_c2 0 rfl (by repeat' (first | exact trivial | assumption | exact xob_b rfl | exact xal_b rfl | (apply And.intro) | decide)) rfl rfl (by decide) cw_X1_lowerGust (d' := d - 1) (e_lowerGust hn hn2 hq hq2) (by omega) ?_
             rintro v M' ⟨⟨s, rfl, hs1, hs2⟩, hM⟩
             subst M'
             dsimp only [Option.toList, List.cons_append, List.nil_append]
             refine xG_run 1 rfl (by repeat' (first | exact trivial | assumption | exact xob_b rfl | exact xal_b rfl | (apply And.intro) | decide)) ?_
             try dsimp only [xsto1, xsto2, xkill, xget, xset, gd_0, gd_s]
             refine r2_i rfl rfl ?_
             first
               | exact ⟨Or.inl (Or.inl ⟨by first | exact h1 | exact Decidable.not_not.mp h12, s, rfl, hs1, hs2⟩), rfl⟩
               | exact ⟨Or.inl (Or.inr ⟨h6, rfl⟩), rfl⟩
               | exact ⟨Or.inr ⟨fun q => h6 (w01 q h1), rfl⟩, rfl⟩)
    · refine xG_run 1 rfl (by repeat' (first | exact trivial | assumption | exact xob_b rfl | exact xal_b rfl | (apply And.intro) | decide)) ?_
      try dsimp only [xsto1, xsto2, xkill, xget, xset, gd_0, gd_s]
      refine r2_i rfl rfl ?_
      first
        | exact ⟨Or.inl (Or.inl ⟨by first | exact h1 | exact Decidable.not_not.mp h12, s, rfl, hs1, hs2⟩), rfl⟩
        | exact ⟨Or.inl (Or.inr ⟨h6, rfl⟩), rfl⟩
        | exact ⟨Or.inr ⟨fun q => h6 (w01 q h1), rfl⟩, rfl⟩
