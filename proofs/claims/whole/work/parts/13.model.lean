/-! ===== the reference: its numbers, as it reads them ===== -/
def rs (M : xM) (p k : Nat) : Int32 := gI M 167 (7 * p + k)
def rr (M : xM) (q k : Nat) : Int32 := gI M 167 (70 + 6 * q + k)
theorem z0 {c : Prop} [Decidable c] : (if c then (1 : Int32) else 0) = 0 ↔ ¬ c := by
  by_cases h : c
  · rw [if_pos h]; exact ⟨fun q => absurd q (by decide), fun q => absurd h q⟩
  · rw [if_neg h]; exact ⟨fun _ => h, fun _ => rfl⟩
theorem z1 {c : Prop} [Decidable c] : ¬ (if c then (1 : Int32) else 0) = 0 ↔ c := by
  rw [z0, Decidable.not_not]
theorem zb {c : Prop} [Decidable c] : (if c then (1 : Int32) else 0) &&& 1 = (if c then 1 else 0) := by
  by_cases h : c
  · rw [if_pos h]; rfl
  · rw [if_neg h]; rfl
theorem ix7 (p k : Nat) : (7 : Int32) * nI p + nI k = nI (7 * p + k) := by show nI 7 * nI p + nI k = _; rw [pk_mul, nI_add]
theorem ix6 (q k : Nat) : (70 : Int32) + 6 * nI q + nI k = nI (70 + 6 * q + k) := by show nI 70 + nI 6 * nI q + nI k = _; rw [pk_mul, nI_add, nI_add]
theorem w_le {x y : Int32} : x.toInt64 ≤ y.toInt64 ↔ x ≤ y := by rw [Int64.le_iff_toInt_le, Int32.le_iff_toInt_le, Int32.toInt_toInt64, Int32.toInt_toInt64]
def rW (M : xM) (p : Nat) : Int32 := if rs M p 0 = 0 then rs M p 2 + rs M p 5 else if rs M p 0 = 1 then 2 * rs M p 2 + rs M p 5 else if rs M p 0 = 2 then 2 * rs M p 2 + 3 * rs M p 5 else 2 * rs M p 2 + rs M p 5 + 5
def rF (M : xM) (p : Nat) : Int32 := (if rs M p 0 = 0 then rs M p 3 else rs M p 3 / 2) + rs M p 5 / 2 + (if rs M p 0 = 2 then rs M p 5 else 0)
def rA0 (M : xM) (q h : Nat) : Int32 := rs M h 1 * rr M q 2 / (rs M h 1 + rr M q 2)
def rA (M : xM) (q h : Nat) : Int32 := if rA0 M q h < 1 then 1 else rA0 M q h
set_option maxRecDepth 4000 in
theorem e_isIn {κ : xKK} {d : Nat} {M : xM} {x a b : Int64} {c : Prop} [Decidable c] (hc : c ↔ a ≤ x ∧ x ≤ b) : xE2 κ mX12_isIn d [.long x, .long a, .long b] M (fun v M' => v = some (.int (if c then 1 else 0)) ∧ M' = M) := by
  refine xE2_of ci_X12_isIn cl_X12_isIn cw_X12_isIn rfl (L := [some (.long x), none, some (.long a), none, some (.long b), none]) rfl ?_
  refine xG_run 3 rfl (by repeat' (first | exact trivial | assumption | exact xob_b rfl | exact xal_b rfl | (apply And.intro) | decide)) ?_
  refine xG_br rfl (fun h3 => ?_) (fun h3 => ?_)
  · refine xG_run 1 rfl (by repeat' (first | exact trivial | assumption | exact xob_b rfl | exact xal_b rfl | (apply And.intro) | decide)) ?_
    refine r2_z rfl rfl (by first | decide | assumption) ?_
    first
      | (rw [if_pos (hc.mpr ⟨Int64.not_lt.mp (fun q => h3 ((lg_lt0 _ _).mpr q)), Int64.not_lt.mp (fun q => h10 ((lg_gt0 _ _).mpr q))⟩)]; exact ⟨rfl, rfl⟩)
      | (rw [if_neg (fun q => by first | exact absurd ((lg_lt0 _ _).mp h3) (Int64.not_lt.mpr (hc.mp q).1) | exact absurd ((lg_gt0 _ _).mp h10) (Int64.not_lt.mpr (hc.mp q).2))]; exact ⟨rfl, rfl⟩)
  · refine xG_run 3 rfl (by repeat' (first | exact trivial | assumption | exact xob_b rfl | exact xal_b rfl | (apply And.intro) | decide)) ?_
    refine xG_br rfl (fun h10 => ?_) (fun h10 => ?_)
    · refine xG_run 1 rfl (by repeat' (first | exact trivial | assumption | exact xob_b rfl | exact xal_b rfl | (apply And.intro) | decide)) ?_
      refine r2_z rfl rfl (by first | decide | assumption) ?_
      first
        | (rw [if_pos (hc.mpr ⟨Int64.not_lt.mp (fun q => h3 ((lg_lt0 _ _).mpr q)), Int64.not_lt.mp (fun q => h10 ((lg_gt0 _ _).mpr q))⟩)]; exact ⟨rfl, rfl⟩)
        | (rw [if_neg (fun q => by first | exact absurd ((lg_lt0 _ _).mp h3) (Int64.not_lt.mpr (hc.mp q).1) | exact absurd ((lg_gt0 _ _).mp h10) (Int64.not_lt.mpr (hc.mp q).2))]; exact ⟨rfl, rfl⟩)
    · refine xG_run 2 rfl (by repeat' (first | exact trivial | assumption | exact xob_b rfl | exact xal_b rfl | (apply And.intro) | decide)) ?_
      refine r2_z rfl rfl (by first | decide | assumption) ?_
      first
        | (rw [if_pos (hc.mpr ⟨Int64.not_lt.mp (fun q => h3 ((lg_lt0 _ _).mpr q)), Int64.not_lt.mp (fun q => h10 ((lg_gt0 _ _).mpr q))⟩)]; exact ⟨rfl, rfl⟩)
        | (rw [if_neg (fun q => by first | exact absurd ((lg_lt0 _ _).mp h3) (Int64.not_lt.mpr (hc.mp q).1) | exact absurd ((lg_gt0 _ _).mp h10) (Int64.not_lt.mpr (hc.mp q).2))]; exact ⟨rfl, rfl⟩)
set_option maxRecDepth 4000 in
theorem e_isPiece {κ : xKK} {d : Nat} {M : xM} {p : Int32} {np : Nat} (hn : gI M 167 1643 = nI np) (hn2 : np ≤ 10) (hd : 1 ≤ d) : xE2 κ mX12_isPiece d [.ref 166, .int p] M (fun v M' => v = some (.int (if 0 ≤ p ∧ p < nI np then 1 else 0)) ∧ M' = M) := by
  refine xE2_of ci_X12_isPiece cl_X12_isPiece cw_X12_isPiece rfl (L := [some (.ref 166), some (.int p)]) rfl ?_
  have hs : xar 167 0 182 1643 := xar_n (j := 1643) rfl 1651 rfl (by omega) (by omega)
  refine xG_run 10 rfl (by repeat' (first | exact trivial | assumption | exact xob_b rfl | exact xal_b rfl | (apply And.intro) | decide)) ?_
  refine xG_c2 3 rfl (by repeat' (first | exact trivial | assumption | exact xob_b rfl | exact xal_b rfl | (apply And.intro) | decide)) rfl rfl (by decide) cw_X12_isIn (d' := d - 1) (e_isIn (c := 0 ≤ p ∧ p < nI np) (by
        have e : (gI M 167 (1643 : Int32).toNatClampNeg - 1).toInt = (np : Int) - 1 := by
          show (gI M 167 1643 - 1).toInt = _
          rw [hn, fb_subI] <;> rw [nI_ti (by omega)] <;> simp <;> omega
        rw [Int64.le_iff_toInt_le, Int64.le_iff_toInt_le, Int32.toInt_toInt64, Int32.toInt_toInt64, e, Int32.le_iff_toInt_le, Int32.lt_iff_toInt_lt, nI_ti (by omega)]
        simp
        omega)) (by omega) ?_
  rintro v M' ⟨rfl, hM⟩
  subst M'
  dsimp only [Option.toList, List.cons_append, List.nil_append]
  refine r2_z rfl rfl zb ?_
  exact ⟨rfl, rfl⟩
set_option maxRecDepth 4000 in
theorem e_isRope {κ : xKK} {d : Nat} {M : xM} {p : Int32} {np : Nat} (hn : gI M 167 1644 = nI np) (hn2 : np ≤ 12) (hd : 1 ≤ d) : xE2 κ mX12_isRope d [.ref 166, .int p] M (fun v M' => v = some (.int (if 0 ≤ p ∧ p < nI np then 1 else 0)) ∧ M' = M) := by
  refine xE2_of ci_X12_isRope cl_X12_isRope cw_X12_isRope rfl (L := [some (.ref 166), some (.int p)]) rfl ?_
  have hs : xar 167 0 182 1644 := xar_n (j := 1644) rfl 1651 rfl (by omega) (by omega)
  refine xG_run 10 rfl (by repeat' (first | exact trivial | assumption | exact xob_b rfl | exact xal_b rfl | (apply And.intro) | decide)) ?_
  refine xG_c2 3 rfl (by repeat' (first | exact trivial | assumption | exact xob_b rfl | exact xal_b rfl | (apply And.intro) | decide)) rfl rfl (by decide) cw_X12_isIn (d' := d - 1) (e_isIn (c := 0 ≤ p ∧ p < nI np) (by
        have e : (gI M 167 (1644 : Int32).toNatClampNeg - 1).toInt = (np : Int) - 1 := by
          show (gI M 167 1644 - 1).toInt = _
          rw [hn, fb_subI] <;> rw [nI_ti (by omega)] <;> simp <;> omega
        rw [Int64.le_iff_toInt_le, Int64.le_iff_toInt_le, Int32.toInt_toInt64, Int32.toInt_toInt64, e, Int32.le_iff_toInt_le, Int32.lt_iff_toInt_lt, nI_ti (by omega)]
        simp
        omega)) (by omega) ?_
  rintro v M' ⟨rfl, hM⟩
  subst M'
  dsimp only [Option.toList, List.cons_append, List.nil_append]
  refine r2_z rfl rfl zb ?_
  exact ⟨rfl, rfl⟩
set_option maxRecDepth 4000 in
theorem e_isShelf {κ : xKK} {d : Nat} {M : xM} {p : Int32} (hd : 1 ≤ d) : xE2 κ mX12_isShelf d [.int p] M (fun v M' => v = some (.int (if 0 ≤ p ∧ p < 8 then 1 else 0)) ∧ M' = M) := by
  refine xE2_of ci_X12_isShelf cl_X12_isShelf cw_X12_isShelf rfl (L := [some (.int p)]) rfl ?_
  refine xG_run 4 rfl (by repeat' (first | exact trivial | assumption | exact xob_b rfl | exact xal_b rfl | (apply And.intro) | decide)) ?_
  refine xG_c2 3 rfl (by repeat' (first | exact trivial | assumption | exact xob_b rfl | exact xal_b rfl | (apply And.intro) | decide)) rfl rfl (by decide) cw_X12_isIn (d' := d - 1) (e_isIn (c := 0 ≤ p ∧ p < 8) (by
        rw [Int64.le_iff_toInt_le, Int64.le_iff_toInt_le, Int32.toInt_toInt64, Int32.le_iff_toInt_le, Int32.lt_iff_toInt_lt]
        simp
        omega)) (by omega) ?_
  rintro v M' ⟨rfl, hM⟩
  subst M'
  dsimp only [Option.toList, List.cons_append, List.nil_append]
  refine r2_z rfl rfl zb ?_
  exact ⟨rfl, rfl⟩
set_option maxRecDepth 4000 in
theorem e_of {κ : xKK} {d : Nat} {M : xM} {p k : Nat} {x y : Int32} (hx : x = nI p) (hy : y = nI k) (h : 7 * p + k < 1651) : xE2 κ mX12_of d [.ref 166, .int x, .int y] M (fun v M' => v = some (.int (rs M p k)) ∧ M' = M) := by
  refine xE2_of ci_X12_of cl_X12_of cw_X12_of rfl (L := [some (.ref 166), some (.int x), some (.int y)]) rfl ?_
  subst hx hy
  have hs : xar 167 0 182 (7 * nI p + nI k) := by rw [ix7]; exact xar_n rfl 1651 rfl h (by omega)
  refine xG_run 8 rfl (by repeat' (first | exact trivial | assumption | exact xob_b rfl | exact xal_b rfl | (apply And.intro) | decide)) ?_
  refine r2_i rfl rfl ?_
  exact ⟨by rw [ix7, nI_cl (by omega)]; rfl, rfl⟩
set_option maxRecDepth 4000 in
theorem e_rope0 {κ : xKK} {d : Nat} {M : xM} {p k : Nat} {x y : Int32} (hx : x = nI p) (hy : y = nI k) (h : 70 + 6 * p + k < 1651) : xE2 κ mX12_rope0 d [.ref 166, .int x, .int y] M (fun v M' => v = some (.int (rr M p k)) ∧ M' = M) := by
  refine xE2_of ci_X12_rope0 cl_X12_rope0 cw_X12_rope0 rfl (L := [some (.ref 166), some (.int x), some (.int y)]) rfl ?_
  subst hx hy
  have hs : xar 167 0 182 (70 + 6 * nI p + nI k) := by rw [ix6]; exact xar_n rfl 1651 rfl h (by omega)
  refine xG_run 10 rfl (by repeat' (first | exact trivial | assumption | exact xob_b rfl | exact xal_b rfl | (apply And.intro) | decide)) ?_
  refine r2_i rfl rfl ?_
  exact ⟨by rw [ix6, nI_cl (by omega)]; rfl, rfl⟩
set_option maxRecDepth 4000 in
theorem e_rweight {κ : xKK} {d : Nat} {M : xM} {p : Nat} (hp : p < 10) (hd : 1 ≤ d) : xE2 κ mX12_weight d [.ref 166, .int (nI p)] M (fun v M' => v = some (.int (rW M p)) ∧ M' = M) := by
  refine xE2_of ci_X12_weight cl_X12_weight cw_X12_weight rfl (L := [some (.ref 166), some (.int (nI p)), none, none]) rfl ?_
  refine xG_run 3 rfl (by repeat' (first | exact trivial | assumption | exact xob_b rfl | exact xal_b rfl | (apply And.intro) | decide)) ?_
  refine xG_c2 2 rfl (by repeat' (first | exact trivial | assumption | exact xob_b rfl | exact xal_b rfl | (apply And.intro) | decide)) rfl rfl (by decide) cw_X12_of (d' := d - 1) (e_of (p := p) (k := 2) rfl rfl (by omega)) (by omega) ?_
  rintro v M' ⟨rfl, hM⟩
  subst M'
  dsimp only [Option.toList, List.cons_append, List.nil_append]
  refine xG_run 4 rfl (by repeat' (first | exact trivial | assumption | exact xob_b rfl | exact xal_b rfl | (apply And.intro) | decide)) ?_
  refine xG_c2 2 rfl (by repeat' (first | exact trivial | assumption | exact xob_b rfl | exact xal_b rfl | (apply And.intro) | decide)) rfl rfl (by decide) cw_X12_of (d' := d - 1) (e_of (p := p) (k := 5) rfl rfl (by omega)) (by omega) ?_
  rintro v M' ⟨rfl, hM⟩
  subst M'
  dsimp only [Option.toList, List.cons_append, List.nil_append]
  refine xG_run 4 rfl (by repeat' (first | exact trivial | assumption | exact xob_b rfl | exact xal_b rfl | (apply And.intro) | decide)) ?_
  refine xG_c2 2 rfl (by repeat' (first | exact trivial | assumption | exact xob_b rfl | exact xal_b rfl | (apply And.intro) | decide)) rfl rfl (by decide) cw_X12_of (d' := d - 1) (e_of (p := p) (k := 0) rfl rfl (by omega)) (by omega) ?_
  rintro v M' ⟨rfl, hM⟩
  subst M'
  dsimp only [Option.toList, List.cons_append, List.nil_append]
  by_cases q0 : rs M p 0 = 0
  · refine xG_swI 48 0 rfl (by rw [q0]; decide) (by decide) rfl (by decide) ?_
    refine xG_run 3 rfl (by repeat' (first | exact trivial | assumption | exact xob_b rfl | exact xal_b rfl | (apply And.intro) | decide)) ?_
    refine r2_i rfl rfl ?_
    refine ⟨?_, rfl⟩
    simp [rW, *]
  by_cases q1 : rs M p 0 = 1
  · refine xG_swI 52 1 rfl (by rw [q1]; decide) (by decide) rfl (by decide) ?_
    refine xG_run 5 rfl (by repeat' (first | exact trivial | assumption | exact xob_b rfl | exact xal_b rfl | (apply And.intro) | decide)) ?_
    refine r2_i rfl rfl ?_
    refine ⟨?_, rfl⟩
    simp [rW, *]
  by_cases q2 : rs M p 0 = 2
  · refine xG_swI 58 2 rfl (by rw [q2]; decide) (by decide) rfl (by decide) ?_
    refine xG_run 7 rfl (by repeat' (first | exact trivial | assumption | exact xob_b rfl | exact xal_b rfl | (apply And.intro) | decide)) ?_
    refine r2_i rfl rfl ?_
    refine ⟨?_, rfl⟩
    simp [rW, *]
  refine xG_swO 66 rfl (by have := lv_neT q0 (a := 0) (by decide); have := lv_neT q1 (a := 1) (by decide); have := lv_neT q2 (a := 2) (by decide); omega) (by decide) ?_
  refine xG_run 7 rfl (by repeat' (first | exact trivial | assumption | exact xob_b rfl | exact xal_b rfl | (apply And.intro) | decide)) ?_
  refine r2_i rfl rfl ?_
  refine ⟨?_, rfl⟩
  simp [rW, *]
set_option maxRecDepth 4000 in
theorem e_rfaces {κ : xKK} {d : Nat} {M : xM} {p : Nat} (hp : p < 10) (hd : 1 ≤ d) : xE2 κ mX12_faces d [.ref 166, .int (nI p)] M (fun v M' => v = some (.int (rF M p)) ∧ M' = M) := by
  refine xE2_of ci_X12_faces cl_X12_faces cw_X12_faces rfl (L := [some (.ref 166), some (.int (nI p)), none, none]) rfl ?_
  refine xG_run 3 rfl (by repeat' (first | exact trivial | assumption | exact xob_b rfl | exact xal_b rfl | (apply And.intro) | decide)) ?_
  refine xG_c2 2 rfl (by repeat' (first | exact trivial | assumption | exact xob_b rfl | exact xal_b rfl | (apply And.intro) | decide)) rfl rfl (by decide) cw_X12_of (d' := d - 1) (e_of (p := p) (k := 5) rfl rfl (by omega)) (by omega) ?_
  rintro v M' ⟨rfl, hM⟩
  subst M'
  dsimp only [Option.toList, List.cons_append, List.nil_append]
  refine xG_run 4 rfl (by repeat' (first | exact trivial | assumption | exact xob_b rfl | exact xal_b rfl | (apply And.intro) | decide)) ?_
  refine xG_c2 2 rfl (by repeat' (first | exact trivial | assumption | exact xob_b rfl | exact xal_b rfl | (apply And.intro) | decide)) rfl rfl (by decide) cw_X12_of (d' := d - 1) (e_of (p := p) (k := 0) rfl rfl (by omega)) (by omega) ?_
  rintro v M' ⟨rfl, hM⟩
  subst M'
  dsimp only [Option.toList, List.cons_append, List.nil_append]
  refine xG_run 2 rfl (by repeat' (first | exact trivial | assumption | exact xob_b rfl | exact xal_b rfl | (apply And.intro) | decide)) ?_
  refine xG_br rfl (fun h15 => ?_) (fun h15 => ?_)
  · refine xG_run 3 rfl (by repeat' (first | exact trivial | assumption | exact xob_b rfl | exact xal_b rfl | (apply And.intro) | decide)) ?_
    refine xG_c2 2 rfl (by repeat' (first | exact trivial | assumption | exact xob_b rfl | exact xal_b rfl | (apply And.intro) | decide)) rfl rfl (by decide) cw_X12_of (d' := d - 1) (e_of (p := p) (k := 3) rfl rfl (by omega)) (by omega) ?_
    rintro v M' ⟨rfl, hM⟩
    subst M'
    dsimp only [Option.toList, List.cons_append, List.nil_append]
    refine xG_run 8 rfl (by repeat' (first | exact trivial | assumption | exact xob_b rfl | exact xal_b rfl | (apply And.intro) | decide)) ?_
    refine xG_br rfl (fun h41 => ?_) (fun h41 => ?_)
    · refine xG_run 2 rfl (by repeat' (first | exact trivial | assumption | exact xob_b rfl | exact xal_b rfl | (apply And.intro) | decide)) ?_
      refine r2_i rfl rfl ?_
      refine ⟨?_, rfl⟩
      first
        | (simp [rF, *]; done)
        | (exfalso; simp_all; done)
    · refine xG_run 3 rfl (by repeat' (first | exact trivial | assumption | exact xob_b rfl | exact xal_b rfl | (apply And.intro) | decide)) ?_
      refine r2_i rfl rfl ?_
      refine ⟨?_, rfl⟩
      first
        | (simp [rF, *]; done)
        | (exfalso; simp_all; done)
  · refine xG_run 3 rfl (by repeat' (first | exact trivial | assumption | exact xob_b rfl | exact xal_b rfl | (apply And.intro) | decide)) ?_
    refine xG_c2 2 rfl (by repeat' (first | exact trivial | assumption | exact xob_b rfl | exact xal_b rfl | (apply And.intro) | decide)) rfl rfl (by decide) cw_X12_of (d' := d - 1) (e_of (p := p) (k := 3) rfl rfl (by omega)) (by omega) ?_
    rintro v M' ⟨rfl, hM⟩
    subst M'
    dsimp only [Option.toList, List.cons_append, List.nil_append]
    refine xG_run 7 rfl (by repeat' (first | exact trivial | assumption | exact xob_b rfl | exact xal_b rfl | (apply And.intro) | decide)) ?_
    refine xG_br rfl (fun h41 => ?_) (fun h41 => ?_)
    · refine xG_run 2 rfl (by repeat' (first | exact trivial | assumption | exact xob_b rfl | exact xal_b rfl | (apply And.intro) | decide)) ?_
      refine r2_i rfl rfl ?_
      refine ⟨?_, rfl⟩
      first
        | (simp [rF, *]; done)
        | (exfalso; simp_all; done)
    · refine xG_run 3 rfl (by repeat' (first | exact trivial | assumption | exact xob_b rfl | exact xal_b rfl | (apply And.intro) | decide)) ?_
      refine r2_i rfl rfl ?_
      refine ⟨?_, rfl⟩
      first
        | (simp [rF, *]; done)
        | (exfalso; simp_all; done)
set_option maxRecDepth 4000 in
theorem e_rarm {κ : xKK} {d : Nat} {M : xM} {q h : Nat} (hq : q < 12) (hh : rr M q 0 = nI h) (hh2 : h < 10) (h0 : ¬ rs M h 1 + rr M q 2 = 0) (hd : 1 ≤ d) : xE2 κ mX12_arm d [.ref 166, .int (nI q)] M (fun v M' => v = some (.int (rA M q h)) ∧ M' = M) := by
  refine xE2_of ci_X12_arm cl_X12_arm cw_X12_arm rfl (L := [some (.ref 166), some (.int (nI q)), none, none]) rfl ?_
  refine xG_run 4 rfl (by repeat' (first | exact trivial | assumption | exact xob_b rfl | exact xal_b rfl | (apply And.intro) | decide)) ?_
  refine xG_c2 2 rfl (by repeat' (first | exact trivial | assumption | exact xob_b rfl | exact xal_b rfl | (apply And.intro) | decide)) rfl rfl (by decide) cw_X12_rope0 (d' := d - 1) (e_rope0 (p := q) (k := 0) rfl rfl (by omega)) (by omega) ?_
  rintro v M' ⟨rfl, hM⟩
  subst M'
  dsimp only [Option.toList, List.cons_append, List.nil_append]
  refine xG_run 1 rfl (by repeat' (first | exact trivial | assumption | exact xob_b rfl | exact xal_b rfl | (apply And.intro) | decide)) ?_
  refine xG_c2 2 rfl (by repeat' (first | exact trivial | assumption | exact xob_b rfl | exact xal_b rfl | (apply And.intro) | decide)) rfl rfl (by decide) cw_X12_of (d' := d - 1) (e_of (p := h) (k := 1) hh rfl (by omega)) (by omega) ?_
  rintro v M' ⟨rfl, hM⟩
  subst M'
  dsimp only [Option.toList, List.cons_append, List.nil_append]
  refine xG_run 5 rfl (by repeat' (first | exact trivial | assumption | exact xob_b rfl | exact xal_b rfl | (apply And.intro) | decide)) ?_
  refine xG_c2 2 rfl (by repeat' (first | exact trivial | assumption | exact xob_b rfl | exact xal_b rfl | (apply And.intro) | decide)) rfl rfl (by decide) cw_X12_rope0 (d' := d - 1) (e_rope0 (p := q) (k := 2) rfl rfl (by omega)) (by omega) ?_
  rintro v M' ⟨rfl, hM⟩
  subst M'
  dsimp only [Option.toList, List.cons_append, List.nil_append]
  refine xG_run 5 rfl (by repeat' (first | exact trivial | assumption | exact xob_b rfl | exact xal_b rfl | (apply And.intro) | decide)) ?_
  refine xG_c2 2 rfl (by repeat' (first | exact trivial | assumption | exact xob_b rfl | exact xal_b rfl | (apply And.intro) | decide)) rfl rfl (by decide) cw_X12_rope0 (d' := d - 1) (e_rope0 (p := q) (k := 2) rfl rfl (by omega)) (by omega) ?_
  rintro v M' ⟨rfl, hM⟩
  subst M'
  dsimp only [Option.toList, List.cons_append, List.nil_append]
  refine xG_run 5 rfl (by repeat' (first | exact trivial | assumption | exact xob_b rfl | exact xal_b rfl | (apply And.intro) | decide)) ?_
  refine xG_br rfl (fun h32 => ?_) (fun h32 => ?_)
  · refine xG_run 1 rfl (by repeat' (first | exact trivial | assumption | exact xob_b rfl | exact xal_b rfl | (apply And.intro) | decide)) ?_
    refine r2_i rfl rfl ?_
    refine ⟨?_, rfl⟩
    unfold rA rA0
    first
      | (rw [if_pos (i_nle h32)]; done)
      | (rw [if_neg (i_nlt h32)])
  · refine xG_run 2 rfl (by repeat' (first | exact trivial | assumption | exact xob_b rfl | exact xal_b rfl | (apply And.intro) | decide)) ?_
    refine r2_i rfl rfl ?_
    refine ⟨?_, rfl⟩
    unfold rA rA0
    first
      | (rw [if_pos (i_nle h32)]; done)
      | (rw [if_neg (i_nlt h32)])
