/-! ===== the stand, as the reference finds it ===== -/
def rV (M : xM) (p : Nat) : Int32 := gI M 167 1648 * gI M 167 (142 + (rs M p 1 / 20).toNatClampNeg) / 100
def rPu (M : xM) (p : Nat) : Int32 := rV M p * rV M p * rF M p / 100 * gI M 167 1649
/-- the piece at which a rope is -/
def rH (M : xM) (q : Nat) : Nat := (rr M q 0).toNatClampNeg
def rPl (M : xM) (q : Nat) (l : Int32) : Int64 := (rr M q 4).toInt64 - (rr M q 1).toInt64 * (rr M q 3).toInt64 * l.toInt64 * (rA M q (rH M q)).toInt64 / 1000
def rP (M : xM) (q : Nat) (l : Int32) : Int32 := if ¬ rr M q 5 = 0 then 0 else if rPl M q l < 0 then 0 else (rPl M q l).toInt32
def rTp (M : xM) (l : Int32) (p : Nat) : Int64 := (rPu M p).toInt64 * (rs M p 1).toInt64 + (rW M p).toInt64 * (rs M p 1).toInt64 * l.toInt64 / 1000
def rTr (M : xM) (l : Int32) (q : Nat) : Int64 := (rP M q l).toInt64 * (rA M q (rH M q)).toInt64 * (rr M q 1).toInt64
def rAll (M : xM) (np nr : Nat) (l : Int32) : Int64 := lAcc (lAcc (-(gJ M 166 18) - (gI M 167 1650).toInt64 * l.toInt64) (rTp M l) np) (rTr M l) nr
set_option maxRecDepth 4000 in
theorem e_rpush {κ : xKK} {d : Nat} {M : xM} {p k : Nat} (hp : p < 10) (hk : rs M p 1 / 20 = nI k) (hk5 : k < 5) (hd : 2 ≤ d) : xE2 κ mX12_pushOn d [.ref 166, .int (nI p)] M (fun v M' => v = some (.int (rPu M p)) ∧ M' = M) := by
  refine xE2_of ci_X12_pushOn cl_X12_pushOn cw_X12_pushOn rfl (L := [some (.ref 166), some (.int (nI p)), none]) rfl ?_
  have hs1 : xar 167 0 182 1648 := xar_n (j := 1648) rfl 1651 rfl (by omega) (by omega)
  have hs2 : xar 167 0 182 1649 := xar_n (j := 1649) rfl 1651 rfl (by omega) (by omega)
  have e9 : (142 : Int32) + rs M p 1 / 20 = nI (142 + k) := by rw [hk]; exact nI_add 142 k
  have hs3 : xar 167 0 182 (142 + rs M p 1 / 20) := by rw [e9]; exact xar_n rfl 1651 rfl (by omega) (by omega)
  have e8 : ((142 : Int32) + rs M p 1 / 20).toNatClampNeg = 142 + (rs M p 1 / 20).toNatClampNeg := by rw [e9, hk, nI_cl (by omega), nI_cl (by omega)]
  refine xG_run 10 rfl (by repeat' (first | exact trivial | assumption | exact xob_b rfl | exact xal_b rfl | (apply And.intro) | decide)) ?_
  refine xG_c2 2 rfl (by repeat' (first | exact trivial | assumption | exact xob_b rfl | exact xal_b rfl | (apply And.intro) | decide)) rfl rfl (by decide) cw_X12_of (d' := d - 1) (e_of (p := p) (k := 1) rfl rfl (by omega)) (by omega) ?_
  rintro v M' ⟨rfl, hM⟩
  subst M'
  dsimp only [Option.toList, List.cons_append, List.nil_append]
  refine xG_run 13 rfl (by repeat' (first | exact trivial | assumption | exact xob_b rfl | exact xal_b rfl | (apply And.intro) | decide)) ?_
  refine xG_c2 1 rfl (by repeat' (first | exact trivial | assumption | exact xob_b rfl | exact xal_b rfl | (apply And.intro) | decide)) rfl rfl (by decide) cw_X12_faces (d' := d - 1) (e_rfaces (p := p) hp (by omega)) (by omega) ?_
  rintro v M' ⟨rfl, hM⟩
  subst M'
  dsimp only [Option.toList, List.cons_append, List.nil_append]
  refine xG_run 8 rfl (by repeat' (first | exact trivial | assumption | exact xob_b rfl | exact xal_b rfl | (apply And.intro) | decide)) ?_
  refine r2_i rfl rfl ?_
  refine ⟨?_, rfl⟩
  unfold rPu rV
  rw [e8]
  rfl
set_option maxRecDepth 4000 in
theorem e_rpull {κ : xKK} {d : Nat} {M : xM} {q : Nat} {l : Int32} (hq : q < 12) (hh : rr M q 0 = nI (rH M q)) (hh2 : rH M q < 10) (h0 : ¬ rs M (rH M q) 1 + rr M q 2 = 0) (hd : 2 ≤ d) : xE2 κ mX12_pullAt d [.ref 166, .int (nI q), .int l] M (fun v M' => v = some (.int (rP M q l)) ∧ M' = M) := by
  refine xE2_of ci_X12_pullAt cl_X12_pullAt cw_X12_pullAt rfl (L := [some (.ref 166), some (.int (nI q)), some (.int l), none, none]) rfl ?_
  refine xG_run 3 rfl (by repeat' (first | exact trivial | assumption | exact xob_b rfl | exact xal_b rfl | (apply And.intro) | decide)) ?_
  refine xG_c2 2 rfl (by repeat' (first | exact trivial | assumption | exact xob_b rfl | exact xal_b rfl | (apply And.intro) | decide)) rfl rfl (by decide) cw_X12_rope0 (d' := d - 1) (e_rope0 (p := q) (k := 5) rfl rfl (by omega)) (by omega) ?_
  rintro v M' ⟨rfl, hM⟩
  subst M'
  dsimp only [Option.toList, List.cons_append, List.nil_append]
  refine xG_br rfl (fun h6 => ?_) (fun h6 => ?_)
  · refine xG_run 3 rfl (by repeat' (first | exact trivial | assumption | exact xob_b rfl | exact xal_b rfl | (apply And.intro) | decide)) ?_
    refine xG_c2 2 rfl (by repeat' (first | exact trivial | assumption | exact xob_b rfl | exact xal_b rfl | (apply And.intro) | decide)) rfl rfl (by decide) cw_X12_rope0 (d' := d - 1) (e_rope0 (p := q) (k := 4) rfl rfl (by omega)) (by omega) ?_
    rintro v M' ⟨rfl, hM⟩
    subst M'
    dsimp only [Option.toList, List.cons_append, List.nil_append]
    refine xG_run 4 rfl (by repeat' (first | exact trivial | assumption | exact xob_b rfl | exact xal_b rfl | (apply And.intro) | decide)) ?_
    refine xG_c2 2 rfl (by repeat' (first | exact trivial | assumption | exact xob_b rfl | exact xal_b rfl | (apply And.intro) | decide)) rfl rfl (by decide) cw_X12_rope0 (d' := d - 1) (e_rope0 (p := q) (k := 1) rfl rfl (by omega)) (by omega) ?_
    rintro v M' ⟨rfl, hM⟩
    subst M'
    dsimp only [Option.toList, List.cons_append, List.nil_append]
    refine xG_run 4 rfl (by repeat' (first | exact trivial | assumption | exact xob_b rfl | exact xal_b rfl | (apply And.intro) | decide)) ?_
    refine xG_c2 2 rfl (by repeat' (first | exact trivial | assumption | exact xob_b rfl | exact xal_b rfl | (apply And.intro) | decide)) rfl rfl (by decide) cw_X12_rope0 (d' := d - 1) (e_rope0 (p := q) (k := 3) rfl rfl (by omega)) (by omega) ?_
    rintro v M' ⟨rfl, hM⟩
    subst M'
    dsimp only [Option.toList, List.cons_append, List.nil_append]
    refine xG_run 7 rfl (by repeat' (first | exact trivial | assumption | exact xob_b rfl | exact xal_b rfl | (apply And.intro) | decide)) ?_
    refine xG_c2 1 rfl (by repeat' (first | exact trivial | assumption | exact xob_b rfl | exact xal_b rfl | (apply And.intro) | decide)) rfl rfl (by decide) cw_X12_arm (d' := d - 1) (e_rarm (q := q) (h := rH M q) hq hh hh2 h0 (by omega)) (by omega) ?_
    rintro v M' ⟨rfl, hM⟩
    subst M'
    dsimp only [Option.toList, List.cons_append, List.nil_append]
    refine xG_run 9 rfl (by repeat' (first | exact trivial | assumption | exact xob_b rfl | exact xal_b rfl | (apply And.intro) | decide)) ?_
    refine xG_br rfl (fun h52 => ?_) (fun h52 => ?_)
    · refine xG_run 2 rfl (by repeat' (first | exact trivial | assumption | exact xob_b rfl | exact xal_b rfl | (apply And.intro) | decide)) ?_
      refine r2_i rfl rfl ?_
      refine ⟨?_, rfl⟩
      unfold rP rPl
      first
        | (rw [if_pos h6]; done)
        | (rw [if_neg (by first | exact h6 | exact fun q => q h6), if_neg (Int64.not_lt.mpr ((lg_ge0 _ _).mp h52))]; done)
        | (rw [if_neg (by first | exact h6 | exact fun q => q h6), if_pos (Int64.not_le.mp (fun q => h52 ((lg_ge0 _ _).mpr q)))]; done)
    · refine xG_run 2 rfl (by repeat' (first | exact trivial | assumption | exact xob_b rfl | exact xal_b rfl | (apply And.intro) | decide)) ?_
      refine r2_i rfl rfl ?_
      refine ⟨?_, rfl⟩
      unfold rP rPl
      first
        | (rw [if_pos h6]; done)
        | (rw [if_neg (by first | exact h6 | exact fun q => q h6), if_neg (Int64.not_lt.mpr ((lg_ge0 _ _).mp h52))]; done)
        | (rw [if_neg (by first | exact h6 | exact fun q => q h6), if_pos (Int64.not_le.mp (fun q => h52 ((lg_ge0 _ _).mpr q)))]; done)
  · refine xG_run 1 rfl (by repeat' (first | exact trivial | assumption | exact xob_b rfl | exact xal_b rfl | (apply And.intro) | decide)) ?_
    refine r2_i rfl rfl ?_
    refine ⟨?_, rfl⟩
    unfold rP rPl
    first
      | (rw [if_pos h6]; done)
      | (rw [if_neg (by first | exact h6 | exact fun q => q h6), if_neg (Int64.not_lt.mpr ((lg_ge0 _ _).mp h52))]; done)
      | (rw [if_neg (by first | exact h6 | exact fun q => q h6), if_pos (Int64.not_le.mp (fun q => h52 ((lg_ge0 _ _).mpr q)))]; done)
set_option maxRecDepth 4000 in
theorem e_rrest {κ : xKK} {d : Nat} {M : xM} {np nr : Nat} (hn : gI M 167 1643 = nI np) (hn2 : np ≤ 10) (hr : gI M 167 1644 = nI nr) (hr2 : nr ≤ 12) (hw : ∀ p, p < np → ∃ k, k < 5 ∧ rs M p 1 / 20 = nI k) (hh : ∀ q, q < nr → (rr M q 0 = nI (rH M q) ∧ rH M q < 10) ∧ ¬ rs M (rH M q) 1 + rr M q 2 = 0) {l : Int32} (hd : 3 ≤ d) : xE2 κ mX12_restAt d [.ref 166, .int l] M (fun v M' => v = some (.long (rAll M np nr l)) ∧ M' = M) := by
  refine xE2_of ci_X12_restAt cl_X12_restAt cw_X12_restAt rfl (L := [some (.ref 166), some (.int l), none, none, none]) rfl ?_
  have hs1 : xar 167 0 182 1650 := xar_n (j := 1650) rfl 1651 rfl (by omega) (by omega)
  have hs2 : xar 167 0 182 1643 := xar_n (j := 1643) rfl 1651 rfl (by omega) (by omega)
  have hs3 : xar 167 0 182 1644 := xar_n (j := 1644) rfl 1651 rfl (by omega) (by omega)
  refine xG_run 15 rfl (by repeat' (first | exact trivial | assumption | exact xob_b rfl | exact xal_b rfl | (apply And.intro) | decide)) ?_
  refine xG_up (fun j => (22, [some (.ref 166), some (.int l), some (.long (lAcc (-(gJ M 166 18) - (gI M 167 1650).toInt64 * l.toInt64) (rTp M l) j)), none, some (.int (nI j))], [], M, z2)) np ?_ ?_ 0 (Nat.zero_le _)
  · intro j hj ih
    obtain ⟨k5, hk5, hk⟩ := hw j hj
    refine xG_run 5 rfl (by repeat' (first | exact trivial | assumption | exact xob_b rfl | exact xal_b rfl | (apply And.intro) | decide)) ?_
    refine xG_brF rfl (by rw [show gI M 167 (1643 : Int32).toNatClampNeg = nI np from hn]; exact nI_ge hj (by omega)) ?_
    refine xG_run 3 rfl (by repeat' (first | exact trivial | assumption | exact xob_b rfl | exact xal_b rfl | (apply And.intro) | decide)) ?_
    refine xG_c2 1 rfl (by repeat' (first | exact trivial | assumption | exact xob_b rfl | exact xal_b rfl | (apply And.intro) | decide)) rfl rfl (by decide) cw_X12_pushOn (d' := d - 1) (e_rpush (p := j) (by omega) hk hk5 (by omega)) (by omega) ?_
    rintro v M' ⟨rfl, hM⟩
    subst M'
    dsimp only [Option.toList, List.cons_append, List.nil_append]
    refine xG_run 4 rfl (by repeat' (first | exact trivial | assumption | exact xob_b rfl | exact xal_b rfl | (apply And.intro) | decide)) ?_
    refine xG_c2 2 rfl (by repeat' (first | exact trivial | assumption | exact xob_b rfl | exact xal_b rfl | (apply And.intro) | decide)) rfl rfl (by decide) cw_X12_of (d' := d - 1) (e_of (p := j) (k := 1) rfl rfl (by omega)) (by omega) ?_
    rintro v M' ⟨rfl, hM⟩
    subst M'
    dsimp only [Option.toList, List.cons_append, List.nil_append]
    refine xG_run 4 rfl (by repeat' (first | exact trivial | assumption | exact xob_b rfl | exact xal_b rfl | (apply And.intro) | decide)) ?_
    refine xG_c2 1 rfl (by repeat' (first | exact trivial | assumption | exact xob_b rfl | exact xal_b rfl | (apply And.intro) | decide)) rfl rfl (by decide) cw_X12_weight (d' := d - 1) (e_rweight (p := j) (by omega) (by omega)) (by omega) ?_
    rintro v M' ⟨rfl, hM⟩
    subst M'
    dsimp only [Option.toList, List.cons_append, List.nil_append]
    refine xG_run 4 rfl (by repeat' (first | exact trivial | assumption | exact xob_b rfl | exact xal_b rfl | (apply And.intro) | decide)) ?_
    refine xG_c2 2 rfl (by repeat' (first | exact trivial | assumption | exact xob_b rfl | exact xal_b rfl | (apply And.intro) | decide)) rfl rfl (by decide) cw_X12_of (d' := d - 1) (e_of (p := j) (k := 1) rfl rfl (by omega)) (by omega) ?_
    rintro v M' ⟨rfl, hM⟩
    subst M'
    dsimp only [Option.toList, List.cons_append, List.nil_append]
    refine xG_run 12 rfl (by repeat' (first | exact trivial | assumption | exact xob_b rfl | exact xal_b rfl | (apply And.intro) | decide)) ?_
    rw [nI_1]; exact ih
  · refine xG_run 5 rfl (by repeat' (first | exact trivial | assumption | exact xob_b rfl | exact xal_b rfl | (apply And.intro) | decide)) ?_
    refine xG_brT rfl (by rw [show gI M 167 (1643 : Int32).toNatClampNeg = nI np from hn]; exact Int32.le_refl _) ?_
    refine xG_run 2 rfl (by repeat' (first | exact trivial | assumption | exact xob_b rfl | exact xal_b rfl | (apply And.intro) | decide)) ?_
    refine xG_up (fun j => (87, [some (.ref 166), some (.int l), some (.long (lAcc (lAcc (-(gJ M 166 18) - (gI M 167 1650).toInt64 * l.toInt64) (rTp M l) np) (rTr M l) j)), none, some (.int (nI j))], [], M, z2)) nr ?_ ?_ 0 (Nat.zero_le _)
    · intro j hj ih
      obtain ⟨⟨g1, g2⟩, g3⟩ := hh j hj
      refine xG_run 5 rfl (by repeat' (first | exact trivial | assumption | exact xob_b rfl | exact xal_b rfl | (apply And.intro) | decide)) ?_
      refine xG_brF rfl (by rw [show gI M 167 (1644 : Int32).toNatClampNeg = nI nr from hr]; exact nI_ge hj (by omega)) ?_
      refine xG_run 4 rfl (by repeat' (first | exact trivial | assumption | exact xob_b rfl | exact xal_b rfl | (apply And.intro) | decide)) ?_
      refine xG_c2 2 rfl (by repeat' (first | exact trivial | assumption | exact xob_b rfl | exact xal_b rfl | (apply And.intro) | decide)) rfl rfl (by decide) cw_X12_pullAt (d' := d - 1) (e_rpull (q := j) (by omega) g1 g2 g3 (by omega)) (by omega) ?_
      rintro v M' ⟨rfl, hM⟩
      subst M'
      dsimp only [Option.toList, List.cons_append, List.nil_append]
      refine xG_run 3 rfl (by repeat' (first | exact trivial | assumption | exact xob_b rfl | exact xal_b rfl | (apply And.intro) | decide)) ?_
      refine xG_c2 1 rfl (by repeat' (first | exact trivial | assumption | exact xob_b rfl | exact xal_b rfl | (apply And.intro) | decide)) rfl rfl (by decide) cw_X12_arm (d' := d - 1) (e_rarm (q := j) (h := rH M j) (by omega) g1 g2 g3 (by omega)) (by omega) ?_
      rintro v M' ⟨rfl, hM⟩
      subst M'
      dsimp only [Option.toList, List.cons_append, List.nil_append]
      refine xG_run 5 rfl (by repeat' (first | exact trivial | assumption | exact xob_b rfl | exact xal_b rfl | (apply And.intro) | decide)) ?_
      refine xG_c2 2 rfl (by repeat' (first | exact trivial | assumption | exact xob_b rfl | exact xal_b rfl | (apply And.intro) | decide)) rfl rfl (by decide) cw_X12_rope0 (d' := d - 1) (e_rope0 (p := j) (k := 1) rfl rfl (by omega)) (by omega) ?_
      rintro v M' ⟨rfl, hM⟩
      subst M'
      dsimp only [Option.toList, List.cons_append, List.nil_append]
      refine xG_run 6 rfl (by repeat' (first | exact trivial | assumption | exact xob_b rfl | exact xal_b rfl | (apply And.intro) | decide)) ?_
      rw [nI_1]; exact ih
    · refine xG_run 5 rfl (by repeat' (first | exact trivial | assumption | exact xob_b rfl | exact xal_b rfl | (apply And.intro) | decide)) ?_
      refine xG_brT rfl (by rw [show gI M 167 (1644 : Int32).toNatClampNeg = nI nr from hr]; exact Int32.le_refl _) ?_
      refine xG_run 1 rfl (by repeat' (first | exact trivial | assumption | exact xob_b rfl | exact xal_b rfl | (apply And.intro) | decide)) ?_
      refine r2_l rfl rfl ?_
      exact ⟨rfl, rfl⟩
set_option maxRecDepth 4000 in
theorem e_rstanding {κ : xKK} {d : Nat} {M : xM} {np nr : Nat} (hn : gI M 167 1643 = nI np) (hn2 : np ≤ 10) (hr : gI M 167 1644 = nI nr) (hr2 : nr ≤ 12) (hw : ∀ p, p < np → ∃ k, k < 5 ∧ rs M p 1 / 20 = nI k) (hh : ∀ q, q < nr → (rr M q 0 = nI (rH M q) ∧ rH M q < 10) ∧ ¬ rs M (rH M q) 1 + rr M q 2 = 0) (hd : 4 ≤ d) : xE2 κ mX12_standing d [.ref 166] M (fun v M' => v = some (.int (stN (rAll M np nr) 300)) ∧ M' = M) := by
  refine xE2_of ci_X12_standing cl_X12_standing cw_X12_standing rfl (L := [some (.ref 166), none]) rfl ?_
  refine xG_run 4 rfl (by repeat' (first | exact trivial | assumption | exact xob_b rfl | exact xal_b rfl | (apply And.intro) | decide)) ?_
  refine xG_c2 1 rfl (by repeat' (first | exact trivial | assumption | exact xob_b rfl | exact xal_b rfl | (apply And.intro) | decide)) rfl rfl (by decide) cw_X12_restAt (d' := d - 1) (e_rrest (l := 0) hn hn2 hr hr2 hw hh (by omega)) (by omega) ?_
  rintro v M' ⟨rfl, hM⟩
  subst M'
  dsimp only [Option.toList, List.cons_append, List.nil_append]
  refine xG_run 2 rfl (by repeat' (first | exact trivial | assumption | exact xob_b rfl | exact xal_b rfl | (apply And.intro) | decide)) ?_
  refine xG_br rfl (fun h9 => ?_) (fun h9 => ?_)
  · refine xG_run 2 rfl (by repeat' (first | exact trivial | assumption | exact xob_b rfl | exact xal_b rfl | (apply And.intro) | decide)) ?_
    have h0 : ¬ 0 ≤ rAll M np nr 0 := fun q => absurd ((lg_lt0 _ _).mp h9) (Int64.not_lt.mpr q)
    have lp : ∀ n k : Nat, n + k = 300 → (∀ i, i < k → decide (0 ≤ rAll M np nr (-(nI (i + 1)))) = false) → xG κ mX12_standing (d, 0, 0) (54, [some (.ref 166), some (.int (-(nI (k + 1))))], [], M, z2) (xRet mX12_standing false (fun v M' n' => n' = 182 ∧ (v = some (.int (stN (rAll M np nr) 300)) ∧ M' = M))) := by
      intro n
      induction n with
      | zero =>
        intro k hk hno
        have hf := fF_no hno
        have hk2 : k = 300 := by omega
        have hl1 : (-(nI (k + 1))).toInt = -((k : Int) + 1) := by rw [sb_negT (by omega)]; omega
        have c1 : -(nI (k + 1)) < (-300 : Int32) := by
          rw [Int32.lt_iff_toInt_lt]
          have e : (-300 : Int32).toInt = -300 := by decide
          omega
        refine xG_run 2 rfl (by repeat' (first | exact trivial | assumption | exact xob_b rfl | exact xal_b rfl | (apply And.intro) | decide)) ?_
        refine xG_brT rfl c1 ?_
        refine xG_run 2 rfl (by repeat' (first | exact trivial | assumption | exact xob_b rfl | exact xal_b rfl | (apply And.intro) | decide)) ?_
        refine xG_brT rfl c1 ?_
        refine xG_run 1 rfl (by repeat' (first | exact trivial | assumption | exact xob_b rfl | exact xal_b rfl | (apply And.intro) | decide)) ?_
        refine r2_i rfl rfl ?_
        refine ⟨?_, rfl⟩
        unfold stN
        subst hk2
        rw [if_neg h0, hf, if_neg (by omega)]
      | succ n ih =>
        intro k hk hno
        have hl1 : (-(nI (k + 1))).toInt = -((k : Int) + 1) := by rw [sb_negT (by omega)]; omega
        have c1 : ¬ -(nI (k + 1)) < (-300 : Int32) := n3_lt (by omega)
        refine xG_run 2 rfl (by repeat' (first | exact trivial | assumption | exact xob_b rfl | exact xal_b rfl | (apply And.intro) | decide)) ?_
        refine xG_brF rfl c1 ?_
        refine xG_run 2 rfl (by repeat' (first | exact trivial | assumption | exact xob_b rfl | exact xal_b rfl | (apply And.intro) | decide)) ?_
        refine xG_c2 1 rfl (by repeat' (first | exact trivial | assumption | exact xob_b rfl | exact xal_b rfl | (apply And.intro) | decide)) rfl rfl (by decide) cw_X12_restAt (d' := d - 1) (e_rrest (l := -(nI (k + 1))) hn hn2 hr hr2 hw hh (by omega)) (by omega) ?_
        rintro v M' ⟨rfl, hM⟩
        subst M'
        dsimp only [Option.toList, List.cons_append, List.nil_append]
        refine xG_run 2 rfl (by repeat' (first | exact trivial | assumption | exact xob_b rfl | exact xal_b rfl | (apply And.intro) | decide)) ?_
        refine xG_br rfl (fun h68 => ?_) (fun h68 => ?_)
        · refine xG_run 2 rfl (by repeat' (first | exact trivial | assumption | exact xob_b rfl | exact xal_b rfl | (apply And.intro) | decide)) ?_
          refine xG_brF rfl c1 ?_
          refine xG_run 2 rfl (by repeat' (first | exact trivial | assumption | exact xob_b rfl | exact xal_b rfl | (apply And.intro) | decide)) ?_
          refine r2_i rfl rfl ?_
          have hy : decide (0 ≤ rAll M np nr (-(nI (k + 1)))) = true := decide_eq_true ((lg_ge0 _ _).mp h68)
          have hf := fF_at hno hy (n := 300) (by omega)
          refine ⟨?_, rfl⟩
          unfold stN
          rw [if_neg h0, hf, if_pos (by omega)]
        · refine xG_run 2 rfl (by repeat' (first | exact trivial | assumption | exact xob_b rfl | exact xal_b rfl | (apply And.intro) | decide)) ?_
          rw [nneg]
          refine ih (k + 1) (by omega) (fun i hi => ?_)
          by_cases e9 : i = k
          · subst e9
            exact decide_eq_false (fun q => h68 ((lg_ge0 _ _).mpr q))
          · exact hno i (by omega)
    exact lp _ 0 (Nat.add_zero _) (fun i hi => absurd hi (by omega))
  have h0 : 0 ≤ rAll M np nr 0 := Int64.not_lt.mp (fun q => h9 ((lg_lt0 _ _).mpr q))
  have lp : ∀ n k : Nat, n + k = 300 → (∀ i, i < k → decide (rAll M np nr (nI (i + 1)) < 0) = false) → xG κ mX12_standing (d, 0, 0) (12, [some (.ref 166), some (.int (nI k))], [], M, z2) (xRet mX12_standing false (fun v M' n' => n' = 182 ∧ (v = some (.int (stN (rAll M np nr) 300)) ∧ M' = M))) := by
    intro n
    induction n with
    | zero =>
      intro k hk hno
      have hf := fF_no hno
      have hk2 : k = 300 := by omega
      refine xG_run 2 rfl (by repeat' (first | exact trivial | assumption | exact xob_b rfl | exact xal_b rfl | (apply And.intro) | decide)) ?_
      refine xG_brT rfl (show nI 300 ≤ nI k from nI_le (by omega) (by omega)) ?_
      refine xG_run 2 rfl (by repeat' (first | exact trivial | assumption | exact xob_b rfl | exact xal_b rfl | (apply And.intro) | decide)) ?_
      refine xG_brT rfl (show nI 300 ≤ nI k from nI_le (by omega) (by omega)) ?_
      refine xG_run 1 rfl (by repeat' (first | exact trivial | assumption | exact xob_b rfl | exact xal_b rfl | (apply And.intro) | decide)) ?_
      refine r2_i rfl rfl ?_
      refine ⟨?_, rfl⟩
      unfold stN
      subst hk2
      rw [if_pos h0, show min (300 + 1) 300 = 300 from rfl, hf, if_neg (by omega)]
    | succ n ih =>
      intro k hk hno
      have c1 : ¬ (300 : Int32) ≤ nI k := show ¬ nI 300 ≤ nI k from nI_ge (by omega) (by omega)
      refine xG_run 2 rfl (by repeat' (first | exact trivial | assumption | exact xob_b rfl | exact xal_b rfl | (apply And.intro) | decide)) ?_
      refine xG_brF rfl c1 ?_
      refine xG_run 4 rfl (by repeat' (first | exact trivial | assumption | exact xob_b rfl | exact xal_b rfl | (apply And.intro) | decide)) ?_
      refine xG_c2 1 rfl (by repeat' (first | exact trivial | assumption | exact xob_b rfl | exact xal_b rfl | (apply And.intro) | decide)) rfl rfl (by decide) cw_X12_restAt (d' := d - 1) (e_rrest (l := nI k + 1) hn hn2 hr hr2 hw hh (by omega)) (by omega) ?_
      rintro v M' ⟨rfl, hM⟩
      subst M'
      dsimp only [Option.toList, List.cons_append, List.nil_append]
      refine xG_run 2 rfl (by repeat' (first | exact trivial | assumption | exact xob_b rfl | exact xal_b rfl | (apply And.intro) | decide)) ?_
      refine xG_br rfl (fun h28 => ?_) (fun h28 => ?_)
      · refine xG_run 2 rfl (by repeat' (first | exact trivial | assumption | exact xob_b rfl | exact xal_b rfl | (apply And.intro) | decide)) ?_
        refine xG_brF rfl c1 ?_
        refine xG_run 2 rfl (by repeat' (first | exact trivial | assumption | exact xob_b rfl | exact xal_b rfl | (apply And.intro) | decide)) ?_
        refine r2_i rfl rfl ?_
        have hy : decide (rAll M np nr (nI (k + 1)) < 0) = true := decide_eq_true (by rw [← nI_1]; exact (lg_lt0 _ _).mp h28)
        have hf := fF_at hno hy (n := 300) (by omega)
        refine ⟨?_, rfl⟩
        unfold stN
        rw [if_pos h0, show min (300 + 1) 300 = 300 from rfl, hf, if_pos (by omega)]
      · refine xG_run 2 rfl (by repeat' (first | exact trivial | assumption | exact xob_b rfl | exact xal_b rfl | (apply And.intro) | decide)) ?_
        rw [nI_1]
        refine ih (k + 1) (by omega) (fun i hi => ?_)
        by_cases e9 : i = k
        · subst e9
          rw [← nI_1]
          exact decide_eq_false (fun q => h28 ((lg_lt0 _ _).mpr q))
        · exact hno i (by omega)
  exact lp _ 0 (Nat.add_zero _) (fun i hi => absurd hi (by omega))
