/-! ===== the reference: stand, stands, pull, loose, push, rest, gust ===== -/
def rSt (M : xM) (np nr : Nat) : Int32 := stN (rAll M np nr) 300
set_option maxRecDepth 4000 in
theorem e_m_stand {κ : xKK} {d : Nat} {M : xM} {np nr : Nat} (hn : gI M 167 1643 = nI np) (hn2 : np ≤ 10) (hr : gI M 167 1644 = nI nr) (hr2 : nr ≤ 12) (hw : ∀ p, p < np → ∃ k, k < 5 ∧ rs M p 1 / 20 = nI k) (hh : ∀ q, q < nr → (rr M q 0 = nI (rH M q) ∧ rH M q < 10) ∧ ¬ rs M (rH M q) 1 + rr M q 2 = 0) (hd : 5 ≤ d) : xE2 κ mX12_stand d [.ref 166] M (fun v M' => v = some (.int (if rSt M np nr = 1000 then -1000000003 else rSt M np nr)) ∧ M' = M) := by
  refine xE2_of ci_X12_stand cl_X12_stand cw_X12_stand rfl (L := [some (.ref 166), none]) rfl ?_
  refine xG_run 1 rfl (by repeat' (first | exact trivial | assumption | exact xob_b rfl | exact xal_b rfl | (apply And.intro) | decide)) ?_
  refine xG_c2 0 rfl (by repeat' (first | exact trivial | assumption | exact xob_b rfl | exact xal_b rfl | (apply And.intro) | decide)) rfl rfl (by decide) cw_X12_standing (d' := d - 1) (e_rstanding hn hn2 hr hr2 hw hh (by omega)) (by omega) ?_
  rintro v M' ⟨rfl, hM⟩
  subst M'
  dsimp only [Option.toList, List.cons_append, List.nil_append]
  refine xG_run 3 rfl (by repeat' (first | exact trivial | assumption | exact xob_b rfl | exact xal_b rfl | (apply And.intro) | decide)) ?_
  refine xG_br rfl (fun h9 => ?_) (fun h9 => ?_)
  · refine xG_run 1 rfl (by repeat' (first | exact trivial | assumption | exact xob_b rfl | exact xal_b rfl | (apply And.intro) | decide)) ?_
    refine r2_i rfl rfl ?_
    refine ⟨?_, rfl⟩
    unfold rSt
    first
      | (rw [if_neg h9]; done)
      | (rw [if_pos (Decidable.not_not.mp h9)]; done)
  · refine xG_run 2 rfl (by repeat' (first | exact trivial | assumption | exact xob_b rfl | exact xal_b rfl | (apply And.intro) | decide)) ?_
    refine r2_i rfl rfl ?_
    refine ⟨?_, rfl⟩
    unfold rSt
    first
      | (rw [if_neg h9]; done)
      | (rw [if_pos (Decidable.not_not.mp h9)]; done)
theorem sd_i0 {i : Int32} (h : 0 ≤ i) : ¬ i = -1 := fun q => by
  rw [q] at h
  exact absurd h (by decide)
theorem sd_i1 {i : Int32} (h1 : ¬ i < -1) (h : ¬ 0 ≤ i) : i = -1 := by
  have e : (-1 : Int32).toInt = -1 := by decide
  apply Int32.toInt_inj.mp
  rw [Int32.lt_iff_toInt_lt] at h1
  rw [Int32.le_iff_toInt_le, Int32.toInt_zero] at h
  omega
set_option maxRecDepth 4000 in
theorem e_m_stands {κ : xKK} {d : Nat} {M : xM} {np nr : Nat} (hn : gI M 167 1643 = nI np) (hn2 : np ≤ 10) (hr : gI M 167 1644 = nI nr) (hr2 : nr ≤ 12) (hw : ∀ p, p < np → ∃ k, k < 5 ∧ rs M p 1 / 20 = nI k) (hh : ∀ q, q < nr → (rr M q 0 = nI (rH M q) ∧ rH M q < 10) ∧ ¬ rs M (rH M q) 1 + rr M q 2 = 0) {i : Int32} (hd : 4 ≤ d) : xE2 κ mX12_stands d [.ref 166, .int i] M (fun v M' => v = some (.int (sdM (rAll M np nr) i)) ∧ M' = M) := by
  refine xE2_of ci_X12_stands cl_X12_stands cw_X12_stands rfl (L := [some (.ref 166), some (.int i), none, none]) rfl ?_
  refine xG_run 2 rfl (by repeat' (first | exact trivial | assumption | exact xob_b rfl | exact xal_b rfl | (apply And.intro) | decide)) ?_
  refine xG_br rfl (fun h2 => ?_) (fun h2 => ?_)
  · refine xG_run 4 rfl (by repeat' (first | exact trivial | assumption | exact xob_b rfl | exact xal_b rfl | (apply And.intro) | decide)) ?_
    have lp := xG_upP (κ := κ) (m := mX12_stands) (r := (d, 0, 0)) (YS := xRet mX12_stands false (fun v M' n' => n' = 182 ∧ (v = some (.int (sdM (rAll M np nr) i)) ∧ M' = M))) (fun j X => X = (14, [some (.ref 166), some (.int i), some (.int (nI (sdN (rAll M np nr) j))), some (.int (nI j + (-300)))], [], M, z2) ∧ ∀ k, k < j → ¬ (sdX (rAll M np nr) k ∧ nI (sdN (rAll M np nr) k) = i)) 600 ?_ ?_ 0 (by omega)
    · exact lp _ ⟨rfl, fun k hk => absurd hk (by omega)⟩
    · rintro j X hj ⟨rfl, hno⟩ ih
      have e1 := n3_1 j
      refine xG_run 2 rfl (by repeat' (first | exact trivial | assumption | exact xob_b rfl | exact xal_b rfl | (apply And.intro) | decide)) ?_
      refine xG_brF rfl (n3_nle hj) ?_
      refine xG_run 2 rfl (by repeat' (first | exact trivial | assumption | exact xob_b rfl | exact xal_b rfl | (apply And.intro) | decide)) ?_
      refine xG_c2 1 rfl (by repeat' (first | exact trivial | assumption | exact xob_b rfl | exact xal_b rfl | (apply And.intro) | decide)) rfl rfl (by decide) cw_X12_restAt (d' := d - 1) (e_rrest (l := nI j + (-300)) hn hn2 hr hr2 hw hh (by omega)) (by omega) ?_
      rintro v M' ⟨rfl, hM⟩
      subst M'
      dsimp only [Option.toList, List.cons_append, List.nil_append]
      refine xG_run 2 rfl (by repeat' (first | exact trivial | assumption | exact xob_b rfl | exact xal_b rfl | (apply And.intro) | decide)) ?_
      refine xG_br rfl (fun h28 => ?_) (fun h28 => ?_)
      · refine xG_run 2 rfl (by repeat' (first | exact trivial | assumption | exact xob_b rfl | exact xal_b rfl | (apply And.intro) | decide)) ?_
        first
          | (have hx : sdX (rAll M np nr) j := ⟨lgn h28, Int64.not_le.mp (fun q => h40 ((lg_ge0 _ _).mpr q))⟩
             refine ih _ ⟨?_, sd_no hno (fun q => h48 q.2)⟩
             rw [e1, sdN, if_pos hx, nI_1]; rfl)
          | (have hx : sdX (rAll M np nr) j := ⟨lgn h28, (lg_lt0 _ _).mp h40⟩
             refine ih _ ⟨?_, sd_no hno (fun q => h48 q.2)⟩
             rw [e1, sdN, if_pos hx, nI_1]; rfl)
          | (have hx : ¬ sdX (rAll M np nr) j := fun q => by first | exact Int64.not_le.mpr q.2 (lgn h40) | exact Int64.not_le.mpr ((lg_lt0 _ _).mp h28) q.1
             refine ih _ ⟨?_, sd_no hno (fun q => hx q.1)⟩
             rw [e1, sdN, if_neg hx]; rfl)
      · refine xG_run 4 rfl (by repeat' (first | exact trivial | assumption | exact xob_b rfl | exact xal_b rfl | (apply And.intro) | decide)) ?_
        refine xG_c2 1 rfl (by repeat' (first | exact trivial | assumption | exact xob_b rfl | exact xal_b rfl | (apply And.intro) | decide)) rfl rfl (by decide) cw_X12_restAt (d' := d - 1) (e_rrest (l := nI j + (-300) + 1) hn hn2 hr hr2 hw hh (by omega)) (by omega) ?_
        rintro v M' ⟨rfl, hM⟩
        subst M'
        dsimp only [Option.toList, List.cons_append, List.nil_append]
        rw [e1]
        refine xG_run 2 rfl (by repeat' (first | exact trivial | assumption | exact xob_b rfl | exact xal_b rfl | (apply And.intro) | decide)) ?_
        refine xG_br rfl (fun h40 => ?_) (fun h40 => ?_)
        · refine xG_run 2 rfl (by repeat' (first | exact trivial | assumption | exact xob_b rfl | exact xal_b rfl | (apply And.intro) | decide)) ?_
          refine xG_br rfl (fun h48 => ?_) (fun h48 => ?_)
          · refine xG_run 3 rfl (by repeat' (first | exact trivial | assumption | exact xob_b rfl | exact xal_b rfl | (apply And.intro) | decide)) ?_
            first
              | (have hx : sdX (rAll M np nr) j := ⟨lgn h28, Int64.not_le.mp (fun q => h40 ((lg_ge0 _ _).mpr q))⟩
                 refine ih _ ⟨?_, sd_no hno (fun q => h48 q.2)⟩
                 rw [e1, sdN, if_pos hx, nI_1]; rfl)
              | (have hx : sdX (rAll M np nr) j := ⟨lgn h28, (lg_lt0 _ _).mp h40⟩
                 refine ih _ ⟨?_, sd_no hno (fun q => h48 q.2)⟩
                 rw [e1, sdN, if_pos hx, nI_1]; rfl)
              | (have hx : ¬ sdX (rAll M np nr) j := fun q => by first | exact Int64.not_le.mpr q.2 (lgn h40) | exact Int64.not_le.mpr ((lg_lt0 _ _).mp h28) q.1
                 refine ih _ ⟨?_, sd_no hno (fun q => hx q.1)⟩
                 rw [e1, sdN, if_neg hx]; rfl)
          · refine xG_run 1 rfl (by repeat' (first | exact trivial | assumption | exact xob_b rfl | exact xal_b rfl | (apply And.intro) | decide)) ?_
            refine r2_i rfl rfl ?_
            refine ⟨?_, rfl⟩
            rw [sd_at hno (i_nlt h2) ⟨lgn h28, (lg_lt0 _ _).mp h40⟩ (Decidable.not_not.mp h48) hj]; done
        · refine xG_run 3 rfl (by repeat' (first | exact trivial | assumption | exact xob_b rfl | exact xal_b rfl | (apply And.intro) | decide)) ?_
          first
            | (have hx : sdX (rAll M np nr) j := ⟨lgn h28, Int64.not_le.mp (fun q => h40 ((lg_ge0 _ _).mpr q))⟩
               refine ih _ ⟨?_, sd_no hno (fun q => h48 q.2)⟩
               rw [e1, sdN, if_pos hx, nI_1]; rfl)
            | (have hx : sdX (rAll M np nr) j := ⟨lgn h28, (lg_lt0 _ _).mp h40⟩
               refine ih _ ⟨?_, sd_no hno (fun q => h48 q.2)⟩
               rw [e1, sdN, if_pos hx, nI_1]; rfl)
            | (have hx : ¬ sdX (rAll M np nr) j := fun q => by first | exact Int64.not_le.mpr q.2 (lgn h40) | exact Int64.not_le.mpr ((lg_lt0 _ _).mp h28) q.1
               refine ih _ ⟨?_, sd_no hno (fun q => hx q.1)⟩
               rw [e1, sdN, if_neg hx]; rfl)
    · rintro X ⟨rfl, hno⟩
      refine xG_run 2 rfl (by repeat' (first | exact trivial | assumption | exact xob_b rfl | exact xal_b rfl | (apply And.intro) | decide)) ?_
      refine xG_brT rfl (by decide) ?_
      refine xG_run 1 rfl (by repeat' (first | exact trivial | assumption | exact xob_b rfl | exact xal_b rfl | (apply And.intro) | decide)) ?_
      refine xG_br rfl (fun h63 => ?_) (fun h63 => ?_)
      · refine xG_run 1 rfl (by repeat' (first | exact trivial | assumption | exact xob_b rfl | exact xal_b rfl | (apply And.intro) | decide)) ?_
        refine r2_i rfl rfl ?_
        refine ⟨?_, rfl⟩
        rw [sd_end hno (i_nlt h2)]
        first
          | (rw [if_neg (sd_i0 h63)]; done)
          | (rw [if_pos (sd_i1 (i_nlt h2) h63)]; done)
      · refine xG_run 2 rfl (by repeat' (first | exact trivial | assumption | exact xob_b rfl | exact xal_b rfl | (apply And.intro) | decide)) ?_
        refine r2_i rfl rfl ?_
        refine ⟨?_, rfl⟩
        rw [sd_end hno (i_nlt h2)]
        first
          | (rw [if_neg (sd_i0 h63)]; done)
          | (rw [if_pos (sd_i1 (i_nlt h2) h63)]; done)
  · refine xG_run 1 rfl (by repeat' (first | exact trivial | assumption | exact xob_b rfl | exact xal_b rfl | (apply And.intro) | decide)) ?_
    refine r2_i rfl rfl ?_
    refine ⟨?_, rfl⟩
    unfold sdM
    rw [if_pos (i_nle h2)]
set_option maxRecDepth 4000 in
theorem e_m_pull {κ : xKK} {d : Nat} {M : xM} {np nr : Nat} (hn : gI M 167 1643 = nI np) (hn2 : np ≤ 10) (hr : gI M 167 1644 = nI nr) (hr2 : nr ≤ 12) (hw : ∀ p, p < np → ∃ k, k < 5 ∧ rs M p 1 / 20 = nI k) (hh : ∀ q, q < nr → (rr M q 0 = nI (rH M q) ∧ rH M q < 10) ∧ ¬ rs M (rH M q) 1 + rr M q 2 = 0) {i : Int32} (hd : 5 ≤ d) : xE2 κ mX12_pull d [.ref 166, .int i] M (fun v M' => ((∃ j, j < nr ∧ i = nI j ∧ v = some (.int (if rSt M np nr = 1000 then -3 else rP M j (rSt M np nr)))) ∨ (¬ (∃ j, j < nr ∧ i = nI j) ∧ v = some (.int (-1)))) ∧ M' = M) := by
  refine xE2_of ci_X12_pull cl_X12_pull cw_X12_pull rfl (L := [some (.ref 166), some (.int i), none]) rfl ?_
  refine xG_run 2 rfl (by repeat' (first | exact trivial | assumption | exact xob_b rfl | exact xal_b rfl | (apply And.intro) | decide)) ?_
  refine xG_c2 1 rfl (by repeat' (first | exact trivial | assumption | exact xob_b rfl | exact xal_b rfl | (apply And.intro) | decide)) rfl rfl (by decide) cw_X12_isRope (d' := d - 1) (e_isRope hr hr2 (by omega)) (by omega) ?_
  rintro v M' ⟨rfl, hM⟩
  subst M'
  dsimp only [Option.toList, List.cons_append, List.nil_append]
  refine xG_br rfl (fun h5 => ?_) (fun h5 => ?_)
  · have b5 := z1.mp h5
    obtain ⟨j, hj, rfl⟩ := inI_of b5 (by omega)
    refine xG_run 1 rfl (by repeat' (first | exact trivial | assumption | exact xob_b rfl | exact xal_b rfl | (apply And.intro) | decide)) ?_
    refine xG_c2 0 rfl (by repeat' (first | exact trivial | assumption | exact xob_b rfl | exact xal_b rfl | (apply And.intro) | decide)) rfl rfl (by decide) cw_X12_standing (d' := d - 1) (e_rstanding hn hn2 hr hr2 hw hh (by omega)) (by omega) ?_
    rintro v M' ⟨rfl, hM⟩
    subst M'
    dsimp only [Option.toList, List.cons_append, List.nil_append]
    refine xG_run 3 rfl (by repeat' (first | exact trivial | assumption | exact xob_b rfl | exact xal_b rfl | (apply And.intro) | decide)) ?_
    refine xG_br rfl (fun h19 => ?_) (fun h19 => ?_)
    · refine xG_run 3 rfl (by repeat' (first | exact trivial | assumption | exact xob_b rfl | exact xal_b rfl | (apply And.intro) | decide)) ?_
      refine xG_c2 2 rfl (by repeat' (first | exact trivial | assumption | exact xob_b rfl | exact xal_b rfl | (apply And.intro) | decide)) rfl rfl (by decide) cw_X12_pullAt (d' := d - 1) (e_rpull (q := j) (by omega) (hh j hj).1.1 (hh j hj).1.2 (hh j hj).2 (by omega)) (by omega) ?_
      rintro v M' ⟨rfl, hM⟩
      subst M'
      dsimp only [Option.toList, List.cons_append, List.nil_append]
      refine r2_i rfl rfl ?_
      refine ⟨?_, rfl⟩
      first
        | (refine Or.inl ⟨j, hj, rfl, ?_⟩
           unfold rSt
           first
             | (rw [if_neg h19]; done)
             | (rw [if_pos (Decidable.not_not.mp h19)]; done))
        | exact Or.inr ⟨fun ⟨j9, a1, a2⟩ => b5 (by rw [a2]; exact inI a1 (by omega)), rfl⟩
    · refine xG_run 2 rfl (by repeat' (first | exact trivial | assumption | exact xob_b rfl | exact xal_b rfl | (apply And.intro) | decide)) ?_
      refine r2_i rfl rfl ?_
      refine ⟨?_, rfl⟩
      first
        | (refine Or.inl ⟨j, hj, rfl, ?_⟩
           unfold rSt
           first
             | (rw [if_neg h19]; done)
             | (rw [if_pos (Decidable.not_not.mp h19)]; done))
        | exact Or.inr ⟨fun ⟨j9, a1, a2⟩ => b5 (by rw [a2]; exact inI a1 (by omega)), rfl⟩
  · have b5 := z0.mp (Decidable.not_not.mp h5)
    skip
    refine xG_run 1 rfl (by repeat' (first | exact trivial | assumption | exact xob_b rfl | exact xal_b rfl | (apply And.intro) | decide)) ?_
    refine r2_i rfl rfl ?_
    refine ⟨?_, rfl⟩
    first
      | (refine Or.inl ⟨j, hj, rfl, ?_⟩
         unfold rSt
         first
           | (rw [if_neg h19]; done)
           | (rw [if_pos (Decidable.not_not.mp h19)]; done))
      | exact Or.inr ⟨fun ⟨j9, a1, a2⟩ => b5 (by rw [a2]; exact inI a1 (by omega)), rfl⟩
def rLo (M : xM) (l : Int32) : Nat → Int32
  | 0 => 0
  | n + 1 => if rr M n 5 = 0 ∧ rP M n l = 0 then rLo M l n ||| ((1 : Int32) <<< (nI n &&& 31)) else rLo M l n
set_option maxRecDepth 4000 in
theorem e_rlooseAt {κ : xKK} {d : Nat} {M : xM} {nr : Nat} (hr : gI M 167 1644 = nI nr) (hr2 : nr ≤ 12) (hh : ∀ q, q < nr → (rr M q 0 = nI (rH M q) ∧ rH M q < 10) ∧ ¬ rs M (rH M q) 1 + rr M q 2 = 0) {l : Int32} (hd : 3 ≤ d) : xE2 κ mX12_looseAt d [.ref 166, .int l] M (fun v M' => v = some (.int (rLo M l nr)) ∧ M' = M) := by
  refine xE2_of ci_X12_looseAt cl_X12_looseAt cw_X12_looseAt rfl (L := [some (.ref 166), some (.int l), none, none]) rfl ?_
  have hs : xar 167 0 182 1644 := xar_n (j := 1644) rfl 1651 rfl (by omega) (by omega)
  have hn : gI M 167 (1644 : Int32).toNatClampNeg = nI nr := hr
  refine xG_run 4 rfl (by repeat' (first | exact trivial | assumption | exact xob_b rfl | exact xal_b rfl | (apply And.intro) | decide)) ?_
  refine xG_up (fun j => (4, [some (.ref 166), some (.int l), some (.int (rLo M l j)), some (.int (nI j))], [], M, z2)) nr ?_ ?_ 0 (Nat.zero_le _)
  · intro j hj ih
    refine xG_run 5 rfl (by repeat' (first | exact trivial | assumption | exact xob_b rfl | exact xal_b rfl | (apply And.intro) | decide)) ?_
    refine xG_brF rfl (by rw [hn]; exact nI_ge hj (by omega)) ?_
    refine xG_run 4 rfl (by repeat' (first | exact trivial | assumption | exact xob_b rfl | exact xal_b rfl | (apply And.intro) | decide)) ?_
    refine xG_c2 2 rfl (by repeat' (first | exact trivial | assumption | exact xob_b rfl | exact xal_b rfl | (apply And.intro) | decide)) rfl rfl (by decide) cw_X12_rope0 (d' := d - 1) (e_rope0 (p := j) (k := 5) rfl rfl (by omega)) (by omega) ?_
    rintro v M' ⟨rfl, hM⟩
    subst M'
    dsimp only [Option.toList, List.cons_append, List.nil_append]
    refine xG_br rfl (fun h23 => ?_) (fun h23 => ?_)
    · refine xG_run 5 rfl (by repeat' (first | exact trivial | assumption | exact xob_b rfl | exact xal_b rfl | (apply And.intro) | decide)) ?_
      first
        | (rw [nI_1, ← (show rLo M l (j + 1) = _ from if_pos ⟨Decidable.not_not.mp h23, Decidable.not_not.mp h32⟩)]; exact ih)
        | (rw [nI_1, Int32.or_zero, ← (show rLo M l (j + 1) = rLo M l j from if_neg (fun q => by first | exact h23 q.1 | exact h32 q.2))]; exact ih)
    · refine xG_run 3 rfl (by repeat' (first | exact trivial | assumption | exact xob_b rfl | exact xal_b rfl | (apply And.intro) | decide)) ?_
      refine xG_c2 2 rfl (by repeat' (first | exact trivial | assumption | exact xob_b rfl | exact xal_b rfl | (apply And.intro) | decide)) rfl rfl (by decide) cw_X12_pullAt (d' := d - 1) (e_rpull (q := j) (by omega) (hh j hj).1.1 (hh j hj).1.2 (hh j hj).2 (by omega)) (by omega) ?_
      rintro v M' ⟨rfl, hM⟩
      subst M'
      dsimp only [Option.toList, List.cons_append, List.nil_append]
      refine xG_br rfl (fun h32 => ?_) (fun h32 => ?_)
      · refine xG_run 5 rfl (by repeat' (first | exact trivial | assumption | exact xob_b rfl | exact xal_b rfl | (apply And.intro) | decide)) ?_
        first
          | (rw [nI_1, ← (show rLo M l (j + 1) = _ from if_pos ⟨Decidable.not_not.mp h23, Decidable.not_not.mp h32⟩)]; exact ih)
          | (rw [nI_1, Int32.or_zero, ← (show rLo M l (j + 1) = rLo M l j from if_neg (fun q => by first | exact h23 q.1 | exact h32 q.2))]; exact ih)
      · refine xG_run 8 rfl (by repeat' (first | exact trivial | assumption | exact xob_b rfl | exact xal_b rfl | (apply And.intro) | decide)) ?_
        first
          | (rw [nI_1, ← (show rLo M l (j + 1) = _ from if_pos ⟨Decidable.not_not.mp h23, Decidable.not_not.mp h32⟩)]; exact ih)
          | (rw [nI_1, Int32.or_zero, ← (show rLo M l (j + 1) = rLo M l j from if_neg (fun q => by first | exact h23 q.1 | exact h32 q.2))]; exact ih)
  · refine xG_run 5 rfl (by repeat' (first | exact trivial | assumption | exact xob_b rfl | exact xal_b rfl | (apply And.intro) | decide)) ?_
    refine xG_brT rfl (by rw [hn]; exact Int32.le_refl _) ?_
    refine xG_run 1 rfl (by repeat' (first | exact trivial | assumption | exact xob_b rfl | exact xal_b rfl | (apply And.intro) | decide)) ?_
    refine r2_i rfl rfl ?_
    exact ⟨rfl, rfl⟩
set_option maxRecDepth 4000 in
theorem e_m_loose {κ : xKK} {d : Nat} {M : xM} {np nr : Nat} (hn : gI M 167 1643 = nI np) (hn2 : np ≤ 10) (hr : gI M 167 1644 = nI nr) (hr2 : nr ≤ 12) (hw : ∀ p, p < np → ∃ k, k < 5 ∧ rs M p 1 / 20 = nI k) (hh : ∀ q, q < nr → (rr M q 0 = nI (rH M q) ∧ rH M q < 10) ∧ ¬ rs M (rH M q) 1 + rr M q 2 = 0) (hd : 5 ≤ d) : xE2 κ mX12_loose d [.ref 166] M (fun v M' => v = some (.int (if rSt M np nr = 1000 then -3 else rLo M (rSt M np nr) nr)) ∧ M' = M) := by
  refine xE2_of ci_X12_loose cl_X12_loose cw_X12_loose rfl (L := [some (.ref 166), none]) rfl ?_
  refine xG_run 1 rfl (by repeat' (first | exact trivial | assumption | exact xob_b rfl | exact xal_b rfl | (apply And.intro) | decide)) ?_
  refine xG_c2 0 rfl (by repeat' (first | exact trivial | assumption | exact xob_b rfl | exact xal_b rfl | (apply And.intro) | decide)) rfl rfl (by decide) cw_X12_standing (d' := d - 1) (e_rstanding hn hn2 hr hr2 hw hh (by omega)) (by omega) ?_
  rintro v M' ⟨rfl, hM⟩
  subst M'
  dsimp only [Option.toList, List.cons_append, List.nil_append]
  refine xG_run 3 rfl (by repeat' (first | exact trivial | assumption | exact xob_b rfl | exact xal_b rfl | (apply And.intro) | decide)) ?_
  refine xG_br rfl (fun h9 => ?_) (fun h9 => ?_)
  · refine xG_run 2 rfl (by repeat' (first | exact trivial | assumption | exact xob_b rfl | exact xal_b rfl | (apply And.intro) | decide)) ?_
    refine xG_c2 1 rfl (by repeat' (first | exact trivial | assumption | exact xob_b rfl | exact xal_b rfl | (apply And.intro) | decide)) rfl rfl (by decide) cw_X12_looseAt (d' := d - 1) (e_rlooseAt hr hr2 hh (by omega)) (by omega) ?_
    rintro v M' ⟨rfl, hM⟩
    subst M'
    dsimp only [Option.toList, List.cons_append, List.nil_append]
    refine r2_i rfl rfl ?_
    refine ⟨?_, rfl⟩
    unfold rSt
    first
      | (rw [if_neg h9]; done)
      | (rw [if_pos (Decidable.not_not.mp h9)]; done)
  · refine xG_run 2 rfl (by repeat' (first | exact trivial | assumption | exact xob_b rfl | exact xal_b rfl | (apply And.intro) | decide)) ?_
    refine r2_i rfl rfl ?_
    refine ⟨?_, rfl⟩
    unfold rSt
    first
      | (rw [if_neg h9]; done)
      | (rw [if_pos (Decidable.not_not.mp h9)]; done)
