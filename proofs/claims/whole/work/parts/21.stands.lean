/-! ===== all stands ===== -/
abbrev sdX (R : Int32 → Int64) (t : Nat) : Prop := 0 ≤ R (nI t + (-300)) ∧ R (nI (t + 1) + (-300)) < 0
def sdN (R : Int32 → Int64) : Nat → Nat
  | 0 => 0
  | t + 1 => if sdX R t then sdN R t + 1 else sdN R t
def sdA (R : Int32 → Int64) (i : Int32) : Int32 :=
  if fF (fun t => decide (sdX R t ∧ nI (sdN R t) = i)) 600 < 600 then nI (fF (fun t => decide (sdX R t ∧ nI (sdN R t) = i)) 600) + (-300) else if i = -1 then nI (sdN R 600) else -1000000004
theorem sdX_cong {R R' : Int32 → Int64} {t : Nat} (ht : t < 600) (h : ∀ l : Int32, -300 ≤ l.toInt → l.toInt ≤ 300 → R l = R' l) : sdX R t ↔ sdX R' t := by
  have a := n3_3 (t := t) (by omega)
  have b := n3_3 (t := t + 1) (by omega)
  unfold sdX
  rw [h _ (by omega) (by omega), h (nI (t + 1) + (-300)) (by omega) (by omega)]
theorem sdN_cong {R R' : Int32 → Int64} (h : ∀ l : Int32, -300 ≤ l.toInt → l.toInt ≤ 300 → R l = R' l) : ∀ t, t ≤ 600 → sdN R t = sdN R' t
  | 0, _ => rfl
  | t + 1, ht => by
    have e := sdX_cong (t := t) (by omega) h
    rw [sdN, sdN, sdN_cong h t (by omega)]
    by_cases c : sdX R t
    · rw [if_pos c, if_pos (e.mp c)]
    · rw [if_neg c, if_neg (fun q => c (e.mpr q))]
theorem sdA_cong {R R' : Int32 → Int64} {i : Int32} (h : ∀ l : Int32, -300 ≤ l.toInt → l.toInt ≤ 300 → R l = R' l) : sdA R i = sdA R' i := by
  have e : fF (fun t => decide (sdX R t ∧ nI (sdN R t) = i)) 600 = fF (fun t => decide (sdX R' t ∧ nI (sdN R' t) = i)) 600 := fF_cong (fun k hk => by
    rw [sdN_cong h k (by omega)]
    have := sdX_cong hk h
    exact decide_eq_decide.mpr (and_congr_left' this))
  unfold sdA
  rw [e, sdN_cong h 600 (by omega)]
def sdM (R : Int32 → Int64) (i : Int32) : Int32 := if i < -1 then -1000000001 else sdA R i
theorem sd_no {R : Int32 → Int64} {i : Int32} {j : Nat} (h : ∀ k, k < j → ¬ (sdX R k ∧ nI (sdN R k) = i)) (h2 : ¬ (sdX R j ∧ nI (sdN R j) = i)) : ∀ k, k < j + 1 → ¬ (sdX R k ∧ nI (sdN R k) = i) := fun k hk => by
  by_cases e : k = j
  · subst e; exact h2
  · exact h k (by omega)
theorem sd_at {R : Int32 → Int64} {i : Int32} {j : Nat} (h : ∀ k, k < j → ¬ (sdX R k ∧ nI (sdN R k) = i)) (h1 : ¬ i < -1) (h2 : sdX R j) (h3 : nI (sdN R j) = i) (hj : j < 600) : sdM R i = nI j + (-300) := by
  have e : fF (fun t => decide (sdX R t ∧ nI (sdN R t) = i)) 600 = j := fF_at (fun k hk => decide_eq_false (h k hk)) (decide_eq_true ⟨h2, h3⟩) hj
  unfold sdM sdA
  rw [if_neg h1, e, if_pos hj]
theorem sd_end {R : Int32 → Int64} {i : Int32} (h : ∀ k, k < 600 → ¬ (sdX R k ∧ nI (sdN R k) = i)) (h1 : ¬ i < -1) : sdM R i = if i = -1 then nI (sdN R 600) else -1000000004 := by
  have e : fF (fun t => decide (sdX R t ∧ nI (sdN R t) = i)) 600 = 600 := fF_no (fun k hk => decide_eq_false (h k hk))
  unfold sdM sdA
  rw [if_neg h1, e, if_neg (by omega)]
def sdH (R : Int32 → Int64) (t : Nat) : Int32 := if 0 ≤ R (nI t + (-300)) then 1 else 0
theorem sdH_1 {R : Int32 → Int64} {t : Nat} (h : ¬ sdH R t = 0) : 0 ≤ R (nI t + (-300)) := by
  unfold sdH at h
  by_cases q : 0 ≤ R (nI t + (-300))
  · exact q
  · rw [if_neg q] at h; exact absurd rfl h
theorem sdH_0 {R : Int32 → Int64} {t : Nat} (h : sdH R t = 0) : ¬ 0 ≤ R (nI t + (-300)) := fun q => by
  unfold sdH at h
  rw [if_pos q] at h
  exact absurd h (by decide)
theorem sdH0_0 {R : Int32 → Int64} (h : R (-300) < 0) : sdH R 0 = 0 := by
  unfold sdH
  rw [show nI 0 + (-300) = -300 by decide]
  exact if_neg (Int64.not_le.mpr h)
theorem sdH0_1 {R : Int32 → Int64} (h : 0 ≤ R (-300)) : sdH R 0 = 1 := by
  unfold sdH
  rw [show nI 0 + (-300) = -300 by decide]
  exact if_pos h
theorem n3_nle {t : Nat} (h : t < 600) : ¬ (300 : Int32) ≤ nI t + (-300) := by
  have a := n3_3 (t := t) (by omega)
  have e : (300 : Int32).toInt = 300 := by decide
  rw [Int32.le_iff_toInt_le]
  omega
theorem lgn {x y : Int64} (h : ¬ lg_cmp x y < 0) : y ≤ x := (lg_ge0 _ _).mp (Int32.not_lt.mp h)
theorem sdH_e0 {R : Int32 → Int64} {t : Nat} (h : R (nI t + (-300)) < 0) : sdH R t = 0 := if_neg (Int64.not_le.mpr h)
theorem sdH_e1 {R : Int32 → Int64} {t : Nat} (h : 0 ≤ R (nI t + (-300))) : sdH R t = 1 := if_pos h
theorem bFr_r {M : xM} : bFr M M := ⟨fun _ _ _ => rfl, fun _ _ _ _ => rfl, fun _ _ _ _ => rfl⟩
set_option maxRecDepth 4000 in
theorem e_x_stands {κ : xKK} {d : Nat} {M : xM} {np nr : Nat} (hn : gI M 1 1 = nI np) (hn2 : np ≤ 10) (hr : gI M 1 3 = nI nr) (hr2 : nr ≤ 12) (hsh : ∀ i, i < np → 0 ≤ (cSh M 1 (6 + i)).toInt ∧ (cSh M 1 (6 + i)).toInt < 5) {i : Int32} (hd : 5 ≤ d) : xE2 κ mX11_stands d [.ref 0, .int i] M (fun v M' => v = some (.int (sdM (cAll M 1 np nr) i)) ∧ bFr M M') := by
  refine xE2_of ci_X11_stands cl_X11_stands cw_X11_stands rfl (L := [some (.ref 0), some (.int i), none, none, none, none]) rfl ?_
  refine xG_run 2 rfl (by repeat' (first | exact trivial | assumption | exact xob_b rfl | exact xal_b rfl | (apply And.intro) | decide)) ?_
  refine xG_br rfl (fun h2 => ?_) (fun h2 => ?_)
  · refine xG_run 6 rfl (by repeat' (first | exact trivial | assumption | exact xob_b rfl | exact xal_b rfl | (apply And.intro) | decide)) ?_
    refine xG_c2 3 rfl (by repeat' (first | exact trivial | assumption | exact xob_b rfl | exact xal_b rfl | (apply And.intro) | decide)) rfl rfl (by decide) cw_X0_load (d' := d - 1) (e_load1 hn hn2 hr hr2 hsh (by omega)) (by omega) ?_
    rintro v M1 ⟨pl, rl, c, e, rfl, hg, hpl, hrl, hs, ht, hB, hp, hB2⟩
    dsimp only [Option.toList, List.cons_append, List.nil_append]
    have hR : ∀ l : Int32, -300 ≤ l.toInt → l.toInt ≤ 300 → cRest M1 1 pl rl c e l = cAll M 1 np nr l := fun l a1 a2 => cRest_all (by omega) hn2 hr2 hB.1 hs ht hp hB2 a1 a2
    refine xG_run 5 rfl (by repeat' (first | exact trivial | assumption | exact xob_b rfl | exact xal_b rfl | (apply And.intro) | decide)) ?_
    refine xG_c2 1 rfl (by repeat' (first | exact trivial | assumption | exact xob_b rfl | exact xal_b rfl | (apply And.intro) | decide)) rfl rfl (by decide) cw_X0_restAt (d' := d - 1) (e_restAt1 (l := -300) hg (by decide) (by decide) (by omega)) (by omega) ?_
    rintro v M' ⟨rfl, hM⟩
    subst M'
    dsimp only [Option.toList, List.cons_append, List.nil_append]
    rw [hR _ (by decide) (by decide)]
    refine xG_run 2 rfl (by repeat' (first | exact trivial | assumption | exact xob_b rfl | exact xal_b rfl | (apply And.intro) | decide)) ?_
    refine xG_br rfl (fun h35 => ?_) (fun h35 => ?_)
    · refine xG_run 4 rfl (by repeat' (first | exact trivial | assumption | exact xob_b rfl | exact xal_b rfl | (apply And.intro) | decide)) ?_
      have lp := xG_upP (κ := κ) (m := mX11_stands) (r := (d, 0, 0)) (YS := xRet mX11_stands false (fun v M' n' => n' = 182 ∧ (v = some (.int (sdM (cAll M 1 np nr) i)) ∧ bFr M M'))) (fun j X => ∃ x5 : Option Value, X = (49, [some (.ref 0), some (.int i), some (.int (nI (sdN (cAll M 1 np nr) j))), some (.int (sdH (cAll M 1 np nr) j)), some (.int (nI j + (-300))), x5], [], M1, z2) ∧ ∀ k, k < j → ¬ (sdX (cAll M 1 np nr) k ∧ nI (sdN (cAll M 1 np nr) k) = i)) 600 ?_ ?_ 0 (by omega)
      · exact lp _ ⟨none, by first | (rw [sdH0_0 ((lg_lt0 _ _).mp h35)]; rfl) | (rw [sdH0_1 (lgn h35)]; rfl), fun k hk => absurd hk (by omega)⟩
      · rintro j X hj ⟨x5, rfl, hno⟩ ih
        have a1 := n3_3 (t := j) (by omega)
        have a2 := n3_3 (t := j + 1) (by omega)
        have e1 := n3_1 j
        refine xG_run 2 rfl (by repeat' (first | exact trivial | assumption | exact xob_b rfl | exact xal_b rfl | (apply And.intro) | decide)) ?_
        refine xG_brF rfl (n3_nle hj) ?_
        refine xG_run 5 rfl (by repeat' (first | exact trivial | assumption | exact xob_b rfl | exact xal_b rfl | (apply And.intro) | decide)) ?_
        refine xG_c2 1 rfl (by repeat' (first | exact trivial | assumption | exact xob_b rfl | exact xal_b rfl | (apply And.intro) | decide)) rfl rfl (by decide) cw_X0_restAt (d' := d - 1) (e_restAt1 (l := nI j + (-300) + 1) hg (by rw [e1]; omega) (by rw [e1]; omega) (by omega)) (by omega) ?_
        rintro v M' ⟨rfl, hM⟩
        subst M'
        dsimp only [Option.toList, List.cons_append, List.nil_append]
        rw [hR _ (by rw [e1]; omega) (by rw [e1]; omega), e1]
        refine xG_run 2 rfl (by repeat' (first | exact trivial | assumption | exact xob_b rfl | exact xal_b rfl | (apply And.intro) | decide)) ?_
        refine xG_br rfl (fun h70 => ?_) (fun h70 => ?_)
        · refine xG_run 3 rfl (by repeat' (first | exact trivial | assumption | exact xob_b rfl | exact xal_b rfl | (apply And.intro) | decide)) ?_
          refine xG_br rfl (fun h81 => ?_) (fun h81 => ?_)
          · refine xG_run 4 rfl (by repeat' (first | exact trivial | assumption | exact xob_b rfl | exact xal_b rfl | (apply And.intro) | decide)) ?_
            first
              | (exfalso; first | exact absurd h86 (by decide) | exact h86 (by decide); done)
              | (have hx : sdX (cAll M 1 np nr) j := ⟨sdH_1 h81, (lg_lt0 _ _).mp h70⟩
                 refine ih _ ⟨some (.int 0), ?_, sd_no hno (fun q => h91 q.2)⟩
                 rw [e1, sdN, if_pos hx, nI_1, sdH_e0 hx.2]; rfl)
              | (have hx : ¬ sdX (cAll M 1 np nr) j := fun q => Int64.not_le.mpr q.2 (lgn h70)
                 refine ih _ ⟨some (.int 1), ?_, sd_no hno (fun q => hx q.1)⟩
                 rw [e1, sdN, if_neg hx, sdH_e1 (lgn h70)]; rfl)
              | (have hx : ¬ sdX (cAll M 1 np nr) j := fun q => sdH_0 h81 q.1
                 refine ih _ ⟨some (.int 0), ?_, sd_no hno (fun q => hx q.1)⟩
                 rw [e1, sdN, if_neg hx, sdH_e0 ((lg_lt0 _ _).mp h70)]; rfl)
          · refine xG_run 1 rfl (by repeat' (first | exact trivial | assumption | exact xob_b rfl | exact xal_b rfl | (apply And.intro) | decide)) ?_
            refine xG_br rfl (fun h86 => ?_) (fun h86 => ?_)
            · refine xG_run 4 rfl (by repeat' (first | exact trivial | assumption | exact xob_b rfl | exact xal_b rfl | (apply And.intro) | decide)) ?_
              first
                | (exfalso; first | exact absurd h86 (by decide) | exact h86 (by decide); done)
                | (have hx : sdX (cAll M 1 np nr) j := ⟨sdH_1 h81, (lg_lt0 _ _).mp h70⟩
                   refine ih _ ⟨some (.int 0), ?_, sd_no hno (fun q => h91 q.2)⟩
                   rw [e1, sdN, if_pos hx, nI_1, sdH_e0 hx.2]; rfl)
                | (have hx : ¬ sdX (cAll M 1 np nr) j := fun q => Int64.not_le.mpr q.2 (lgn h70)
                   refine ih _ ⟨some (.int 1), ?_, sd_no hno (fun q => hx q.1)⟩
                   rw [e1, sdN, if_neg hx, sdH_e1 (lgn h70)]; rfl)
                | (have hx : ¬ sdX (cAll M 1 np nr) j := fun q => sdH_0 h81 q.1
                   refine ih _ ⟨some (.int 0), ?_, sd_no hno (fun q => hx q.1)⟩
                   rw [e1, sdN, if_neg hx, sdH_e0 ((lg_lt0 _ _).mp h70)]; rfl)
            · refine xG_run 2 rfl (by repeat' (first | exact trivial | assumption | exact xob_b rfl | exact xal_b rfl | (apply And.intro) | decide)) ?_
              refine xG_br rfl (fun h91 => ?_) (fun h91 => ?_)
              · refine xG_run 5 rfl (by repeat' (first | exact trivial | assumption | exact xob_b rfl | exact xal_b rfl | (apply And.intro) | decide)) ?_
                first
                  | (exfalso; first | exact absurd h86 (by decide) | exact h86 (by decide); done)
                  | (have hx : sdX (cAll M 1 np nr) j := ⟨sdH_1 h81, (lg_lt0 _ _).mp h70⟩
                     refine ih _ ⟨some (.int 0), ?_, sd_no hno (fun q => h91 q.2)⟩
                     rw [e1, sdN, if_pos hx, nI_1, sdH_e0 hx.2]; rfl)
                  | (have hx : ¬ sdX (cAll M 1 np nr) j := fun q => Int64.not_le.mpr q.2 (lgn h70)
                     refine ih _ ⟨some (.int 1), ?_, sd_no hno (fun q => hx q.1)⟩
                     rw [e1, sdN, if_neg hx, sdH_e1 (lgn h70)]; rfl)
                  | (have hx : ¬ sdX (cAll M 1 np nr) j := fun q => sdH_0 h81 q.1
                     refine ih _ ⟨some (.int 0), ?_, sd_no hno (fun q => hx q.1)⟩
                     rw [e1, sdN, if_neg hx, sdH_e0 ((lg_lt0 _ _).mp h70)]; rfl)
              · refine xG_run 1 rfl (by repeat' (first | exact trivial | assumption | exact xob_b rfl | exact xal_b rfl | (apply And.intro) | decide)) ?_
                refine r2_i rfl rfl ?_
                first
                  | (exfalso; first | exact absurd h86 (by decide) | exact h86 (by decide); done)
                  | (refine ⟨?_, hB⟩
                     rw [sd_at hno (i_nlt h2) ⟨sdH_1 h81, (lg_lt0 _ _).mp h70⟩ (Decidable.not_not.mp h91) hj]; done)
        · refine xG_run 4 rfl (by repeat' (first | exact trivial | assumption | exact xob_b rfl | exact xal_b rfl | (apply And.intro) | decide)) ?_
          refine xG_br rfl (fun h81 => ?_) (fun h81 => ?_)
          · refine xG_run 4 rfl (by repeat' (first | exact trivial | assumption | exact xob_b rfl | exact xal_b rfl | (apply And.intro) | decide)) ?_
            first
              | (exfalso; first | exact absurd h86 (by decide) | exact h86 (by decide); done)
              | (have hx : sdX (cAll M 1 np nr) j := ⟨sdH_1 h81, (lg_lt0 _ _).mp h70⟩
                 refine ih _ ⟨some (.int 0), ?_, sd_no hno (fun q => h91 q.2)⟩
                 rw [e1, sdN, if_pos hx, nI_1, sdH_e0 hx.2]; rfl)
              | (have hx : ¬ sdX (cAll M 1 np nr) j := fun q => Int64.not_le.mpr q.2 (lgn h70)
                 refine ih _ ⟨some (.int 1), ?_, sd_no hno (fun q => hx q.1)⟩
                 rw [e1, sdN, if_neg hx, sdH_e1 (lgn h70)]; rfl)
              | (have hx : ¬ sdX (cAll M 1 np nr) j := fun q => sdH_0 h81 q.1
                 refine ih _ ⟨some (.int 0), ?_, sd_no hno (fun q => hx q.1)⟩
                 rw [e1, sdN, if_neg hx, sdH_e0 ((lg_lt0 _ _).mp h70)]; rfl)
          · refine xG_run 1 rfl (by repeat' (first | exact trivial | assumption | exact xob_b rfl | exact xal_b rfl | (apply And.intro) | decide)) ?_
            refine xG_br rfl (fun h86 => ?_) (fun h86 => ?_)
            · refine xG_run 4 rfl (by repeat' (first | exact trivial | assumption | exact xob_b rfl | exact xal_b rfl | (apply And.intro) | decide)) ?_
              first
                | (exfalso; first | exact absurd h86 (by decide) | exact h86 (by decide); done)
                | (have hx : sdX (cAll M 1 np nr) j := ⟨sdH_1 h81, (lg_lt0 _ _).mp h70⟩
                   refine ih _ ⟨some (.int 0), ?_, sd_no hno (fun q => h91 q.2)⟩
                   rw [e1, sdN, if_pos hx, nI_1, sdH_e0 hx.2]; rfl)
                | (have hx : ¬ sdX (cAll M 1 np nr) j := fun q => Int64.not_le.mpr q.2 (lgn h70)
                   refine ih _ ⟨some (.int 1), ?_, sd_no hno (fun q => hx q.1)⟩
                   rw [e1, sdN, if_neg hx, sdH_e1 (lgn h70)]; rfl)
                | (have hx : ¬ sdX (cAll M 1 np nr) j := fun q => sdH_0 h81 q.1
                   refine ih _ ⟨some (.int 0), ?_, sd_no hno (fun q => hx q.1)⟩
                   rw [e1, sdN, if_neg hx, sdH_e0 ((lg_lt0 _ _).mp h70)]; rfl)
            · refine xG_run 2 rfl (by repeat' (first | exact trivial | assumption | exact xob_b rfl | exact xal_b rfl | (apply And.intro) | decide)) ?_
              refine xG_br rfl (fun h91 => ?_) (fun h91 => ?_)
              · refine xG_run 5 rfl (by repeat' (first | exact trivial | assumption | exact xob_b rfl | exact xal_b rfl | (apply And.intro) | decide)) ?_
                first
                  | (exfalso; first | exact absurd h86 (by decide) | exact h86 (by decide); done)
                  | (have hx : sdX (cAll M 1 np nr) j := ⟨sdH_1 h81, (lg_lt0 _ _).mp h70⟩
                     refine ih _ ⟨some (.int 0), ?_, sd_no hno (fun q => h91 q.2)⟩
                     rw [e1, sdN, if_pos hx, nI_1, sdH_e0 hx.2]; rfl)
                  | (have hx : ¬ sdX (cAll M 1 np nr) j := fun q => Int64.not_le.mpr q.2 (lgn h70)
                     refine ih _ ⟨some (.int 1), ?_, sd_no hno (fun q => hx q.1)⟩
                     rw [e1, sdN, if_neg hx, sdH_e1 (lgn h70)]; rfl)
                  | (have hx : ¬ sdX (cAll M 1 np nr) j := fun q => sdH_0 h81 q.1
                     refine ih _ ⟨some (.int 0), ?_, sd_no hno (fun q => hx q.1)⟩
                     rw [e1, sdN, if_neg hx, sdH_e0 ((lg_lt0 _ _).mp h70)]; rfl)
              · refine xG_run 1 rfl (by repeat' (first | exact trivial | assumption | exact xob_b rfl | exact xal_b rfl | (apply And.intro) | decide)) ?_
                refine r2_i rfl rfl ?_
                first
                  | (exfalso; first | exact absurd h86 (by decide) | exact h86 (by decide); done)
                  | (refine ⟨?_, hB⟩
                     rw [sd_at hno (i_nlt h2) ⟨sdH_1 h81, (lg_lt0 _ _).mp h70⟩ (Decidable.not_not.mp h91) hj]; done)
      · rintro X ⟨x5, rfl, hno⟩
        refine xG_run 2 rfl (by repeat' (first | exact trivial | assumption | exact xob_b rfl | exact xal_b rfl | (apply And.intro) | decide)) ?_
        refine xG_brT rfl (by decide) ?_
        refine xG_run 2 rfl (by repeat' (first | exact trivial | assumption | exact xob_b rfl | exact xal_b rfl | (apply And.intro) | decide)) ?_
        refine xG_br rfl (fun h111 => ?_) (fun h111 => ?_)
        · refine xG_run 1 rfl (by repeat' (first | exact trivial | assumption | exact xob_b rfl | exact xal_b rfl | (apply And.intro) | decide)) ?_
          refine r2_i rfl rfl ?_
          refine ⟨?_, hB⟩
          rw [sd_end hno (i_nlt h2)]
          first
            | (rw [if_neg h111]; done)
            | (rw [if_pos (Decidable.not_not.mp h111)]; done)
        · refine xG_run 2 rfl (by repeat' (first | exact trivial | assumption | exact xob_b rfl | exact xal_b rfl | (apply And.intro) | decide)) ?_
          refine r2_i rfl rfl ?_
          refine ⟨?_, hB⟩
          rw [sd_end hno (i_nlt h2)]
          first
            | (rw [if_neg h111]; done)
            | (rw [if_pos (Decidable.not_not.mp h111)]; done)
    · refine xG_run 5 rfl (by repeat' (first | exact trivial | assumption | exact xob_b rfl | exact xal_b rfl | (apply And.intro) | decide)) ?_
      have lp := xG_upP (κ := κ) (m := mX11_stands) (r := (d, 0, 0)) (YS := xRet mX11_stands false (fun v M' n' => n' = 182 ∧ (v = some (.int (sdM (cAll M 1 np nr) i)) ∧ bFr M M'))) (fun j X => ∃ x5 : Option Value, X = (49, [some (.ref 0), some (.int i), some (.int (nI (sdN (cAll M 1 np nr) j))), some (.int (sdH (cAll M 1 np nr) j)), some (.int (nI j + (-300))), x5], [], M1, z2) ∧ ∀ k, k < j → ¬ (sdX (cAll M 1 np nr) k ∧ nI (sdN (cAll M 1 np nr) k) = i)) 600 ?_ ?_ 0 (by omega)
      · exact lp _ ⟨none, by first | (rw [sdH0_0 ((lg_lt0 _ _).mp h35)]; rfl) | (rw [sdH0_1 (lgn h35)]; rfl), fun k hk => absurd hk (by omega)⟩
      · rintro j X hj ⟨x5, rfl, hno⟩ ih
        have a1 := n3_3 (t := j) (by omega)
        have a2 := n3_3 (t := j + 1) (by omega)
        have e1 := n3_1 j
        refine xG_run 2 rfl (by repeat' (first | exact trivial | assumption | exact xob_b rfl | exact xal_b rfl | (apply And.intro) | decide)) ?_
        refine xG_brF rfl (n3_nle hj) ?_
        refine xG_run 5 rfl (by repeat' (first | exact trivial | assumption | exact xob_b rfl | exact xal_b rfl | (apply And.intro) | decide)) ?_
        refine xG_c2 1 rfl (by repeat' (first | exact trivial | assumption | exact xob_b rfl | exact xal_b rfl | (apply And.intro) | decide)) rfl rfl (by decide) cw_X0_restAt (d' := d - 1) (e_restAt1 (l := nI j + (-300) + 1) hg (by rw [e1]; omega) (by rw [e1]; omega) (by omega)) (by omega) ?_
        rintro v M' ⟨rfl, hM⟩
        subst M'
        dsimp only [Option.toList, List.cons_append, List.nil_append]
        rw [hR _ (by rw [e1]; omega) (by rw [e1]; omega), e1]
        refine xG_run 2 rfl (by repeat' (first | exact trivial | assumption | exact xob_b rfl | exact xal_b rfl | (apply And.intro) | decide)) ?_
        refine xG_br rfl (fun h70 => ?_) (fun h70 => ?_)
        · refine xG_run 3 rfl (by repeat' (first | exact trivial | assumption | exact xob_b rfl | exact xal_b rfl | (apply And.intro) | decide)) ?_
          refine xG_br rfl (fun h81 => ?_) (fun h81 => ?_)
          · refine xG_run 4 rfl (by repeat' (first | exact trivial | assumption | exact xob_b rfl | exact xal_b rfl | (apply And.intro) | decide)) ?_
            first
              | (exfalso; first | exact absurd h86 (by decide) | exact h86 (by decide); done)
              | (have hx : sdX (cAll M 1 np nr) j := ⟨sdH_1 h81, (lg_lt0 _ _).mp h70⟩
                 refine ih _ ⟨some (.int 0), ?_, sd_no hno (fun q => h91 q.2)⟩
                 rw [e1, sdN, if_pos hx, nI_1, sdH_e0 hx.2]; rfl)
              | (have hx : ¬ sdX (cAll M 1 np nr) j := fun q => Int64.not_le.mpr q.2 (lgn h70)
                 refine ih _ ⟨some (.int 1), ?_, sd_no hno (fun q => hx q.1)⟩
                 rw [e1, sdN, if_neg hx, sdH_e1 (lgn h70)]; rfl)
              | (have hx : ¬ sdX (cAll M 1 np nr) j := fun q => sdH_0 h81 q.1
                 refine ih _ ⟨some (.int 0), ?_, sd_no hno (fun q => hx q.1)⟩
                 rw [e1, sdN, if_neg hx, sdH_e0 ((lg_lt0 _ _).mp h70)]; rfl)
          · refine xG_run 1 rfl (by repeat' (first | exact trivial | assumption | exact xob_b rfl | exact xal_b rfl | (apply And.intro) | decide)) ?_
            refine xG_br rfl (fun h86 => ?_) (fun h86 => ?_)
            · refine xG_run 4 rfl (by repeat' (first | exact trivial | assumption | exact xob_b rfl | exact xal_b rfl | (apply And.intro) | decide)) ?_
              first
                | (exfalso; first | exact absurd h86 (by decide) | exact h86 (by decide); done)
                | (have hx : sdX (cAll M 1 np nr) j := ⟨sdH_1 h81, (lg_lt0 _ _).mp h70⟩
                   refine ih _ ⟨some (.int 0), ?_, sd_no hno (fun q => h91 q.2)⟩
                   rw [e1, sdN, if_pos hx, nI_1, sdH_e0 hx.2]; rfl)
                | (have hx : ¬ sdX (cAll M 1 np nr) j := fun q => Int64.not_le.mpr q.2 (lgn h70)
                   refine ih _ ⟨some (.int 1), ?_, sd_no hno (fun q => hx q.1)⟩
                   rw [e1, sdN, if_neg hx, sdH_e1 (lgn h70)]; rfl)
                | (have hx : ¬ sdX (cAll M 1 np nr) j := fun q => sdH_0 h81 q.1
                   refine ih _ ⟨some (.int 0), ?_, sd_no hno (fun q => hx q.1)⟩
                   rw [e1, sdN, if_neg hx, sdH_e0 ((lg_lt0 _ _).mp h70)]; rfl)
            · refine xG_run 2 rfl (by repeat' (first | exact trivial | assumption | exact xob_b rfl | exact xal_b rfl | (apply And.intro) | decide)) ?_
              refine xG_br rfl (fun h91 => ?_) (fun h91 => ?_)
              · refine xG_run 5 rfl (by repeat' (first | exact trivial | assumption | exact xob_b rfl | exact xal_b rfl | (apply And.intro) | decide)) ?_
                first
                  | (exfalso; first | exact absurd h86 (by decide) | exact h86 (by decide); done)
                  | (have hx : sdX (cAll M 1 np nr) j := ⟨sdH_1 h81, (lg_lt0 _ _).mp h70⟩
                     refine ih _ ⟨some (.int 0), ?_, sd_no hno (fun q => h91 q.2)⟩
                     rw [e1, sdN, if_pos hx, nI_1, sdH_e0 hx.2]; rfl)
                  | (have hx : ¬ sdX (cAll M 1 np nr) j := fun q => Int64.not_le.mpr q.2 (lgn h70)
                     refine ih _ ⟨some (.int 1), ?_, sd_no hno (fun q => hx q.1)⟩
                     rw [e1, sdN, if_neg hx, sdH_e1 (lgn h70)]; rfl)
                  | (have hx : ¬ sdX (cAll M 1 np nr) j := fun q => sdH_0 h81 q.1
                     refine ih _ ⟨some (.int 0), ?_, sd_no hno (fun q => hx q.1)⟩
                     rw [e1, sdN, if_neg hx, sdH_e0 ((lg_lt0 _ _).mp h70)]; rfl)
              · refine xG_run 1 rfl (by repeat' (first | exact trivial | assumption | exact xob_b rfl | exact xal_b rfl | (apply And.intro) | decide)) ?_
                refine r2_i rfl rfl ?_
                first
                  | (exfalso; first | exact absurd h86 (by decide) | exact h86 (by decide); done)
                  | (refine ⟨?_, hB⟩
                     rw [sd_at hno (i_nlt h2) ⟨sdH_1 h81, (lg_lt0 _ _).mp h70⟩ (Decidable.not_not.mp h91) hj]; done)
        · refine xG_run 4 rfl (by repeat' (first | exact trivial | assumption | exact xob_b rfl | exact xal_b rfl | (apply And.intro) | decide)) ?_
          refine xG_br rfl (fun h81 => ?_) (fun h81 => ?_)
          · refine xG_run 4 rfl (by repeat' (first | exact trivial | assumption | exact xob_b rfl | exact xal_b rfl | (apply And.intro) | decide)) ?_
            first
              | (exfalso; first | exact absurd h86 (by decide) | exact h86 (by decide); done)
              | (have hx : sdX (cAll M 1 np nr) j := ⟨sdH_1 h81, (lg_lt0 _ _).mp h70⟩
                 refine ih _ ⟨some (.int 0), ?_, sd_no hno (fun q => h91 q.2)⟩
                 rw [e1, sdN, if_pos hx, nI_1, sdH_e0 hx.2]; rfl)
              | (have hx : ¬ sdX (cAll M 1 np nr) j := fun q => Int64.not_le.mpr q.2 (lgn h70)
                 refine ih _ ⟨some (.int 1), ?_, sd_no hno (fun q => hx q.1)⟩
                 rw [e1, sdN, if_neg hx, sdH_e1 (lgn h70)]; rfl)
              | (have hx : ¬ sdX (cAll M 1 np nr) j := fun q => sdH_0 h81 q.1
                 refine ih _ ⟨some (.int 0), ?_, sd_no hno (fun q => hx q.1)⟩
                 rw [e1, sdN, if_neg hx, sdH_e0 ((lg_lt0 _ _).mp h70)]; rfl)
          · refine xG_run 1 rfl (by repeat' (first | exact trivial | assumption | exact xob_b rfl | exact xal_b rfl | (apply And.intro) | decide)) ?_
            refine xG_br rfl (fun h86 => ?_) (fun h86 => ?_)
            · refine xG_run 4 rfl (by repeat' (first | exact trivial | assumption | exact xob_b rfl | exact xal_b rfl | (apply And.intro) | decide)) ?_
              first
                | (exfalso; first | exact absurd h86 (by decide) | exact h86 (by decide); done)
                | (have hx : sdX (cAll M 1 np nr) j := ⟨sdH_1 h81, (lg_lt0 _ _).mp h70⟩
                   refine ih _ ⟨some (.int 0), ?_, sd_no hno (fun q => h91 q.2)⟩
                   rw [e1, sdN, if_pos hx, nI_1, sdH_e0 hx.2]; rfl)
                | (have hx : ¬ sdX (cAll M 1 np nr) j := fun q => Int64.not_le.mpr q.2 (lgn h70)
                   refine ih _ ⟨some (.int 1), ?_, sd_no hno (fun q => hx q.1)⟩
                   rw [e1, sdN, if_neg hx, sdH_e1 (lgn h70)]; rfl)
                | (have hx : ¬ sdX (cAll M 1 np nr) j := fun q => sdH_0 h81 q.1
                   refine ih _ ⟨some (.int 0), ?_, sd_no hno (fun q => hx q.1)⟩
                   rw [e1, sdN, if_neg hx, sdH_e0 ((lg_lt0 _ _).mp h70)]; rfl)
            · refine xG_run 2 rfl (by repeat' (first | exact trivial | assumption | exact xob_b rfl | exact xal_b rfl | (apply And.intro) | decide)) ?_
              refine xG_br rfl (fun h91 => ?_) (fun h91 => ?_)
              · refine xG_run 5 rfl (by repeat' (first | exact trivial | assumption | exact xob_b rfl | exact xal_b rfl | (apply And.intro) | decide)) ?_
                first
                  | (exfalso; first | exact absurd h86 (by decide) | exact h86 (by decide); done)
                  | (have hx : sdX (cAll M 1 np nr) j := ⟨sdH_1 h81, (lg_lt0 _ _).mp h70⟩
                     refine ih _ ⟨some (.int 0), ?_, sd_no hno (fun q => h91 q.2)⟩
                     rw [e1, sdN, if_pos hx, nI_1, sdH_e0 hx.2]; rfl)
                  | (have hx : ¬ sdX (cAll M 1 np nr) j := fun q => Int64.not_le.mpr q.2 (lgn h70)
                     refine ih _ ⟨some (.int 1), ?_, sd_no hno (fun q => hx q.1)⟩
                     rw [e1, sdN, if_neg hx, sdH_e1 (lgn h70)]; rfl)
                  | (have hx : ¬ sdX (cAll M 1 np nr) j := fun q => sdH_0 h81 q.1
                     refine ih _ ⟨some (.int 0), ?_, sd_no hno (fun q => hx q.1)⟩
                     rw [e1, sdN, if_neg hx, sdH_e0 ((lg_lt0 _ _).mp h70)]; rfl)
              · refine xG_run 1 rfl (by repeat' (first | exact trivial | assumption | exact xob_b rfl | exact xal_b rfl | (apply And.intro) | decide)) ?_
                refine r2_i rfl rfl ?_
                first
                  | (exfalso; first | exact absurd h86 (by decide) | exact h86 (by decide); done)
                  | (refine ⟨?_, hB⟩
                     rw [sd_at hno (i_nlt h2) ⟨sdH_1 h81, (lg_lt0 _ _).mp h70⟩ (Decidable.not_not.mp h91) hj]; done)
      · rintro X ⟨x5, rfl, hno⟩
        refine xG_run 2 rfl (by repeat' (first | exact trivial | assumption | exact xob_b rfl | exact xal_b rfl | (apply And.intro) | decide)) ?_
        refine xG_brT rfl (by decide) ?_
        refine xG_run 2 rfl (by repeat' (first | exact trivial | assumption | exact xob_b rfl | exact xal_b rfl | (apply And.intro) | decide)) ?_
        refine xG_br rfl (fun h111 => ?_) (fun h111 => ?_)
        · refine xG_run 1 rfl (by repeat' (first | exact trivial | assumption | exact xob_b rfl | exact xal_b rfl | (apply And.intro) | decide)) ?_
          refine r2_i rfl rfl ?_
          refine ⟨?_, hB⟩
          rw [sd_end hno (i_nlt h2)]
          first
            | (rw [if_neg h111]; done)
            | (rw [if_pos (Decidable.not_not.mp h111)]; done)
        · refine xG_run 2 rfl (by repeat' (first | exact trivial | assumption | exact xob_b rfl | exact xal_b rfl | (apply And.intro) | decide)) ?_
          refine r2_i rfl rfl ?_
          refine ⟨?_, hB⟩
          rw [sd_end hno (i_nlt h2)]
          first
            | (rw [if_neg h111]; done)
            | (rw [if_pos (Decidable.not_not.mp h111)]; done)
  · refine xG_run 1 rfl (by repeat' (first | exact trivial | assumption | exact xob_b rfl | exact xal_b rfl | (apply And.intro) | decide)) ?_
    refine r2_i rfl rfl ?_
    refine ⟨?_, bFr_r⟩
    unfold sdM
    rw [if_pos (i_nle h2)]
