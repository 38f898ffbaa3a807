/-! ===== the stand, as the class finds it ===== -/
theorem lSum_add (f g : Nat → Int64) : ∀ n, lSum f n + lSum g n = lSum (fun i => f i + g i) n
  | 0 => Int64.add_zero 0
  | n + 1 => by rw [lSum, lSum, lSum, ← lSum_add f g n]; ac_rfl
/-- the whole of REST at l -/
def cAll (M : xM) (m np nr : Nat) (l : Int32) : Int64 := lSum (fun i => cTp M l (m + 5 + i)) np + lSum (fun i => cTr M l (m + 15 + i)) nr - (gI M m 4 * l).toInt64 + lSum (fun i => cPu M m (m + 5 + i) * (gI M (m + 5 + i) 2).toInt64) np
theorem cAll_eq {M M' : xM} {m np nr c e : Nat} {pl rl : Nat → Nat} {S S2 l : Int32} {Z : Int64} (hm : m + 26 < 123) (hn : np ≤ 10) (hr : nr ≤ 12) (hF : ∀ a k, a ≠ 123 → gI M' a k = gI M a k)
    (hs : ∀ T : Nat → Int64, lSum (fun k => T (pl k)) c = lSum (fun i => if xbd S i = true then T i else 0) np) (ht : ∀ T : Nat → Int64, lSum (fun k => T (rl k)) e = lSum (fun i => if xbd S2 i = true then T i else 0) nr) :
    bSet M m np nr S S2 l + Z + cMom M' m pl rl c e l = lSum (fun i => cTp M l (m + 5 + i)) np + lSum (fun i => cTr M l (m + 15 + i)) nr - (gI M m 4 * l).toInt64 + Z := by
  unfold cMom bSet
  rw [lAcc_eq, lAcc_eq, hs (fun i => cTp M' l (m + 5 + i)), ht (fun i => cTr M' l (m + 15 + i))]
  have e1 : lSum (fun i => cTp M l (m + 5 + i)) np = lSum (fun i => if xbd S i = true then 0 else cTp M l (m + 5 + i)) np + lSum (fun i => if xbd S i = true then cTp M' l (m + 5 + i) else 0) np := by
    rw [lSum_add]
    refine lSum_cong (fun i hi => ?_)
    rw [cTp_eq (fun k => hF _ k (by omega))]
    cases xbd S i
    · exact (Int64.add_zero _).symm
    · exact (Int64.zero_add _).symm
  have e2 : lSum (fun i => cTr M l (m + 15 + i)) nr = lSum (fun i => if xbd S2 i = true then 0 else cTr M l (m + 15 + i)) nr + lSum (fun i => if xbd S2 i = true then cTr M' l (m + 15 + i) else 0) nr := by
    rw [lSum_add]
    refine lSum_cong (fun i hi => ?_)
    rw [cTr_eq (fun k => hF _ k (by omega))]
    cases xbd S2 i
    · exact (Int64.add_zero _).symm
    · exact (Int64.zero_add _).symm
  rw [e1, e2]
  simp only [Int64.sub_eq_add_neg]
  ac_rfl
theorem n3_of {l : Int32} (h1 : -300 ≤ l.toInt) (h2 : l.toInt ≤ 300) : ∃ t, t ≤ 600 ∧ l = nI t + (-300) ∧ (l + 300).toNatClampNeg = t := by
  have e : (300 : Int32).toInt = 300 := by decide
  have f : (l + 300).toInt = l.toInt + 300 := by rw [fb_addI (by omega) (by omega), e]
  have g : ¬ (l + 300) < 0 := by rw [Int32.lt_iff_toInt_lt, Int32.toInt_zero]; omega
  obtain ⟨t, ht, e2⟩ := nI_of g
  have e3 := nI_ti ht
  refine ⟨t, by rw [← e2, f] at e3; omega, ?_, by rw [e2]; exact nI_cl ht⟩
  rw [← e2, Int32.add_assoc, show (300 : Int32) + (-300) = 0 by decide, Int32.add_zero]
theorem fF_cong {p q : Nat → Bool} : ∀ {n : Nat}, (∀ k, k < n → p k = q k) → fF p n = fF q n
  | 0, _ => rfl
  | n + 1, h => by rw [fF, fF, fF_cong (fun k hk => h k (by omega)), h n (by omega)]
theorem stN_cong {R R' : Int32 → Int64} {mo : Nat} (hmo : mo ≤ 300) (h : ∀ l : Int32, -300 ≤ l.toInt → l.toInt ≤ 300 → R l = R' l) : stN R mo = stN R' mo := by
  have a0 : R 0 = R' 0 := h 0 (by decide) (by decide)
  have a1 : fF (fun k => decide (R (nI (k + 1)) < 0)) (min (mo + 1) 300) = fF (fun k => decide (R' (nI (k + 1)) < 0)) (min (mo + 1) 300) := fF_cong (fun k hk => by
    have e := nI_ti (j := k + 1) (by omega)
    rw [h (nI (k + 1)) (by omega) (by omega)])
  have a2 : fF (fun k => decide (0 ≤ R (-(nI (k + 1))))) mo = fF (fun k => decide (0 ≤ R' (-(nI (k + 1))))) mo := fF_cong (fun k hk => by
    have e : (-(nI (k + 1))).toInt = -((k + 1 : Nat) : Int) := sb_negT (by omega)
    rw [h (-(nI (k + 1))) (by omega) (by omega)])
  unfold stN
  rw [a0, a1, a2]
theorem cRest_all {M M' : xM} {m np nr c e : Nat} {pl rl : Nat → Nat} {S S2 l : Int32} (hm : m + 26 < 123) (hn : np ≤ 10) (hr : nr ≤ 12) (hF : ∀ a k, a ≠ 123 → gI M' a k = gI M a k)
    (hs : ∀ T : Nat → Int64, lSum (fun k => T (pl k)) c = lSum (fun i => if xbd S i = true then T i else 0) np) (ht : ∀ T : Nat → Int64, lSum (fun k => T (rl k)) e = lSum (fun i => if xbd S2 i = true then T i else 0) nr)
    (hp : gJ M' 123 5 = lSum (fun i => cPu M m (m + 5 + i) * (gI M (m + 5 + i) 2).toInt64) np) (hB : ∀ t, t ≤ 600 → gJ M' 124 t = bSet M m np nr S S2 (nI t + (-300))) (h1 : -300 ≤ l.toInt) (h2 : l.toInt ≤ 300) : cRest M' m pl rl c e l = cAll M m np nr l := by
  obtain ⟨t, ht6, e1, e2⟩ := n3_of h1 h2
  unfold cRest cAll
  rw [e2, hB t ht6, ← e1, hp]
  exact cAll_eq hm hn hr hF hs ht
set_option maxRecDepth 4000 in
theorem e_leanNow {κ : xKK} {d : Nat} {M : xM} {np nr : Nat} (hn : gI M 1 1 = nI np) (hn2 : np ≤ 10) (hr : gI M 1 3 = nI nr) (hr2 : nr ≤ 12) (hsh : ∀ i, i < np → 0 ≤ (cSh M 1 (6 + i)).toInt ∧ (cSh M 1 (6 + i)).toInt < 5) (hd : 5 ≤ d) : xE2 κ mX11_leanNow d [.ref 0] M (fun v M' => v = some (.int (stN (cAll M 1 np nr) 300)) ∧ bFr M M') := by
  refine xE2_of ci_X11_leanNow cl_X11_leanNow cw_X11_leanNow rfl (L := [some (.ref 0)]) rfl ?_
  refine xG_run 6 rfl (by repeat' (first | exact trivial | assumption | exact xob_b rfl | exact xal_b rfl | (apply And.intro) | decide)) ?_
  refine xG_c2 3 rfl (by repeat' (first | exact trivial | assumption | exact xob_b rfl | exact xal_b rfl | (apply And.intro) | decide)) rfl rfl (by decide) cw_X0_load (d' := d - 1) (e_load1 hn hn2 hr hr2 hsh (by omega)) (by omega) ?_
  rintro v M1 ⟨pl, rl, c, e, rfl, hg, hpl, hrl, hs, ht, hB, hp, hB2⟩
  dsimp only [Option.toList, List.cons_append, List.nil_append]
  have hR : ∀ l : Int32, -300 ≤ l.toInt → l.toInt ≤ 300 → cRest M1 1 pl rl c e l = cAll M 1 np nr l := fun l a1 a2 => cRest_all (by omega) hn2 hr2 hB.1 hs ht hp hB2 a1 a2
  refine xG_run 3 rfl (by repeat' (first | exact trivial | assumption | exact xob_b rfl | exact xal_b rfl | (apply And.intro) | decide)) ?_
  refine xG_c2 1 rfl (by repeat' (first | exact trivial | assumption | exact xob_b rfl | exact xal_b rfl | (apply And.intro) | decide)) rfl rfl (by decide) cw_X0_lean (d' := d - 1) (e_lean1 (mo := 300) hg (by omega) (by omega)) (by omega) ?_
  rintro v M' ⟨rfl, hM⟩
  subst M'
  dsimp only [Option.toList, List.cons_append, List.nil_append]
  refine r2_i rfl rfl ?_
  exact ⟨by rw [stN_cong (by omega) hR], hB⟩
def cSt (M : xM) (np nr : Nat) : Int32 := stN (cAll M 1 np nr) 300
set_option maxRecDepth 4000 in
theorem e_x_stand {κ : xKK} {d : Nat} {M : xM} {np nr : Nat} (hn : gI M 1 1 = nI np) (hn2 : np ≤ 10) (hr : gI M 1 3 = nI nr) (hr2 : nr ≤ 12) (hsh : ∀ i, i < np → 0 ≤ (cSh M 1 (6 + i)).toInt ∧ (cSh M 1 (6 + i)).toInt < 5) (hd : 6 ≤ d) : xE2 κ mX11_stand d [.ref 0] M (fun v M' => v = some (.int (if cSt M np nr = 1000 then -1000000003 else cSt M np nr)) ∧ bFr M M') := by
  refine xE2_of ci_X11_stand cl_X11_stand cw_X11_stand rfl (L := [some (.ref 0), none]) rfl ?_
  refine xG_run 1 rfl (by repeat' (first | exact trivial | assumption | exact xob_b rfl | exact xal_b rfl | (apply And.intro) | decide)) ?_
  refine xG_c2 0 rfl (by repeat' (first | exact trivial | assumption | exact xob_b rfl | exact xal_b rfl | (apply And.intro) | decide)) rfl rfl (by decide) cw_X11_leanNow (d' := d - 1) (e_leanNow hn hn2 hr hr2 hsh (by omega)) (by omega) ?_
  rintro v M1 ⟨rfl, hB⟩
  dsimp only [Option.toList, List.cons_append, List.nil_append]
  refine xG_run 3 rfl (by repeat' (first | exact trivial | assumption | exact xob_b rfl | exact xal_b rfl | (apply And.intro) | decide)) ?_
  refine xG_br rfl (fun h9 => ?_) (fun h9 => ?_)
  · refine xG_run 1 rfl (by repeat' (first | exact trivial | assumption | exact xob_b rfl | exact xal_b rfl | (apply And.intro) | decide)) ?_
    refine r2_i rfl rfl ?_
    refine ⟨?_, hB⟩
    unfold cSt
    first
      | (rw [if_neg h9]; done)
      | (rw [if_pos (Decidable.not_not.mp h9)]; done)
  · refine xG_run 2 rfl (by repeat' (first | exact trivial | assumption | exact xob_b rfl | exact xal_b rfl | (apply And.intro) | decide)) ?_
    refine r2_i rfl rfl ?_
    refine ⟨?_, hB⟩
    unfold cSt
    first
      | (rw [if_neg h9]; done)
      | (rw [if_pos (Decidable.not_not.mp h9)]; done)
theorem cLo_eq {M M' : xM} {l : Int32} : ∀ {n : Nat}, n ≤ 12 → (∀ a k, a ≠ 123 → gI M' a k = gI M a k) → cLo M' l n = cLo M l n
  | 0, _, _ => rfl
  | n + 1, h, hF => by rw [cLo, cLo, cLo_eq (by omega) hF, hF _ _ (by omega), cP_eq (fun k => hF _ k (by omega))]
set_option maxRecDepth 4000 in
theorem e_x_loose {κ : xKK} {d : Nat} {M : xM} {np nr : Nat} (hn : gI M 1 1 = nI np) (hn2 : np ≤ 10) (hr : gI M 1 3 = nI nr) (hr2 : nr ≤ 12) (hsh : ∀ i, i < np → 0 ≤ (cSh M 1 (6 + i)).toInt ∧ (cSh M 1 (6 + i)).toInt < 5) (hd : 6 ≤ d) : xE2 κ mX11_loose d [.ref 0] M (fun v M' => v = some (.int (if cSt M np nr = 1000 then -3 else cLo M (cSt M np nr) nr)) ∧ bFr M M') := by
  refine xE2_of ci_X11_loose cl_X11_loose cw_X11_loose rfl (L := [some (.ref 0), none]) rfl ?_
  refine xG_run 1 rfl (by repeat' (first | exact trivial | assumption | exact xob_b rfl | exact xal_b rfl | (apply And.intro) | decide)) ?_
  refine xG_c2 0 rfl (by repeat' (first | exact trivial | assumption | exact xob_b rfl | exact xal_b rfl | (apply And.intro) | decide)) rfl rfl (by decide) cw_X11_leanNow (d' := d - 1) (e_leanNow hn hn2 hr hr2 hsh (by omega)) (by omega) ?_
  rintro v M1 ⟨rfl, hB⟩
  dsimp only [Option.toList, List.cons_append, List.nil_append]
  refine xG_run 3 rfl (by repeat' (first | exact trivial | assumption | exact xob_b rfl | exact xal_b rfl | (apply And.intro) | decide)) ?_
  refine xG_br rfl (fun h9 => ?_) (fun h9 => ?_)
  · refine xG_run 3 rfl (by repeat' (first | exact trivial | assumption | exact xob_b rfl | exact xal_b rfl | (apply And.intro) | decide)) ?_
    refine xG_c2 1 rfl (by repeat' (first | exact trivial | assumption | exact xob_b rfl | exact xal_b rfl | (apply And.intro) | decide)) rfl rfl (by decide) cw_X1_looseAt (d' := d - 1) (e_looseAt (nr := nr) ((hB.1 _ _ (by decide)).trans hr) hr2 (by omega)) (by omega) ?_
    rintro v M' ⟨rfl, hM⟩
    subst M'
    dsimp only [Option.toList, List.cons_append, List.nil_append]
    refine r2_i rfl rfl ?_
    refine ⟨?_, hB⟩
    first
      | (rw [cLo_eq hr2 hB.1]; unfold cSt; rw [if_neg h9]; done)
      | (unfold cSt; rw [if_pos (Decidable.not_not.mp h9)]; done)
  · refine xG_run 2 rfl (by repeat' (first | exact trivial | assumption | exact xob_b rfl | exact xal_b rfl | (apply And.intro) | decide)) ?_
    refine r2_i rfl rfl ?_
    refine ⟨?_, hB⟩
    first
      | (rw [cLo_eq hr2 hB.1]; unfold cSt; rw [if_neg h9]; done)
      | (unfold cSt; rw [if_pos (Decidable.not_not.mp h9)]; done)
set_option maxRecDepth 4000 in
theorem e_x_pull {κ : xKK} {d : Nat} {M : xM} {np nr : Nat} (hn : gI M 1 1 = nI np) (hn2 : np ≤ 10) (hr : gI M 1 3 = nI nr) (hr2 : nr ≤ 12) (hsh : ∀ i, i < np → 0 ≤ (cSh M 1 (6 + i)).toInt ∧ (cSh M 1 (6 + i)).toInt < 5) {i : Int32} (hd : 6 ≤ d) : xE2 κ mX11_pull d [.ref 0, .int i] M (fun v M' => ((∃ j, j < nr ∧ i = nI j ∧ v = some (.int (if cSt M np nr = 1000 then -3 else cP M (16 + j) (cSt M np nr)))) ∨ (¬ (∃ j, j < nr ∧ i = nI j) ∧ v = some (.int (-1)))) ∧ bFr M M') := by
  refine xE2_of ci_X11_pull cl_X11_pull cw_X11_pull rfl (L := [some (.ref 0), some (.int i), none, none]) rfl ?_
  refine xG_run 3 rfl (by repeat' (first | exact trivial | assumption | exact xob_b rfl | exact xal_b rfl | (apply And.intro) | decide)) ?_
  refine xG_c2 1 rfl (by repeat' (first | exact trivial | assumption | exact xob_b rfl | exact xal_b rfl | (apply And.intro) | decide)) rfl rfl (by decide) cw_X1_ropeAt (d' := d - 1) (e_ropeAt hr hr2) (by omega) ?_
  rintro v M' ⟨hv, hM⟩
  subst M'
  rcases hv with ⟨rfl, hno⟩ | ⟨j, hj, hij, rfl⟩
  · dsimp only [Option.toList, List.cons_append, List.nil_append]
    refine xG_run 4 rfl (by repeat' (first | exact trivial | assumption | exact xob_b rfl | exact xal_b rfl | (apply And.intro) | decide)) ?_
    refine r2_i rfl rfl ?_
    first
      | exact ⟨Or.inr ⟨fun ⟨j9, a1, a2⟩ => hno (by rw [a2]; exact inI a1 (by omega)), rfl⟩, fun _ _ _ => rfl, fun _ _ _ _ => rfl, fun _ _ _ _ => rfl⟩
      | (refine ⟨Or.inl ⟨j, hj, hij, ?_⟩, hB⟩
         first
           | (unfold cSt; rw [if_pos (Decidable.not_not.mp h24)]; done)
           | (rw [cP_eq (fun k => hB.1 _ k (by omega))]; unfold cSt; rw [if_neg h24]; done))
  · dsimp only [Option.toList, List.cons_append, List.nil_append]
    have hx : xob (16 + j) 5 182 := xob_r1 (by omega)
    refine xG_run 4 rfl (by repeat' (first | exact trivial | assumption | exact xob_b rfl | exact xal_b rfl | (apply And.intro) | decide)) ?_
    refine xG_c2 0 rfl (by repeat' (first | exact trivial | assumption | exact xob_b rfl | exact xal_b rfl | (apply And.intro) | decide)) rfl rfl (by decide) cw_X11_leanNow (d' := d - 1) (e_leanNow hn hn2 hr hr2 hsh (by omega)) (by omega) ?_
    rintro v M1 ⟨rfl, hB⟩
    dsimp only [Option.toList, List.cons_append, List.nil_append]
    refine xG_run 3 rfl (by repeat' (first | exact trivial | assumption | exact xob_b rfl | exact xal_b rfl | (apply And.intro) | decide)) ?_
    refine xG_br rfl (fun h24 => ?_) (fun h24 => ?_)
    · refine xG_run 2 rfl (by repeat' (first | exact trivial | assumption | exact xob_b rfl | exact xal_b rfl | (apply And.intro) | decide)) ?_
      refine xG_c2 1 rfl (by repeat' (first | exact trivial | assumption | exact xob_b rfl | exact xal_b rfl | (apply And.intro) | decide)) rfl rfl (by decide) cw_X5_pullAt (d' := d - 1) (e_pullAt hx) (by omega) ?_
      rintro v M' ⟨rfl, hM⟩
      subst M'
      dsimp only [Option.toList, List.cons_append, List.nil_append]
      refine r2_i rfl rfl ?_
      first
        | exact ⟨Or.inr ⟨fun ⟨j9, a1, a2⟩ => hno (by rw [a2]; exact inI a1 (by omega)), rfl⟩, fun _ _ _ => rfl, fun _ _ _ _ => rfl, fun _ _ _ _ => rfl⟩
        | (refine ⟨Or.inl ⟨j, hj, hij, ?_⟩, hB⟩
           first
             | (unfold cSt; rw [if_pos (Decidable.not_not.mp h24)]; done)
             | (rw [cP_eq (fun k => hB.1 _ k (by omega))]; unfold cSt; rw [if_neg h24]; done))
    · refine xG_run 2 rfl (by repeat' (first | exact trivial | assumption | exact xob_b rfl | exact xal_b rfl | (apply And.intro) | decide)) ?_
      refine r2_i rfl rfl ?_
      first
        | exact ⟨Or.inr ⟨fun ⟨j9, a1, a2⟩ => hno (by rw [a2]; exact inI a1 (by omega)), rfl⟩, fun _ _ _ => rfl, fun _ _ _ _ => rfl, fun _ _ _ _ => rfl⟩
        | (refine ⟨Or.inl ⟨j, hj, hij, ?_⟩, hB⟩
           first
             | (unfold cSt; rw [if_pos (Decidable.not_not.mp h24)]; done)
             | (rw [cP_eq (fun k => hB.1 _ k (by omega))]; unfold cSt; rw [if_neg h24]; done))
