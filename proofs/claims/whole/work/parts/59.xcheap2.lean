/-! what strengthen may change -/
def wFr (M M' : xM) : Prop := (∀ x k, ¬ (k = 3 ∧ 43 ≤ x ∧ x < 55) → gI M' x k = gI M x k) ∧ (∀ x k, gJ M' x k = gJ M x k) ∧ ∀ x k, gP M' x k = gP M x k
theorem wFr_r {M : xM} : wFr M M := ⟨fun _ _ _ => rfl, fun _ _ => rfl, fun _ _ => rfl⟩
theorem wFr_t {M M' M2 : xM} (h : wFr M M') (h2 : wFr M' M2) : wFr M M2 := ⟨fun x k q => (h2.1 x k q).trans (h.1 x k q), fun x k => (h2.2.1 x k).trans (h.2.1 x k), fun x k => (h2.2.2 x k).trans (h.2.2 x k)⟩
theorem wFr_i {M : xM} {q : Nat} {v : Int32} (h : q < 12) : wFr M (sI M (43 + q) 3 v) := ⟨fun x y z => gI_ne (by omega), fun _ _ => rfl, fun _ _ => rfl⟩
theorem nI_inj12 {a b : Nat} (ha : a < 12) (hb : b < 12) (h : nI a = nI b) : a = b := by
  have := congrArg Int32.toNatClampNeg h
  rw [nI_cl (by omega), nI_cl (by omega)] at this
  exact this
set_option maxRecDepth 4000 in
theorem e_strengthen {κ : xKK} {d : Nat} {M : xM} {nr no : Nat} {R : xM} (ho : oR M 71 R 167 nr no) (hr2 : nr ≤ 12) {s : Nat} (hrr : ∀ q, q < nr → gI M (16 + q) 3 = rr R q 3) (hU : ∀ q, q < nr → (∀ i, i < no → ¬ oro R i = nI q) → gI M (43 + q) 3 = rr R q 3) : xE2 κ mX2_strengthen d [.ref 71, .ref 28, .ref 1, .int (nI s)] M (fun v M' => v = none ∧ wFr M M' ∧ ∀ q, q < nr → gI M' (43 + q) 3 = stF R s no q) := by
  refine xE2_of ci_X2_strengthen cl_X2_strengthen cw_X2_strengthen rfl (L := [some (.ref 71), some (.ref 28), some (.ref 1), some (.int (nI s)), none, none]) rfl ?_
  have ho1 := ho.2.1.1
  have ho8 := ho.1
  refine xG_run 2 rfl (by repeat' (first | exact trivial | assumption | exact xob_b rfl | exact xal_b rfl | (apply And.intro) | decide)) ?_
  try dsimp only [xsto1, xsto2, xkill, xget, xset, gd_0, gd_s]
  have lp := xG_upP (κ := κ) (m := mX2_strengthen) (r := (d, 0, 0)) (YS := xRet mX2_strengthen false (fun v M' n' => n' = 182 ∧ (v = none ∧ wFr M M' ∧ ∀ q, q < nr → gI M' (43 + q) 3 = stF R s no q))) (fun k X => ∃ M2 : xM, X = (3, [some (.ref 71), some (.ref 28), some (.ref 1), some (.int (nI s)), some (.int (nI k)), none], [], M2, z2) ∧ wFr M M2 ∧ ∀ q, q < nr → (∀ i, k ≤ i → i < no → ¬ oro R i = nI q) → gI M2 (43 + q) 3 = rr R q 3) no ?_ ?_ 0 (by omega)
  · exact lp _ ⟨M, rfl, wFr_r, fun q hq hu => hU q hq (fun i hi => hu i (Nat.zero_le _) hi)⟩
  · rintro k X hk ⟨M2, rfl, hF, hI⟩ ih
    have hk1 : (nI k).toNatClampNeg = k := nI_cl (by omega)
    have hs : xar 72 0 182 (nI k) := xar_n rfl 8 rfl (by omega) (by omega)
    have hs3 : xar 73 0 182 (nI k) := xar_n rfl 8 rfl (by omega) (by omega)
    obtain ⟨q, hq, hqe⟩ := (ho.2.2 k hk).2.1
    have hq1 : (nI q).toNatClampNeg = q := nI_cl (by omega)
    have hro : gI M2 72 (nI k).toNatClampNeg = nI q := by rw [hk1]; exact (hF.1 _ _ (by omega)).trans ((ho.2.2 k hk).1.1.trans hqe)
    have hmo : gI M2 73 (nI k).toNatClampNeg = oM R k := by rw [hk1]; exact (hF.1 _ _ (by omega)).trans ((ho.2.2 k hk).1.2.1)
    have hxa : xob (43 + (nI q).toNatClampNeg) 5 182 := by rw [hq1]; exact xob_r28 (by omega)
    have hxb : xob (16 + (nI q).toNatClampNeg) 5 182 := by rw [hq1]; exact xob_r1 (by omega)
    have hqa : xqr 30 182 (nI q) := xqr_n rfl 12 rfl (by omega) (by omega)
    have hqb : xqr 3 182 (nI q) := xqr_n rfl 12 rfl (by omega) (by omega)
    have hN2 : gI M2 71 3 = nI no := (hF.1 _ _ (by omega)).trans ho1
    have hst : gI M2 (16 + (nI q).toNatClampNeg) 3 = rr R q 3 := by rw [hq1]; exact (hF.1 _ _ (by omega)).trans (hrr q hq)
    refine xG_run 3 rfl (by repeat' (first | exact trivial | assumption | exact xob_b rfl | exact xal_b rfl | (apply And.intro) | decide)) ?_
    try dsimp only [xsto1, xsto2, xkill, xget, xset, gd_0, gd_s]
    refine xG_brF rfl (by rw [hN2]; exact nI_ge hk (by omega)) ?_
    refine xG_run 6 rfl (by repeat' (first | exact trivial | assumption | exact xob_b rfl | exact xal_b rfl | (apply And.intro) | decide)) ?_
    try dsimp only [xsto1, xsto2, xkill, xget, xset, gd_0, gd_s]
    rw [hro]
    refine xG_run 7 rfl (by repeat' (first | exact trivial | assumption | exact xob_b rfl | exact xal_b rfl | (apply And.intro) | decide)) ?_
    try dsimp only [xsto1, xsto2, xkill, xget, xset, gd_0, gd_s]
    rw [hro]
    refine xG_run 5 rfl (by repeat' (first | exact trivial | assumption | exact xob_b rfl | exact xal_b rfl | (apply And.intro) | decide)) ?_
    try dsimp only [xsto1, xsto2, xkill, xget, xset, gd_0, gd_s]
    rw [nI_1, hst, hq1]
    refine ih _ ⟨_, rfl, wFr_t hF (wFr_i (by omega)), fun p hp hu => ?_⟩
    by_cases c : p = q
    · subst c; exact gI_self _ _ _ _
    · rw [gI_ne (by omega)]
      refine hI p hp (fun i h1 h2 => ?_)
      by_cases e : i = k
      · subst e
        exact fun w => c (nI_inj12 (by omega) (by omega) (w.symm.trans hqe))
      · exact hu i (by omega) h2
  · rintro X ⟨M2, rfl, hF, hI⟩
    have hN2 : gI M2 71 3 = nI no := (hF.1 _ _ (by omega)).trans ho1
    refine xG_run 3 rfl (by repeat' (first | exact trivial | assumption | exact xob_b rfl | exact xal_b rfl | (apply And.intro) | decide)) ?_
    try dsimp only [xsto1, xsto2, xkill, xget, xset, gd_0, gd_s]
    refine xG_brT rfl (by rw [hN2]; exact Int32.le_refl _) ?_
    refine xG_run 2 rfl (by repeat' (first | exact trivial | assumption | exact xob_b rfl | exact xal_b rfl | (apply And.intro) | decide)) ?_
    try dsimp only [xsto1, xsto2, xkill, xget, xset, gd_0, gd_s]
    have lp := xG_upP (κ := κ) (m := mX2_strengthen) (r := (d, 0, 0)) (YS := xRet mX2_strengthen false (fun v M' n' => n' = 182 ∧ (v = none ∧ wFr M M' ∧ ∀ q, q < nr → gI M' (43 + q) 3 = stF R s no q))) (fun k X => ∃ (M2 : xM) (x5 : Option Value), X = (51, [some (.ref 71), some (.ref 28), some (.ref 1), some (.int (nI s)), some (.int (nI k)), x5], [], M2, z2) ∧ wFr M M2 ∧ ∀ q, q < nr → gI M2 (43 + q) 3 = stF R s k q) no ?_ ?_ 0 (by omega)
    · exact lp _ ⟨M2, none, rfl, hF, fun q hq => hI q hq (fun i h1 h2 => absurd h2 (by omega))⟩
    · rintro k X hk ⟨M2, x5, rfl, hF, hI⟩ ih
      have hk1 : (nI k).toNatClampNeg = k := nI_cl (by omega)
      have hs : xar 72 0 182 (nI k) := xar_n rfl 8 rfl (by omega) (by omega)
      have hs3 : xar 73 0 182 (nI k) := xar_n rfl 8 rfl (by omega) (by omega)
      obtain ⟨q, hq, hqe⟩ := (ho.2.2 k hk).2.1
      have hq1 : (nI q).toNatClampNeg = q := nI_cl (by omega)
      have hro : gI M2 72 (nI k).toNatClampNeg = nI q := by rw [hk1]; exact (hF.1 _ _ (by omega)).trans ((ho.2.2 k hk).1.1.trans hqe)
      have hmo : gI M2 73 (nI k).toNatClampNeg = oM R k := by rw [hk1]; exact (hF.1 _ _ (by omega)).trans ((ho.2.2 k hk).1.2.1)
      have hxa : xob (43 + (nI q).toNatClampNeg) 5 182 := by rw [hq1]; exact xob_r28 (by omega)
      have hxb : xob (16 + (nI q).toNatClampNeg) 5 182 := by rw [hq1]; exact xob_r1 (by omega)
      have hqa : xqr 30 182 (nI q) := xqr_n rfl 12 rfl (by omega) (by omega)
      have hqb : xqr 3 182 (nI q) := xqr_n rfl 12 rfl (by omega) (by omega)
      have hN2 : gI M2 71 3 = nI no := (hF.1 _ _ (by omega)).trans ho1
      have hst : gI M2 (16 + (nI q).toNatClampNeg) 3 = rr R q 3 := by rw [hq1]; exact (hF.1 _ _ (by omega)).trans (hrr q hq)
      have hbt := xbd_nI (S := s) (i := k) (by omega)
      refine xG_run 3 rfl (by repeat' (first | exact trivial | assumption | exact xob_b rfl | exact xal_b rfl | (apply And.intro) | decide)) ?_
      try dsimp only [xsto1, xsto2, xkill, xget, xset, gd_0, gd_s]
      refine xG_brF rfl (by rw [hN2]; exact nI_ge hk (by omega)) ?_
      refine xG_run 6 rfl (by repeat' (first | exact trivial | assumption | exact xob_b rfl | exact xal_b rfl | (apply And.intro) | decide)) ?_
      try dsimp only [xsto1, xsto2, xkill, xget, xset, gd_0, gd_s]
      refine xG_br rfl (fun h67 => ?_) (fun h67 => ?_)
      · have hc : ¬ s.testBit k = true := fun w => h67 (hbt.mpr w)
        refine xG_run 2 rfl (by repeat' (first | exact trivial | assumption | exact xob_b rfl | exact xal_b rfl | (apply And.intro) | decide)) ?_
        try dsimp only [xsto1, xsto2, xkill, xget, xset, gd_0, gd_s]
        rw [nI_1]
        first
          | (refine ih _ ⟨M2, _, rfl, hF, fun p hp => ?_⟩
             rw [show stF R s (k + 1) p = stF R s k p from if_neg (fun w => hc w.1)]
             exact hI p hp)
          | (refine ih _ ⟨_, _, rfl, wFr_t hF (wFr_i (q := (nI q).toNatClampNeg) (by rw [hq1]; omega)), fun p hp => ?_⟩
             rw [hq1]
             by_cases c : p = q
             · subst c
               rw [show stF R s (k + 1) p = stM (stF R s k p) (oM R k) from if_pos ⟨hc, hqe⟩, gI_self, hI p hp]
               rfl
             · rw [show stF R s (k + 1) p = stF R s k p from if_neg (fun w => c (nI_inj12 (by omega) (by omega) (w.2.symm.trans hqe))), gI_ne (by omega)]
               exact hI p hp)
      · have hc : s.testBit k = true := hbt.mp (Decidable.not_not.mp h67)
        refine xG_run 6 rfl (by repeat' (first | exact trivial | assumption | exact xob_b rfl | exact xal_b rfl | (apply And.intro) | decide)) ?_
        try dsimp only [xsto1, xsto2, xkill, xget, xset, gd_0, gd_s]
        rw [hro]
        refine xG_run 8 rfl (by repeat' (first | exact trivial | assumption | exact xob_b rfl | exact xal_b rfl | (apply And.intro) | decide)) ?_
        try dsimp only [xsto1, xsto2, xkill, xget, xset, gd_0, gd_s]
        refine xG_run 1 rfl (by repeat' (first | exact trivial | assumption | exact xob_b rfl | exact xal_b rfl | (apply And.intro) | decide)) ?_
        try dsimp only [xsto1, xsto2, xkill, xget, xset, gd_0, gd_s]
        rw [hmo]
        refine xG_run 6 rfl (by repeat' (first | exact trivial | assumption | exact xob_b rfl | exact xal_b rfl | (apply And.intro) | decide)) ?_
        try dsimp only [xsto1, xsto2, xkill, xget, xset, gd_0, gd_s]
        rw [nI_1]
        first
          | (refine ih _ ⟨M2, _, rfl, hF, fun p hp => ?_⟩
             rw [show stF R s (k + 1) p = stF R s k p from if_neg (fun w => hc w.1)]
             exact hI p hp)
          | (refine ih _ ⟨_, _, rfl, wFr_t hF (wFr_i (q := (nI q).toNatClampNeg) (by rw [hq1]; omega)), fun p hp => ?_⟩
             rw [hq1]
             by_cases c : p = q
             · subst c
               rw [show stF R s (k + 1) p = stM (stF R s k p) (oM R k) from if_pos ⟨hc, hqe⟩, gI_self, hI p hp]
               rfl
             · rw [show stF R s (k + 1) p = stF R s k p from if_neg (fun w => c (nI_inj12 (by omega) (by omega) (w.2.symm.trans hqe))), gI_ne (by omega)]
               exact hI p hp)
    · rintro X ⟨M2, x5, rfl, hF, hI⟩
      have hN2 : gI M2 71 3 = nI no := (hF.1 _ _ (by omega)).trans ho1
      refine xG_run 3 rfl (by repeat' (first | exact trivial | assumption | exact xob_b rfl | exact xal_b rfl | (apply And.intro) | decide)) ?_
      try dsimp only [xsto1, xsto2, xkill, xget, xset, gd_0, gd_s]
      refine xG_brT rfl (by rw [hN2]; exact Int32.le_refl _) ?_
      refine r2_v rfl rfl ?_
      exact ⟨rfl, hF, hI⟩
/-! cheapest -/
abbrev knC (mk w : Int32) : Prop := (0 ≤ mk ∧ mk ≤ 300) ∧ (w = 0 ∨ w = 1)
def cheC (M R : xM) (np nr no j : Nat) (mk w : Int32) : Int32 := if ¬ cRR M j 0 = 0 then cRR M j 0 else if spOK (fun k => gI M (144 + 3 * j) k) (gI M (142 + 3 * j) 3).toNatClampNeg then cheV R np nr no (fun k => gI M (144 + 3 * j) k) (gI M (142 + 3 * j) 3).toNatClampNeg mk.toNatClampNeg w else -13
theorem nI_of3 {x : Int32} {n : Nat} (h : 0 ≤ x) (h2 : x ≤ nI n) (hn : n < 2147483648) : ∃ k, k ≤ n ∧ x = nI k := by
  have h3 := lI h2 hn
  have h1 : 0 ≤ x.toInt := by rw [Int32.le_iff_toInt_le] at h; exact h
  refine ⟨x.toInt.toNat, by omega, Int32.toInt_inj.mp ?_⟩
  rw [nI_ti (by omega)]
  omega
/-- what the sets' loop may change -/
def cFr (M M' : xM) : Prop := (∀ x k, ¬ (x = 28 ∧ (k = 5 ∨ k = 6)) → ¬ (k = 3 ∧ 43 ≤ x ∧ x < 55) → gI M' x k = gI M x k) ∧ (∀ x k, ¬ (x = 123 ∧ k = 5) → gJ M' x k = gJ M x k) ∧ ∀ x k, gP M' x k = gP M x k
theorem cFr_r {M : xM} : cFr M M := ⟨fun _ _ _ _ => rfl, fun _ _ _ => rfl, fun _ _ => rfl⟩
theorem cFr_t {M M' M2 : xM} (h : cFr M M') (h2 : cFr M' M2) : cFr M M2 := ⟨fun x k q r => (h2.1 x k q r).trans (h.1 x k q r), fun x k q => (h2.2.1 x k q).trans (h.2.1 x k q), fun x k => (h2.2.2 x k).trans (h.2.2 x k)⟩
theorem cFr_s {M M' : xM} (h : sFr M M') : cFr M M' := ⟨fun x k q _ => h.1 x k q, h.2.1, h.2.2⟩
theorem cFr_w {M M' : xM} (h : wFr M M') : cFr M M' := ⟨fun x k _ q => h.1 x k q, fun x k _ => h.2.1 x k, h.2.2⟩
theorem kFr_c {M M' : xM} (h : cFr M M') : kFr M M' := ⟨fun x k q => h.1 x k (by omega) (by omega), fun x k q => h.2.1 x k (by omega), fun x k _ => h.2.2 x k⟩
theorem oR_k {M M' R : xM} {nr no : Nat} (h : oR M 71 R 167 nr no) (f : kFr M M') : oR M' 71 R 167 nr no := ⟨h.1, ⟨(f.1 _ _ (by omega)).trans h.2.1.1, h.2.1.2⟩, fun k hk => ⟨⟨(f.1 _ _ (by omega)).trans (h.2.2 k hk).1.1, (f.1 _ _ (by omega)).trans (h.2.2 k hk).1.2.1, (f.1 _ _ (by omega)).trans (h.2.2 k hk).1.2.2⟩, (h.2.2 k hk).2⟩⟩
