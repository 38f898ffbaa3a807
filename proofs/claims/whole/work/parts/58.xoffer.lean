/-! ===== offers ===== -/
def oro (R : xM) (k : Nat) : Int32 := gI R 167 (155 + 3 * k)
def oM (R : xM) (k : Nat) : Int32 := gI R 167 (155 + 3 * k + 1)
def oP (R : xM) (k : Nat) : Int32 := gI R 167 (155 + 3 * k + 2)
def oR (C : xM) (a : Nat) (R : xM) (sa nr no : Nat) : Prop := no ≤ 8 ∧ (gI C a 3 = nI no ∧ gI R sa 1647 = nI no) ∧ ∀ k, k < no → (gI C (a + 1) k = gI R sa (155 + 3 * k) ∧ gI C (a + 2) k = gI R sa (155 + 3 * k + 1) ∧ gI C (a + 3) k = gI R sa (155 + 3 * k + 2)) ∧ (∃ q, q < nr ∧ gI R sa (155 + 3 * k) = nI q) ∧ nr3 1 99 (gI R sa (155 + 3 * k + 1)) ∧ nr3 1 999 (gI R sa (155 + 3 * k + 2))
def rsV (R : xM) : Nat → Int32
  | 0 => 0
  | k + 1 => rsV R k ||| (1 : Int32) <<< (oro R k &&& 31)
def prV (R : xM) (no s : Nat) : Int32 := iSum (fun k => if s.testBit k = true then oP R k else 0) no
def stM (a b : Int32) : Int32 := if 99 < a + b then 99 else a + b
def stF (R : xM) (s : Nat) : Nat → Nat → Int32
  | 0, q => rr R q 3
  | k + 1, q => if s.testBit k = true ∧ oro R k = nI q then stM (stF R s k q) (oM R k) else stF R s k q
def stR (R : xM) (nr : Nat) (f : Nat → Int32) : xM := (fun x k => if x = 167 ∧ 70 ≤ k ∧ (k - 70) % 6 = 3 ∧ (k - 70) / 6 < nr then f ((k - 70) / 6) else gI R x k, R.2.1, R.2.2)
def chR (R : xM) (nr no s : Nat) : xM := stR R nr (stF R s no)
def chF (P : Nat → Int32) (OK : Nat → Prop) [∀ s, Decidable (OK s)] : Nat → Int32 × Int32
  | 0 => (-4, -4)
  | s + 1 => if ¬ (chF P OK s).1 = -4 ∧ (chF P OK s).1 ≤ P s then chF P OK s else if OK s then (P s, nI s) else chF P OK s
def cheV (R : xM) (np nr no : Nat) (E : Nat → Int32) (z mo : Nat) (w : Int32) : Int32 := if w = 0 then (chF (prV R no) (fun s => enP (chR R nr no s) np nr E z mo) (2 ^ no)).1 else (chF (prV R no) (fun s => enP (chR R nr no s) np nr E z mo) (2 ^ no)).2
theorem xbd_or {a b : Int32} {i : Nat} (hi : i < 32) : xbd (a ||| b) i = (xbd a i || xbd b i) := by rw [xbd_bt _ hi, xbd_bt _ hi, xbd_bt _ hi, b_or]
theorem rsV_b {R : xM} {nr q : Nat} (hn : nr ≤ 12) (hq : q < nr) : ∀ {no : Nat}, (∀ k, k < no → ∃ q, q < nr ∧ oro R k = nI q) → xbd (rsV R no) q = false → ∀ i, i < no → ¬ oro R i = nI q
  | 0, _, _, i, hi => absurd hi (Nat.not_lt_zero _)
  | no + 1, h, hx, i, hi => by
    obtain ⟨p, hp, e⟩ := h no (Nat.lt_succ_self _)
    have hx2 : (xbd (rsV R no) q || xbd ((1 : Int32) <<< (oro R no &&& 31)) q) = false := (xbd_or (by omega)).symm.trans hx
    rw [e, xbd_1 (by omega) (by omega), Bool.or_eq_false_iff] at hx2
    by_cases c : i = no
    · subst c
      rw [e]
      intro w
      have w2 : p = q := by
        have := congrArg Int32.toNatClampNeg w
        rw [nI_cl (by omega), nI_cl (by omega)] at this
        exact this
      exact absurd w2.symm (of_decide_eq_false hx2.2)
    · exact rsV_b hn hq (fun k hk => h k (by omega)) hx2.1 i (by omega)
theorem stM_b {a b : Int32} (ha : nr3 1 99 a) (hb : nr3 1 99 b) : nr3 1 99 (stM a b) := by
  have e : (a + b).toInt = a.toInt + b.toInt := by
    have h1 := ha.1; have h2 := ha.2; have h3 := hb.1; have h4 := hb.2
    rw [Int32.toInt_add]
    exact Int.bmod_eq_of_le (by omega) (by omega)
  unfold stM
  by_cases c : 99 < a + b
  · rw [if_pos c]; exact ⟨by decide, by decide⟩
  · rw [if_neg c]
    rw [Int32.lt_iff_toInt_lt, e, show (99 : Int32).toInt = 99 by decide] at c
    have h1 := ha.1; have h3 := hb.1
    exact ⟨by omega, by omega⟩
theorem stF_b {R : xM} {s q : Nat} (h0 : nr3 1 99 (rr R q 3)) : ∀ {k : Nat}, (∀ i, i < k → nr3 1 99 (oM R i)) → nr3 1 99 (stF R s k q)
  | 0, _ => h0
  | k + 1, h => by
    unfold stF
    by_cases c : s.testBit k = true ∧ oro R k = nI q
    · rw [if_pos c]; exact stM_b (stF_b h0 (fun i hi => h i (by omega))) (h k (by omega))
    · rw [if_neg c]; exact stF_b h0 (fun i hi => h i (by omega))
theorem stF_u {R : xM} {s q : Nat} : ∀ {k : Nat}, (∀ i, i < k → ¬ oro R i = nI q) → stF R s k q = rr R q 3
  | 0, _ => rfl
  | k + 1, h => by
    unfold stF
    rw [if_neg (fun c => h k (by omega) c.2)]
    exact stF_u (fun i hi => h i (by omega))
theorem st_g {R : xM} {nr : Nat} {f : Nat → Int32} {x k : Nat} : gI (stR R nr f) x k = if x = 167 ∧ 70 ≤ k ∧ (k - 70) % 6 = 3 ∧ (k - 70) / 6 < nr then f ((k - 70) / 6) else gI R x k := rfl
theorem st_o {R : xM} {nr : Nat} {f : Nat → Int32} {k : Nat} (h : ¬ (70 ≤ k ∧ (k - 70) % 6 = 3 ∧ (k - 70) / 6 < nr)) : gI (stR R nr f) 167 k = gI R 167 k := by rw [st_g, if_neg (fun q => h q.2)]
theorem st_i {R : xM} {nr : Nat} {f : Nat → Int32} {q : Nat} (h : q < nr) : gI (stR R nr f) 167 (70 + 6 * q + 3) = f q := by
  rw [st_g, if_pos ⟨rfl, by omega, by omega, by omega⟩, show (70 + 6 * q + 3 - 70) / 6 = q by omega]
theorem mR_st {C C' R : xM} {m np nr ng : Nat} {f : Nat → Int32} (h : mR C m R 167 np nr ng) (hf : ∀ q, q < nr → nr3 1 99 (f q)) (hC : ∀ x k, ¬ (k = 3 ∧ m + 15 ≤ x ∧ x < m + 27) → gI C' x k = gI C x k) (h2 : ∀ q, q < nr → gI C' (m + 15 + q) 3 = f q) : mR C' m (stR R nr f) 167 np nr ng := by
  obtain ⟨a0, a1, a2, a3, a4, a5, a6, a7, a8, a9, a10⟩ := h
  have hn := a0.1
  have hr := a0.2.1
  refine ⟨a0, ⟨(hC _ _ (by omega)).trans a1.1, (st_o (by omega)).trans a1.2⟩, ⟨(hC _ _ (by omega)).trans a2.1, (st_o (by omega)).trans a2.2⟩, ⟨(hC _ _ (by omega)).trans a3.1, (st_o (by omega)).trans a3.2⟩, ⟨?_, ?_⟩, ⟨?_, ?_⟩, ⟨?_, ?_⟩, fun j hj => ⟨?_, ?_⟩, fun j hj => ⟨?_, ?_⟩, fun p hp => ?_, fun r hr2 => ?_⟩
  · rw [hC _ _ (by omega), st_o (by omega)]; exact a4.1
  · rw [st_o (by omega)]; exact a4.2
  · rw [hC _ _ (by omega), st_o (by omega)]; exact a5.1
  · rw [st_o (by omega)]; exact a5.2
  · rw [hC _ _ (by omega), st_o (by omega)]; exact a6.1
  · rw [st_o (by omega)]; exact a6.2
  · rw [hC _ _ (by omega), st_o (by omega)]; exact (a7 j hj).1
  · rw [st_o (by omega)]; exact (a7 j hj).2
  · rw [hC _ _ (by omega), st_o (by omega)]; exact (a8 j hj).1
  · rw [st_o (by omega)]; exact (a8 j hj).2
  · refine ⟨⟨(hC _ _ (by omega)).trans (a9 p hp).1.1, fun j hj => ?_⟩, pB_c (fun j hj => st_o (by omega)) (a9 p hp).2⟩
    rw [hC _ _ (by omega), st_o (by omega)]
    exact (a9 p hp).1.2 j hj
  · obtain ⟨⟨b1, b2⟩, b3⟩ := a10 r hr2
    have b3' := b3
    obtain ⟨⟨hh, h1, h22⟩, b4, b5, b6, b7, b8⟩ := b3'
    have z0 : gI (stR R nr f) 167 (70 + 6 * r) = gI R 167 (70 + 6 * r) := st_o (by omega)
    have z2 : gI (stR R nr f) 167 (70 + 6 * r + 2) = gI R 167 (70 + 6 * r + 2) := st_o (by omega)
    refine ⟨⟨fun j hj => ?_, ?_⟩, ⟨hh, h1, z0.trans h22⟩, ?_, ?_, ?_, ?_, ?_⟩
    · by_cases c : j = 3
      · subst c; rw [h2 r hr2, st_i hr2]
      · rw [hC _ _ (by omega), st_o (by omega)]; exact b1 j hj
    · rw [hC _ _ (by omega), b2]; exact (aA_c h22 (by omega) z0 z2 (st_o (by omega))).symm
    · rw [st_o (by omega)]; exact b4
    · rw [st_o (by omega)]; exact b5
    · rw [st_i hr2]; exact hf r hr2
    · rw [st_o (by omega)]; exact b7
    · rw [st_o (by omega)]; exact b8
set_option maxRecDepth 4000 in
theorem e_ropeSet {κ : xKK} {d : Nat} {M : xM} {nr no : Nat} {R : xM} (ho : oR M 71 R 167 nr no) (hr2 : nr ≤ 12) : xE2 κ mX2_ropeSet d [.ref 71] M (fun v M' => v = some (.int (rsV R no)) ∧ M' = M) := by
  refine xE2_of ci_X2_ropeSet cl_X2_ropeSet cw_X2_ropeSet rfl (L := [some (.ref 71), none, none]) rfl ?_
  have ho1 := ho.2.1.1
  have ho8 := ho.1
  refine xG_run 4 rfl (by repeat' (first | exact trivial | assumption | exact xob_b rfl | exact xal_b rfl | (apply And.intro) | decide)) ?_
  try dsimp only [xsto1, xsto2, xkill, xget, xset, gd_0, gd_s]
  refine xG_up (fun k => (4, [some (.ref 71), some (.int (rsV R k)), some (.int (nI k))], [], M, z2)) no ?_ ?_ 0 (Nat.zero_le _)
  · intro k hk ih
    have hk1 : (nI k).toNatClampNeg = k := nI_cl (by omega)
    have hs : xar 72 0 182 (nI k) := xar_n rfl 8 rfl (by omega) (by omega)
    have hro : gI M 72 (nI k).toNatClampNeg = oro R k := by rw [hk1]; exact (ho.2.2 k hk).1.1
    refine xG_run 3 rfl (by repeat' (first | exact trivial | assumption | exact xob_b rfl | exact xal_b rfl | (apply And.intro) | decide)) ?_
    try dsimp only [xsto1, xsto2, xkill, xget, xset, gd_0, gd_s]
    try rw [hro]
    refine xG_brF rfl (by rw [ho1]; exact nI_ge hk (by omega)) ?_
    refine xG_run 8 rfl (by repeat' (first | exact trivial | assumption | exact xob_b rfl | exact xal_b rfl | (apply And.intro) | decide)) ?_
    try dsimp only [xsto1, xsto2, xkill, xget, xset, gd_0, gd_s]
    try rw [hro]
    refine xG_run 3 rfl (by repeat' (first | exact trivial | assumption | exact xob_b rfl | exact xal_b rfl | (apply And.intro) | decide)) ?_
    try dsimp only [xsto1, xsto2, xkill, xget, xset, gd_0, gd_s]
    try rw [hro]
    rw [nI_1]
    exact ih
  · refine xG_run 3 rfl (by repeat' (first | exact trivial | assumption | exact xob_b rfl | exact xal_b rfl | (apply And.intro) | decide)) ?_
    try dsimp only [xsto1, xsto2, xkill, xget, xset, gd_0, gd_s]
    refine xG_brT rfl (by rw [ho1]; exact Int32.le_refl _) ?_
    refine xG_run 1 rfl (by repeat' (first | exact trivial | assumption | exact xob_b rfl | exact xal_b rfl | (apply And.intro) | decide)) ?_
    try dsimp only [xsto1, xsto2, xkill, xget, xset, gd_0, gd_s]
    refine r2_i rfl rfl ?_
    exact ⟨rfl, rfl⟩
set_option maxRecDepth 4000 in
theorem e_priceOf {κ : xKK} {d : Nat} {M : xM} {nr no : Nat} {R : xM} (ho : oR M 71 R 167 nr no) (hr2 : nr ≤ 12) {s : Nat} : xE2 κ mX2_priceOf d [.ref 71, .int (nI s)] M (fun v M' => v = some (.int (prV R no s)) ∧ M' = M) := by
  refine xE2_of ci_X2_priceOf cl_X2_priceOf cw_X2_priceOf rfl (L := [some (.ref 71), some (.int (nI s)), none, none]) rfl ?_
  have ho1 := ho.2.1.1
  have ho8 := ho.1
  refine xG_run 4 rfl (by repeat' (first | exact trivial | assumption | exact xob_b rfl | exact xal_b rfl | (apply And.intro) | decide)) ?_
  try dsimp only [xsto1, xsto2, xkill, xget, xset, gd_0, gd_s]
  refine xG_up (fun k => (4, [some (.ref 71), some (.int (nI s)), some (.int (prV R k s)), some (.int (nI k))], [], M, z2)) no ?_ ?_ 0 (Nat.zero_le _)
  · intro k hk ih
    have hk1 : (nI k).toNatClampNeg = k := nI_cl (by omega)
    have hs : xar 74 0 182 (nI k) := xar_n rfl 8 rfl (by omega) (by omega)
    have hro : gI M 74 (nI k).toNatClampNeg = oP R k := by rw [hk1]; exact (ho.2.2 k hk).1.2.2
    have hbt := xbd_nI (S := s) (i := k) (by omega)
    refine xG_run 3 rfl (by repeat' (first | exact trivial | assumption | exact xob_b rfl | exact xal_b rfl | (apply And.intro) | decide)) ?_
    try dsimp only [xsto1, xsto2, xkill, xget, xset, gd_0, gd_s]
    try rw [hro]
    refine xG_brF rfl (by rw [ho1]; exact nI_ge hk (by omega)) ?_
    refine xG_run 7 rfl (by repeat' (first | exact trivial | assumption | exact xob_b rfl | exact xal_b rfl | (apply And.intro) | decide)) ?_
    try dsimp only [xsto1, xsto2, xkill, xget, xset, gd_0, gd_s]
    try rw [hro]
    refine xG_br rfl (fun h19 => ?_) (fun h19 => ?_)
    · refine xG_run 5 rfl (by repeat' (first | exact trivial | assumption | exact xob_b rfl | exact xal_b rfl | (apply And.intro) | decide)) ?_
      try dsimp only [xsto1, xsto2, xkill, xget, xset, gd_0, gd_s]
      try rw [hro]
      rw [nI_1]
      first
        | (have c : s.testBit k = true := hbt.mp (Decidable.not_not.mp h19)
           rw [show prV R k s + oP R k = prV R (k + 1) s from iSum_s (if_pos c)]
           exact ih)
        | (have c : ¬ s.testBit k = true := fun q => h19 (hbt.mpr q)
           rw [show prV R k s + 0 = prV R (k + 1) s from iSum_s (if_neg c)]
           exact ih)
    · refine xG_run 8 rfl (by repeat' (first | exact trivial | assumption | exact xob_b rfl | exact xal_b rfl | (apply And.intro) | decide)) ?_
      try dsimp only [xsto1, xsto2, xkill, xget, xset, gd_0, gd_s]
      try rw [hro]
      refine xG_run 1 rfl (by repeat' (first | exact trivial | assumption | exact xob_b rfl | exact xal_b rfl | (apply And.intro) | decide)) ?_
      try dsimp only [xsto1, xsto2, xkill, xget, xset, gd_0, gd_s]
      try rw [hro]
      rw [nI_1]
      first
        | (have c : s.testBit k = true := hbt.mp (Decidable.not_not.mp h19)
           rw [show prV R k s + oP R k = prV R (k + 1) s from iSum_s (if_pos c)]
           exact ih)
        | (have c : ¬ s.testBit k = true := fun q => h19 (hbt.mpr q)
           rw [show prV R k s + 0 = prV R (k + 1) s from iSum_s (if_neg c)]
           exact ih)
  · refine xG_run 3 rfl (by repeat' (first | exact trivial | assumption | exact xob_b rfl | exact xal_b rfl | (apply And.intro) | decide)) ?_
    try dsimp only [xsto1, xsto2, xkill, xget, xset, gd_0, gd_s]
    refine xG_brT rfl (by rw [ho1]; exact Int32.le_refl _) ?_
    refine xG_run 1 rfl (by repeat' (first | exact trivial | assumption | exact xob_b rfl | exact xal_b rfl | (apply And.intro) | decide)) ?_
    try dsimp only [xsto1, xsto2, xkill, xget, xset, gd_0, gd_s]
    refine r2_i rfl rfl ?_
    exact ⟨rfl, rfl⟩
