/-! Int32 by its bits (of the given laws) -/
def bt (x : Int32) (i : Nat) : Bool := x.toBitVec.getLsbD i
theorem b_ext {x y : Int32} (h : ∀ i, i < 32 → bt x i = bt y i) : x = y := Int32.toBitVec_inj.mp (BitVec.eq_of_getLsbD_eq (fun i hi => h i hi))
theorem b_or (x y : Int32) (i : Nat) : bt (x ||| y) i = (bt x i || bt y i) := by unfold bt; rw [Int32.toBitVec_or, BitVec.getLsbD_or]
theorem b_and (x y : Int32) (i : Nat) : bt (x &&& y) i = (bt x i && bt y i) := by unfold bt; rw [Int32.toBitVec_and, BitVec.getLsbD_and]
theorem b_xor (x y : Int32) (i : Nat) : bt (x ^^^ y) i = (bt x i ^^ bt y i) := by unfold bt; rw [Int32.toBitVec_xor, BitVec.getLsbD_xor]
theorem b_big {x : Int32} {i : Nat} (h : 32 ≤ i) : bt x i = false := BitVec.getLsbD_of_ge _ _ h
theorem b_255 (i : Nat) : bt 255 i = decide (i < 8) := by
  rcases Nat.lt_or_ge i 32 with h | h
  · exact (by decide +kernel : ∀ i, i < 32 → bt 255 i = decide (i < 8)) i h
  · rw [b_big h, decide_eq_false (by omega)]
theorem b_65535 (i : Nat) : bt 65535 i = decide (i < 16) := by
  rcases Nat.lt_or_ge i 32 with h | h
  · exact (by decide +kernel : ∀ i, i < 32 → bt 65535 i = decide (i < 16)) i h
  · rw [b_big h, decide_eq_false (by omega)]
theorem b_m1 : ∀ i, i < 32 → bt (-1) i = true := by decide +kernel
theorem b_0 (i : Nat) : bt 0 i = false := BitVec.getLsbD_zero
theorem s_l : ∀ n, n < 32 → ((nI n &&& 31).toBitVec.smod 32).toNat = n := by decide +kernel
theorem s_u : ∀ n, n < 32 → (((nI n).toUInt32 &&& Int32.toUInt32 31).toBitVec % 32).toNat = n := by decide +kernel
theorem b_shl (n : Nat) (hn : n < 32) (x : Int32) {i : Nat} (hi : i < 32) : bt (x <<< (nI n &&& 31)) i = (decide (n ≤ i) && bt x (i - n)) := by
  unfold bt
  rw [Int32.toBitVec_shiftLeft]
  show (x.toBitVec <<< ((nI n &&& 31).toBitVec.smod 32).toNat).getLsbD i = _
  rw [s_l n hn, BitVec.getLsbD_shiftLeft]
  rcases Nat.lt_or_ge i n with h | h
  · simp [h, Nat.not_le.mpr h]
  · simp [hi, h, Nat.not_lt.mpr h]
theorem b_ushr (n : Nat) (hn : n < 32) (x : Int32) (i : Nat) : bt ((x.toUInt32 >>> ((nI n).toUInt32 &&& Int32.toUInt32 31)).toInt32) i = bt x (n + i) := by
  show (x.toUInt32 >>> ((nI n).toUInt32 &&& Int32.toUInt32 31)).toBitVec.getLsbD i = x.toUInt32.toBitVec.getLsbD (n + i)
  rw [UInt32.toBitVec_shiftRight]
  show (x.toUInt32.toBitVec >>> (((nI n).toUInt32 &&& Int32.toUInt32 31).toBitVec % 32).toNat).getLsbD i = _
  rw [s_u n hn, BitVec.getLsbD_ushiftRight]
theorem b_sshr (n : Nat) (hn : n < 32) (x : Int32) {i : Nat} (hi : i < 32) : bt (x >>> (nI n &&& 31)) i = if n + i < 32 then bt x (n + i) else bt x 31 := by
  unfold bt
  rw [Int32.toBitVec_shiftRight]
  show (x.toBitVec.sshiftRight ((nI n &&& 31).toBitVec.smod 32).toNat).getLsbD i = _
  rw [s_l n hn, BitVec.getLsbD_sshiftRight, BitVec.msb_eq_getLsbD_last]
  simp [hi]
theorem b_1 : ∀ j, j < 32 → bt 1 j = decide (j = 0) := by decide +kernel
theorem xbd_bt (S : Int32) {i : Nat} (hi : i < 32) : xbd S i = bt S i := by
  have hb := b_sshr i hi S (i := 0) (by omega)
  rw [Nat.add_zero, if_pos hi] at hb
  unfold xbd
  rw [← hb]
  generalize S >>> (nI i &&& 31) = y
  cases hy : bt y 0 with
  | true =>
    refine decide_eq_true (b_ext (fun j hj => ?_))
    rw [b_and, b_1 j hj]
    by_cases e : j = 0
    · subst e; rw [hy]; rfl
    · rw [decide_eq_false e, Bool.and_false]
  | false =>
    refine decide_eq_false (fun q => ?_)
    have h1 : bt (y &&& 1) 0 = bt 1 0 := by rw [q]
    rw [b_and, hy, b_1 0 (by omega)] at h1
    cases h1
theorem xbd_not (S : Int32) {i : Nat} (hi : i < 32) : xbd (S ^^^ (-1)) i = !(xbd S i) := by
  rw [xbd_bt _ hi, xbd_bt _ hi, b_xor, b_m1 i hi, Bool.xor_true]
theorem xbd_m1 {i : Nat} (hi : i < 32) : xbd (-1) i = true := by rw [xbd_bt _ hi, b_m1 i hi]
theorem xbd_0 {i : Nat} (hi : i < 32) : xbd 0 i = false := by rw [xbd_bt _ hi, b_0]
/-- what a balance may change -/
def bFr (M M' : xM) : Prop := (∀ a k, a ≠ 123 → gI M' a k = gI M a k) ∧ (∀ a k, a ≠ 124 → ¬ (a = 123 ∧ k = 5) → gJ M' a k = gJ M a k) ∧ (∀ a k, a ≠ 125 → a ≠ 126 → gP M' a k = gP M a k)
/-- what is settled at l: all but the sets, and the foot -/
def bSet (M : xM) (m np nr : Nat) (S S2 l : Int32) : Int64 := lAcc (lSum (fun i => if xbd S i = true then 0 else cTp M l (m + 5 + i)) np) (fun i => if xbd S2 i = true then 0 else cTr M l (m + 15 + i)) nr - (gI M m 4 * l).toInt64
theorem cW_eq {M M' : xM} {a : Nat} (h : ∀ k, gI M' a k = gI M a k) : cW M' a = cW M a := by unfold cW; simp only [h]
theorem cF_eq {M M' : xM} {a : Nat} (h : ∀ k, gI M' a k = gI M a k) : cF M' a = cF M a := by unfold cF; simp only [h]
theorem cP_eq {M M' : xM} {a : Nat} {l : Int32} (h : ∀ k, gI M' a k = gI M a k) : cP M' a l = cP M a l := by unfold cP; simp only [h]
theorem cTp_eq {M M' : xM} {a : Nat} {l : Int32} (h : ∀ k, gI M' a k = gI M a k) : cTp M' l a = cTp M l a := by unfold cTp; rw [cW_eq h, h]
theorem cTr_eq {M M' : xM} {a : Nat} {l : Int32} (h : ∀ k, gI M' a k = gI M a k) : cTr M' l a = cTr M l a := by unfold cTr; rw [cP_eq h, h, h]
theorem cSh_eq {M M' : xM} {m a : Nat} (h : ∀ k, gI M' a k = gI M a k) : cSh M' m a = cSh M m a := by unfold cSh; simp only [h]
theorem cPu_eq {M M' : xM} {m a : Nat} (h : ∀ k, gI M' a k = gI M a k) (h2 : ∀ k, gI M' m k = gI M m k) (h3 : ∀ k, gI M' (m + 3) k = gI M (m + 3) k) : cPu M' m a = cPu M m a := by
  unfold cPu cV; rw [cSh_eq h, cF_eq h, h2, h2, h3]
theorem bMom_eq {M M1 : xM} {m np nr c e : Nat} {pl rl : Nat → Nat} {S S2 l : Int32} (hm : m + 26 < 123) (hn : np ≤ 10) (hr : nr ≤ 12) (hF : ∀ a k, a ≠ 123 → gI M1 a k = gI M a k)
    (hs : ∀ T : Nat → Int64, lSum (fun k => T (pl k)) c = lSum (fun i => if xbd (S ^^^ (-1)) i = true then T i else 0) np) (ht : ∀ T : Nat → Int64, lSum (fun k => T (rl k)) e = lSum (fun i => if xbd (S2 ^^^ (-1)) i = true then T i else 0) nr) :
    cMom M1 m pl rl c e l - (gI M1 m 4 * l).toInt64 = bSet M m np nr S S2 l := by
  unfold cMom bSet
  rw [lAcc_eq, lAcc_eq, hs (fun i => cTp M1 l (m + 5 + i)), ht (fun i => cTr M1 l (m + 15 + i)), hF m 4 (by omega)]
  congr 2
  · refine lSum_cong (fun i hi => ?_)
    rw [xbd_not S (by omega), cTp_eq (fun k => hF _ k (by omega))]
    cases xbd S i <;> rfl
  · refine lSum_cong (fun i hi => ?_)
    rw [xbd_not S2 (by omega), cTr_eq (fun k => hF _ k (by omega))]
    cases xbd S2 i <;> rfl
set_option maxRecDepth 4000 in
theorem e_load1 {κ : xKK} {d : Nat} {M : xM} {np nr : Nat} {S S2 : Int32} (hn : gI M 1 1 = nI np) (hn2 : np ≤ 10) (hr : gI M 1 3 = nI nr) (hr2 : nr ≤ 12) (hsh : ∀ i, i < np → 0 ≤ (cSh M 1 (6 + i)).toInt ∧ (cSh M 1 (6 + i)).toInt < 5) (hd : 4 ≤ d) : xE2 κ mX0_load d [.ref 123, .ref 1, .int S, .int S2] M (fun v M' => ∃ (pl rl : Nat → Nat) (c e : Nat), v = none ∧ Gath M' 1 pl rl c e ∧ (∀ j, j < c → pl j < np) ∧ (∀ j, j < e → rl j < nr) ∧ (∀ T : Nat → Int64, lSum (fun k => T (pl k)) c = lSum (fun i => if xbd S i = true then T i else 0) np) ∧ (∀ T : Nat → Int64, lSum (fun k => T (rl k)) e = lSum (fun i => if xbd S2 i = true then T i else 0) nr) ∧ bFr M M' ∧ gJ M' 123 5 = lSum (fun i => cPu M 1 (6 + i) * (gI M (6 + i) 2).toInt64) np ∧ ∀ t, t ≤ 600 → gJ M' 124 t = bSet M 1 np nr S S2 (nI t + (-300))) := by
  refine xE2_of ci_X0_load cl_X0_load cw_X0_load rfl (L := [some (.ref 123), some (.ref 1), some (.int S), some (.int S2), none]) rfl ?_
  refine xG_run 8 rfl (by repeat' (first | exact trivial | assumption | exact xob_b rfl | exact xal_b rfl | (apply And.intro) | decide)) ?_
  refine xG_c2 3 rfl (by repeat' (first | exact trivial | assumption | exact xob_b rfl | exact xal_b rfl | (apply And.intro) | decide)) rfl rfl (by decide) cw_X0_gather (d' := d - 1) (e_gather1 hn hn2 hr hr2) (by omega) ?_
  rintro v M1 ⟨rfl, hF, pl, rl, c, e, hg, hpl, hrl, hs, ht⟩
  dsimp only [Option.toList, List.cons_append, List.nil_append]
  refine xG_run 2 rfl (by repeat' (first | exact trivial | assumption | exact xob_b rfl | exact xal_b rfl | (apply And.intro) | decide)) ?_
  refine xG_upP (fun t X => ∃ J : Nat → Nat → Int64, X = (16, [some (.ref 123), some (.ref 1), some (.int S), some (.int S2), some (.int (nI t + (-300)))], [], (M1.1, J, M1.2.2), z2) ∧ (∀ k, k < t → J 124 k = cMom M1 1 pl rl c e (nI k + (-300)) - (gI M1 1 4 * (nI k + (-300))).toInt64) ∧ ∀ a k, a ≠ 124 → J a k = gJ M1 a k) 601 ?_ ?_ 0 (Nat.zero_le _) _ ⟨M1.2.1, rfl, fun k h => absurd h (by omega), fun _ _ _ => rfl⟩
  · rintro t X ht6 ⟨J, rfl, hJ, hJ2⟩ ih
    have hg2 : Gath (M1.1, J, M1.2.2) 1 pl rl c e := hg
    have h33 := n3_3 (t := t) (by omega)
    have hx : xar 124 1 182 (nI t + (-300) + 300) := by rw [n3_2]; exact xar_n rfl 601 rfl (by omega) (by omega)
    refine xG_run 2 rfl (by repeat' (first | exact trivial | assumption | exact xob_b rfl | exact xal_b rfl | (apply And.intro) | decide)) ?_
    refine xG_brF rfl (i_nlt (n3_le (by omega))) ?_
    refine xG_run 7 rfl (by repeat' (first | exact trivial | assumption | exact xob_b rfl | exact xal_b rfl | (apply And.intro) | decide)) ?_
    refine xG_c2 1 rfl (by repeat' (first | exact trivial | assumption | exact xob_b rfl | exact xal_b rfl | (apply And.intro) | decide)) rfl rfl (by decide) cw_X0_moment (d' := d - 1) (e_moment1 hg2 (by omega)) (by omega) ?_
    rintro v M' ⟨rfl, hM⟩
    subst M'
    dsimp only [Option.toList, List.cons_append, List.nil_append]
    refine xG_run 9 rfl (by repeat' (first | exact trivial | assumption | exact xob_b rfl | exact xal_b rfl | (apply And.intro) | decide)) ?_
    rw [n3_2, nI_cl (by omega), n3_1]
    refine ih _ ⟨_, rfl, fun k hk => ?_, fun a k ha => ?_⟩
    · show gJ (sJ (M1.1, J, M1.2.2) 124 t _) 124 k = _
      rw [gJsJ]
      by_cases e9 : k = t
      · subst e9; rw [if_pos ⟨rfl, rfl⟩]; rfl
      · rw [if_neg (fun q => e9 q.2)]; exact hJ k (by omega)
    · show gJ (sJ (M1.1, J, M1.2.2) 124 t _) a k = _
      rw [gJsJ, if_neg (fun q => ha q.1)]; exact hJ2 a k ha
  · rintro X ⟨J, rfl, hJ, hJ2⟩
    have hF2 : ∀ a k, a ≠ 123 → gI (M1.1, J, M1.2.2) a k = gI M a k := hF.1
    refine xG_run 2 rfl (by repeat' (first | exact trivial | assumption | exact xob_b rfl | exact xal_b rfl | (apply And.intro) | decide)) ?_
    refine xG_brT rfl (by decide) ?_
    refine xG_run 4 rfl (by repeat' (first | exact trivial | assumption | exact xob_b rfl | exact xal_b rfl | (apply And.intro) | decide)) ?_
    refine xG_c2 3 rfl (by repeat' (first | exact trivial | assumption | exact xob_b rfl | exact xal_b rfl | (apply And.intro) | decide)) rfl rfl (by decide) cw_X0_gather (d' := d - 1) (e_gather1 (S := S) (S2 := S2) ((hF2 _ _ (by decide)).trans hn) hn2 ((hF2 _ _ (by decide)).trans hr) hr2) (by omega) ?_
    rintro v M2 ⟨rfl, hF3, pl2, rl2, c2, e2, hg3, hpl2, hrl2, hs2, ht2⟩
    dsimp only [Option.toList, List.cons_append, List.nil_append]
    have hF4 : ∀ a k, a ≠ 123 → gI M2 a k = gI M a k := fun a k h => (hF3.1 a k h).trans (hF2 a k h)
    refine xG_run 2 rfl (by repeat' (first | exact trivial | assumption | exact xob_b rfl | exact xal_b rfl | (apply And.intro) | decide)) ?_
    refine xG_c2 0 rfl (by repeat' (first | exact trivial | assumption | exact xob_b rfl | exact xal_b rfl | (apply And.intro) | decide)) rfl rfl (by decide) cw_X1_pushMoment (d' := d - 1) (e_pushMoment1 (np := np) ((hF4 _ _ (by decide)).trans hn) hn2 (fun i hi => by rw [cSh_eq (fun k => hF4 _ k (by omega))]; exact hsh i hi) (by omega)) (by omega) ?_
    rintro v M' ⟨rfl, hM⟩
    subst M'
    dsimp only [Option.toList, List.cons_append, List.nil_append]
    refine xG_run 1 rfl (by repeat' (first | exact trivial | assumption | exact xob_b rfl | exact xal_b rfl | (apply And.intro) | decide)) ?_
    refine r2_v rfl rfl ?_
    refine ⟨pl2, rl2, c2, e2, rfl, hg3, hpl2, hrl2, hs2, ht2, ⟨hF4, fun a k h1 h2 => ?_, fun a k h1 h2 => (hF3.2.2 a k h1 h2).trans (hF.2.2 a k h1 h2)⟩, ?_, fun t ht6 => ?_⟩
    · rw [gJsJ, if_neg h2, hF3.2.1]
      exact (hJ2 a k h1).trans (hF.2.1 a k)
    · rw [gJ_self]
      refine lSum_cong (fun i hi => ?_)
      rw [cPu_eq (fun k => hF4 _ k (by omega)) (fun k => hF4 _ k (by decide)) (fun k => hF4 _ k (by decide)), hF4 _ _ (by omega)]
    · rw [gJsJ, if_neg (by omega), hF3.2.1]
      exact (hJ t (by omega)).trans (bMom_eq (by omega) hn2 hr2 hF.1 hs ht)
set_option maxRecDepth 4000 in
theorem e_load28 {κ : xKK} {d : Nat} {M : xM} {np nr : Nat} {S S2 : Int32} (hn : gI M 28 1 = nI np) (hn2 : np ≤ 10) (hr : gI M 28 3 = nI nr) (hr2 : nr ≤ 12) (hsh : ∀ i, i < np → 0 ≤ (cSh M 28 (33 + i)).toInt ∧ (cSh M 28 (33 + i)).toInt < 5) (hd : 4 ≤ d) : xE2 κ mX0_load d [.ref 123, .ref 28, .int S, .int S2] M (fun v M' => ∃ (pl rl : Nat → Nat) (c e : Nat), v = none ∧ Gath M' 28 pl rl c e ∧ (∀ j, j < c → pl j < np) ∧ (∀ j, j < e → rl j < nr) ∧ (∀ T : Nat → Int64, lSum (fun k => T (pl k)) c = lSum (fun i => if xbd S i = true then T i else 0) np) ∧ (∀ T : Nat → Int64, lSum (fun k => T (rl k)) e = lSum (fun i => if xbd S2 i = true then T i else 0) nr) ∧ bFr M M' ∧ gJ M' 123 5 = lSum (fun i => cPu M 28 (33 + i) * (gI M (33 + i) 2).toInt64) np ∧ ∀ t, t ≤ 600 → gJ M' 124 t = bSet M 28 np nr S S2 (nI t + (-300))) := by
  refine xE2_of ci_X0_load cl_X0_load cw_X0_load rfl (L := [some (.ref 123), some (.ref 28), some (.int S), some (.int S2), none]) rfl ?_
  refine xG_run 8 rfl (by repeat' (first | exact trivial | assumption | exact xob_b rfl | exact xal_b rfl | (apply And.intro) | decide)) ?_
  refine xG_c2 3 rfl (by repeat' (first | exact trivial | assumption | exact xob_b rfl | exact xal_b rfl | (apply And.intro) | decide)) rfl rfl (by decide) cw_X0_gather (d' := d - 1) (e_gather28 hn hn2 hr hr2) (by omega) ?_
  rintro v M1 ⟨rfl, hF, pl, rl, c, e, hg, hpl, hrl, hs, ht⟩
  dsimp only [Option.toList, List.cons_append, List.nil_append]
  refine xG_run 2 rfl (by repeat' (first | exact trivial | assumption | exact xob_b rfl | exact xal_b rfl | (apply And.intro) | decide)) ?_
  refine xG_upP (fun t X => ∃ J : Nat → Nat → Int64, X = (16, [some (.ref 123), some (.ref 28), some (.int S), some (.int S2), some (.int (nI t + (-300)))], [], (M1.1, J, M1.2.2), z2) ∧ (∀ k, k < t → J 124 k = cMom M1 28 pl rl c e (nI k + (-300)) - (gI M1 28 4 * (nI k + (-300))).toInt64) ∧ ∀ a k, a ≠ 124 → J a k = gJ M1 a k) 601 ?_ ?_ 0 (Nat.zero_le _) _ ⟨M1.2.1, rfl, fun k h => absurd h (by omega), fun _ _ _ => rfl⟩
  · rintro t X ht6 ⟨J, rfl, hJ, hJ2⟩ ih
    have hg2 : Gath (M1.1, J, M1.2.2) 28 pl rl c e := hg
    have h33 := n3_3 (t := t) (by omega)
    have hx : xar 124 1 182 (nI t + (-300) + 300) := by rw [n3_2]; exact xar_n rfl 601 rfl (by omega) (by omega)
    refine xG_run 2 rfl (by repeat' (first | exact trivial | assumption | exact xob_b rfl | exact xal_b rfl | (apply And.intro) | decide)) ?_
    refine xG_brF rfl (i_nlt (n3_le (by omega))) ?_
    refine xG_run 7 rfl (by repeat' (first | exact trivial | assumption | exact xob_b rfl | exact xal_b rfl | (apply And.intro) | decide)) ?_
    refine xG_c2 1 rfl (by repeat' (first | exact trivial | assumption | exact xob_b rfl | exact xal_b rfl | (apply And.intro) | decide)) rfl rfl (by decide) cw_X0_moment (d' := d - 1) (e_moment28 hg2 (by omega)) (by omega) ?_
    rintro v M' ⟨rfl, hM⟩
    subst M'
    dsimp only [Option.toList, List.cons_append, List.nil_append]
    refine xG_run 9 rfl (by repeat' (first | exact trivial | assumption | exact xob_b rfl | exact xal_b rfl | (apply And.intro) | decide)) ?_
    rw [n3_2, nI_cl (by omega), n3_1]
    refine ih _ ⟨_, rfl, fun k hk => ?_, fun a k ha => ?_⟩
    · show gJ (sJ (M1.1, J, M1.2.2) 124 t _) 124 k = _
      rw [gJsJ]
      by_cases e9 : k = t
      · subst e9; rw [if_pos ⟨rfl, rfl⟩]; rfl
      · rw [if_neg (fun q => e9 q.2)]; exact hJ k (by omega)
    · show gJ (sJ (M1.1, J, M1.2.2) 124 t _) a k = _
      rw [gJsJ, if_neg (fun q => ha q.1)]; exact hJ2 a k ha
  · rintro X ⟨J, rfl, hJ, hJ2⟩
    have hF2 : ∀ a k, a ≠ 123 → gI (M1.1, J, M1.2.2) a k = gI M a k := hF.1
    refine xG_run 2 rfl (by repeat' (first | exact trivial | assumption | exact xob_b rfl | exact xal_b rfl | (apply And.intro) | decide)) ?_
    refine xG_brT rfl (by decide) ?_
    refine xG_run 4 rfl (by repeat' (first | exact trivial | assumption | exact xob_b rfl | exact xal_b rfl | (apply And.intro) | decide)) ?_
    refine xG_c2 3 rfl (by repeat' (first | exact trivial | assumption | exact xob_b rfl | exact xal_b rfl | (apply And.intro) | decide)) rfl rfl (by decide) cw_X0_gather (d' := d - 1) (e_gather28 (S := S) (S2 := S2) ((hF2 _ _ (by decide)).trans hn) hn2 ((hF2 _ _ (by decide)).trans hr) hr2) (by omega) ?_
    rintro v M2 ⟨rfl, hF3, pl2, rl2, c2, e2, hg3, hpl2, hrl2, hs2, ht2⟩
    dsimp only [Option.toList, List.cons_append, List.nil_append]
    have hF4 : ∀ a k, a ≠ 123 → gI M2 a k = gI M a k := fun a k h => (hF3.1 a k h).trans (hF2 a k h)
    refine xG_run 2 rfl (by repeat' (first | exact trivial | assumption | exact xob_b rfl | exact xal_b rfl | (apply And.intro) | decide)) ?_
    refine xG_c2 0 rfl (by repeat' (first | exact trivial | assumption | exact xob_b rfl | exact xal_b rfl | (apply And.intro) | decide)) rfl rfl (by decide) cw_X1_pushMoment (d' := d - 1) (e_pushMoment28 (np := np) ((hF4 _ _ (by decide)).trans hn) hn2 (fun i hi => by rw [cSh_eq (fun k => hF4 _ k (by omega))]; exact hsh i hi) (by omega)) (by omega) ?_
    rintro v M' ⟨rfl, hM⟩
    subst M'
    dsimp only [Option.toList, List.cons_append, List.nil_append]
    refine xG_run 1 rfl (by repeat' (first | exact trivial | assumption | exact xob_b rfl | exact xal_b rfl | (apply And.intro) | decide)) ?_
    refine r2_v rfl rfl ?_
    refine ⟨pl2, rl2, c2, e2, rfl, hg3, hpl2, hrl2, hs2, ht2, ⟨hF4, fun a k h1 h2 => ?_, fun a k h1 h2 => (hF3.2.2 a k h1 h2).trans (hF.2.2 a k h1 h2)⟩, ?_, fun t ht6 => ?_⟩
    · rw [gJsJ, if_neg h2, hF3.2.1]
      exact (hJ2 a k h1).trans (hF.2.1 a k)
    · rw [gJ_self]
      refine lSum_cong (fun i hi => ?_)
      rw [cPu_eq (fun k => hF4 _ k (by omega)) (fun k => hF4 _ k (by decide)) (fun k => hF4 _ k (by decide)), hF4 _ _ (by omega)]
    · rw [gJsJ, if_neg (by omega), hF3.2.1]
      exact (hJ t (by omega)).trans (bMom_eq (by omega) hn2 hr2 hF.1 hs ht)
