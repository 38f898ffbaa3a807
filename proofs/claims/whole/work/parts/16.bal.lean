/-! ===== the balance ===== -/
def xb (S : Int32) (i : Nat) : Prop := S >>> (nI i &&& 31) &&& 1 = 1
def lAcc (v : Int64) (f : Nat → Int64) : Nat → Int64
  | 0 => v
  | n + 1 => lAcc v f n + f n
theorem lAcc_eq (v : Int64) (f : Nat → Int64) : ∀ n, lAcc v f n = v + lSum f n
  | 0 => (Int64.add_zero v).symm
  | n + 1 => by rw [lAcc, lAcc_eq v f n, lSum, Int64.add_assoc]
def xbd (S : Int32) (i : Nat) : Bool := decide (S >>> (nI i &&& 31) &&& 1 = 1)
def cTp (M : xM) (l : Int32) (a : Nat) : Int64 := (cW M a * gI M a 2 * l / 1000).toInt64
def cTr (M : xM) (l : Int32) (a : Nat) : Int64 := (cP M a l).toInt64 * (gI M a 6).toInt64 * (gI M a 1).toInt64
/-- what was gathered of the mast m: which pieces and ropes, how many -/
def Gath (M : xM) (m : Nat) (pl rl : Nat → Nat) (c e : Nat) : Prop := gI M 123 2 = nI c ∧ gI M 123 4 = nI e ∧ c ≤ 10 ∧ e ≤ 12 ∧ (∀ j, j < c → gP M 125 j = some (m + 5 + pl j) ∧ pl j < 10) ∧ (∀ j, j < e → gP M 126 j = some (m + 15 + rl j) ∧ rl j < 12)
def cMom (M : xM) (m : Nat) (pl rl : Nat → Nat) (c e : Nat) (l : Int32) : Int64 := lAcc (lSum (fun j => cTp M l (m + 5 + pl j)) c) (fun j => cTr M l (m + 15 + rl j)) e
def gFr (M M' : xM) : Prop := (∀ a k, a ≠ 123 → gI M' a k = gI M a k) ∧ (∀ a k, gJ M' a k = gJ M a k) ∧ (∀ a k, a ≠ 125 → a ≠ 126 → gP M' a k = gP M a k)
theorem n3_1 (t : Nat) : nI t + (-300) + 1 = nI (t + 1) + (-300) := by rw [nI_succ, Int32.add_assoc, Int32.add_comm (-300) 1, ← Int32.add_assoc]
theorem n3_2 (t : Nat) : nI t + (-300) + 300 = nI t := by
  rw [Int32.add_assoc, show (-300 : Int32) + 300 = 0 by decide, Int32.add_zero]
theorem n3_3 {t : Nat} (h : t ≤ 600) : (nI t + (-300)).toInt = (t : Int) - 300 := by
  have e : (-300 : Int32).toInt = -300 := by decide
  have f := nI_ti (j := t) (by omega)
  rw [fb_addI (by omega) (by omega)]
  omega
theorem nneg (k : Nat) : -(nI k) + (-1) = -(nI (k + 1)) := by rw [nI_succ, Int32.neg_add, Int32.sub_eq_add_neg]
def stN (R : Int32 → Int64) (mo : Nat) : Int32 :=
  if 0 ≤ R 0 then (if fF (fun k => decide (R (nI (k + 1)) < 0)) (min (mo + 1) 300) < min (mo + 1) 300 then nI (fF (fun k => decide (R (nI (k + 1)) < 0)) (min (mo + 1) 300)) else 1000)
  else (if fF (fun k => decide (0 ≤ R (-(nI (k + 1))))) mo < mo then -(nI (fF (fun k => decide (0 ≤ R (-(nI (k + 1))))) mo + 1)) else 1000)
set_option maxRecDepth 4000 in
theorem e_gather1 {κ : xKK} {d : Nat} {M : xM} {np nr : Nat} {S S2 : Int32} (hn : gI M 1 1 = nI np) (hn2 : np ≤ 10) (hr : gI M 1 3 = nI nr) (hr2 : nr ≤ 12) : xE2 κ mX0_gather d [.ref 123, .ref 1, .int S, .int S2] M (fun v M' => v = none ∧ gFr M M' ∧ ∃ (pl rl : Nat → Nat) (c e : Nat), Gath M' 1 pl rl c e ∧ (∀ j, j < c → pl j < np) ∧ (∀ j, j < e → rl j < nr) ∧ (∀ T : Nat → Int64, lSum (fun k => T (pl k)) c = lSum (fun i => if xbd S i = true then T i else 0) np) ∧ ∀ T : Nat → Int64, lSum (fun k => T (rl k)) e = lSum (fun i => if xbd S2 i = true then T i else 0) nr) := by
  refine xE2_of ci_X0_gather cl_X0_gather cw_X0_gather rfl (L := [some (.ref 123), some (.ref 1), some (.int S), some (.int S2), none]) rfl ?_
  have hm1 : gI M 1 1 = nI np := hn
  refine xG_run 5 rfl (by repeat' (first | exact trivial | assumption | exact xob_b rfl | exact xal_b rfl | (apply And.intro) | decide)) ?_
  refine xG_upP (fun j X => ∃ (M1 : xM) (c : Nat) (pl : Nat → Nat), X = (8, [some (.ref 123), some (.ref 1), some (.int S), some (.int S2), some (.int (nI j))], [], M1, z2) ∧ gFr M M1 ∧ gI M1 123 2 = nI c ∧ c ≤ j ∧ (∀ k, k < c → gP M1 125 k = some (1 + 5 + pl k) ∧ pl k < np) ∧ ∀ T : Nat → Int64, lSum (fun k => T (pl k)) c = lSum (fun i => if xbd S i = true then T i else 0) j) np ?_ ?_ 0 (Nat.zero_le _) _ ⟨sI M 123 2 0, 0, fun _ => 0, rfl, ⟨fun a k h => gI_ne (Or.inl h), fun _ _ => rfl, fun _ _ _ _ => rfl⟩, gI_self _ _ _ _, Nat.le_refl _, fun k h => absurd h (by omega), fun _ => rfl⟩
  · rintro j X hj ⟨M1, c, pl, rfl, hF, hc, hcj, hp, hs⟩ ih
    have hj1 : (nI j).toNatClampNeg = j := nI_cl (by omega)
    have hc1 : (nI c).toNatClampNeg = c := nI_cl (by omega)
    have hcc : (gI M1 123 2).toNatClampNeg = c := by rw [hc]; exact hc1
    have hx : xob (6 + (nI j).toNatClampNeg) 3 182 := by rw [hj1]; exact xob_p1 (by omega)
    have hq : xqr 2 182 (nI j) := xqr_n rfl 10 rfl (by omega) (by omega)
    have hy : xar 125 3 182 (gI M1 123 2) := by rw [hc]; exact xar_n rfl 10 rfl (by omega) (by omega)
    have hn1 : gI M1 1 1 = nI np := by rw [hF.1 _ _ (by decide)]; exact hn
    refine xG_run 3 rfl (by repeat' (first | exact trivial | assumption | exact xob_b rfl | exact xal_b rfl | (apply And.intro) | decide)) ?_
    refine xG_brF rfl (by rw [hn1]; exact nI_ge hj (by omega)) ?_
    refine xG_run 6 rfl (by repeat' (first | exact trivial | assumption | exact xob_b rfl | exact xal_b rfl | (apply And.intro) | decide)) ?_
    refine xG_br rfl (fun h24 => ?_) (fun h24 => ?_)
    · refine xG_run 2 rfl (by repeat' (first | exact trivial | assumption | exact xob_b rfl | exact xal_b rfl | (apply And.intro) | decide)) ?_
      rw [nI_1]
      refine ih _ ⟨M1, c, pl, rfl, hF, hc, by omega, hp, fun T => ?_⟩
      rw [hs T, lSum, if_neg (show ¬ xbd S j = true from fun q => h24 (of_decide_eq_true q)), Int64.add_zero]
    · refine xG_run 17 rfl (by repeat' (first | exact trivial | assumption | exact xob_b rfl | exact xal_b rfl | (apply And.intro) | decide)) ?_
      rw [hj1, hcc, nI_1]
      refine ih _ ⟨_, c + 1, fun k => if k = c then j else pl k, rfl, ⟨fun a k h => (gI_ne (Or.inl h)).trans (hF.1 a k h), fun a k => hF.2.1 a k, fun a k h1 h2 => (gP_ne (Or.inl h1)).trans (hF.2.2 a k h1 h2)⟩, ?_, by omega, fun k hk => ?_, fun T => ?_⟩
      · rw [gI_self]; show gI M1 123 2 + 1 = _; rw [hc, nI_1]
      · by_cases e : k = c
        · subst e
          dsimp only
          rw [if_pos rfl]
          exact ⟨gP_self _ _ _ _, hj⟩
        · dsimp only
          rw [if_neg e]
          refine ⟨?_, (hp k (by omega)).2⟩
          show gP (sP M1 125 c _) 125 k = _
          rw [gP_ne (Or.inr e)]
          exact (hp k (by omega)).1
      · rw [lSum, lSum]
        dsimp only
        rw [if_pos rfl, if_pos (show xbd S j = true from decide_eq_true (Decidable.not_not.mp h24)), ← hs T]
        congr 1
        exact lSum_cong (fun k hk => by rw [if_neg (by omega)])
  · rintro X ⟨M1, c, pl, rfl, hF, hc, hcj, hp, hs⟩
    have hn1 : gI M1 1 1 = nI np := by rw [hF.1 _ _ (by decide)]; exact hn
    refine xG_run 3 rfl (by repeat' (first | exact trivial | assumption | exact xob_b rfl | exact xal_b rfl | (apply And.intro) | decide)) ?_
    refine xG_brT rfl (by rw [hn1]; exact Int32.le_refl _) ?_
    refine xG_run 5 rfl (by repeat' (first | exact trivial | assumption | exact xob_b rfl | exact xal_b rfl | (apply And.intro) | decide)) ?_
    refine xG_upP (fun j X => ∃ (M2 : xM) (e : Nat) (rl : Nat → Nat), X = (67, [some (.ref 123), some (.ref 1), some (.int S), some (.int S2), some (.int (nI j))], [], M2, z2) ∧ gFr M M2 ∧ gI M2 123 2 = nI c ∧ (∀ k, k < c → gP M2 125 k = some (1 + 5 + pl k) ∧ pl k < np) ∧ gI M2 123 4 = nI e ∧ e ≤ j ∧ (∀ k, k < e → gP M2 126 k = some (1 + 15 + rl k) ∧ rl k < nr) ∧ ∀ T : Nat → Int64, lSum (fun k => T (rl k)) e = lSum (fun i => if xbd S2 i = true then T i else 0) j) nr ?_ ?_ 0 (Nat.zero_le _) _ ⟨sI M1 123 4 0, 0, fun _ => 0, rfl, ⟨fun a k h => (gI_ne (Or.inl h)).trans (hF.1 a k h), hF.2.1, hF.2.2⟩, (gI_ne (Or.inr (by decide))).trans hc, hp, gI_self _ _ _ _, Nat.le_refl _, fun k h => absurd h (by omega), fun _ => rfl⟩
    · rintro j X hj ⟨M2, e, rl, rfl, hF, hc, hp, he, hej, hq, ht⟩ ih
      have hj1 : (nI j).toNatClampNeg = j := nI_cl (by omega)
      have he1 : (nI e).toNatClampNeg = e := nI_cl (by omega)
      have hee : (gI M2 123 4).toNatClampNeg = e := by rw [he]; exact he1
      have hx : xob (16 + (nI j).toNatClampNeg) 5 182 := by rw [hj1]; exact xob_r1 (by omega)
      have hz : xqr 3 182 (nI j) := xqr_n rfl 12 rfl (by omega) (by omega)
      have hy : xar 126 4 182 (gI M2 123 4) := by rw [he]; exact xar_n rfl 12 rfl (by omega) (by omega)
      have hn1 : gI M2 1 3 = nI nr := by rw [hF.1 _ _ (by decide)]; exact hr
      refine xG_run 3 rfl (by repeat' (first | exact trivial | assumption | exact xob_b rfl | exact xal_b rfl | (apply And.intro) | decide)) ?_
      refine xG_brF rfl (by rw [hn1]; exact nI_ge hj (by omega)) ?_
      refine xG_run 6 rfl (by repeat' (first | exact trivial | assumption | exact xob_b rfl | exact xal_b rfl | (apply And.intro) | decide)) ?_
      refine xG_br rfl (fun h83 => ?_) (fun h83 => ?_)
      · refine xG_run 2 rfl (by repeat' (first | exact trivial | assumption | exact xob_b rfl | exact xal_b rfl | (apply And.intro) | decide)) ?_
        rw [nI_1]
        refine ih _ ⟨M2, e, rl, rfl, hF, hc, hp, he, by omega, hq, fun T => ?_⟩
        rw [ht T, lSum, if_neg (show ¬ xbd S2 j = true from fun q => h83 (of_decide_eq_true q)), Int64.add_zero]
      · refine xG_run 17 rfl (by repeat' (first | exact trivial | assumption | exact xob_b rfl | exact xal_b rfl | (apply And.intro) | decide)) ?_
        rw [hj1, hee, nI_1]
        refine ih _ ⟨_, e + 1, fun k => if k = e then j else rl k, rfl, ⟨fun a k h => (gI_ne (Or.inl h)).trans (hF.1 a k h), fun a k => hF.2.1 a k, fun a k h1 h2 => (gP_ne (Or.inl h2)).trans (hF.2.2 a k h1 h2)⟩, (gI_ne (Or.inr (by decide))).trans hc, fun k hk => ⟨(gP_ne (Or.inl (by decide))).trans (hp k hk).1, (hp k hk).2⟩, ?_, by omega, fun k hk => ?_, fun T => ?_⟩
        · rw [gI_self]; show gI M2 123 4 + 1 = _; rw [he, nI_1]
        · by_cases e9 : k = e
          · subst e9
            dsimp only
            rw [if_pos rfl]
            exact ⟨gP_self _ _ _ _, hj⟩
          · dsimp only
            rw [if_neg e9]
            refine ⟨?_, (hq k (by omega)).2⟩
            show gP (sP M2 126 e _) 126 k = _
            rw [gP_ne (Or.inr e9)]
            exact (hq k (by omega)).1
        · rw [lSum, lSum]
          dsimp only
          rw [if_pos rfl, if_pos (show xbd S2 j = true from decide_eq_true (Decidable.not_not.mp h83)), ← ht T]
          congr 1
          exact lSum_cong (fun k hk => by rw [if_neg (by omega)])
    · rintro X ⟨M2, e, rl, rfl, hF, hc, hp, he, hej, hq, ht⟩
      have hn1 : gI M2 1 3 = nI nr := by rw [hF.1 _ _ (by decide)]; exact hr
      refine xG_run 3 rfl (by repeat' (first | exact trivial | assumption | exact xob_b rfl | exact xal_b rfl | (apply And.intro) | decide)) ?_
      refine xG_brT rfl (by rw [hn1]; exact Int32.le_refl _) ?_
      refine r2_v rfl rfl ?_
      exact ⟨rfl, hF, pl, rl, c, e, ⟨hc, he, by omega, by omega, fun j hj => ⟨(hp j hj).1, by have := (hp j hj).2; omega⟩, fun j hj => ⟨(hq j hj).1, by have := (hq j hj).2; omega⟩⟩, fun j hj => (hp j hj).2, fun j hj => (hq j hj).2, hs, ht⟩
set_option maxRecDepth 4000 in
theorem e_gather28 {κ : xKK} {d : Nat} {M : xM} {np nr : Nat} {S S2 : Int32} (hn : gI M 28 1 = nI np) (hn2 : np ≤ 10) (hr : gI M 28 3 = nI nr) (hr2 : nr ≤ 12) : xE2 κ mX0_gather d [.ref 123, .ref 28, .int S, .int S2] M (fun v M' => v = none ∧ gFr M M' ∧ ∃ (pl rl : Nat → Nat) (c e : Nat), Gath M' 28 pl rl c e ∧ (∀ j, j < c → pl j < np) ∧ (∀ j, j < e → rl j < nr) ∧ (∀ T : Nat → Int64, lSum (fun k => T (pl k)) c = lSum (fun i => if xbd S i = true then T i else 0) np) ∧ ∀ T : Nat → Int64, lSum (fun k => T (rl k)) e = lSum (fun i => if xbd S2 i = true then T i else 0) nr) := by
  refine xE2_of ci_X0_gather cl_X0_gather cw_X0_gather rfl (L := [some (.ref 123), some (.ref 28), some (.int S), some (.int S2), none]) rfl ?_
  have hm1 : gI M 28 1 = nI np := hn
  refine xG_run 5 rfl (by repeat' (first | exact trivial | assumption | exact xob_b rfl | exact xal_b rfl | (apply And.intro) | decide)) ?_
  refine xG_upP (fun j X => ∃ (M1 : xM) (c : Nat) (pl : Nat → Nat), X = (8, [some (.ref 123), some (.ref 28), some (.int S), some (.int S2), some (.int (nI j))], [], M1, z2) ∧ gFr M M1 ∧ gI M1 123 2 = nI c ∧ c ≤ j ∧ (∀ k, k < c → gP M1 125 k = some (28 + 5 + pl k) ∧ pl k < np) ∧ ∀ T : Nat → Int64, lSum (fun k => T (pl k)) c = lSum (fun i => if xbd S i = true then T i else 0) j) np ?_ ?_ 0 (Nat.zero_le _) _ ⟨sI M 123 2 0, 0, fun _ => 0, rfl, ⟨fun a k h => gI_ne (Or.inl h), fun _ _ => rfl, fun _ _ _ _ => rfl⟩, gI_self _ _ _ _, Nat.le_refl _, fun k h => absurd h (by omega), fun _ => rfl⟩
  · rintro j X hj ⟨M1, c, pl, rfl, hF, hc, hcj, hp, hs⟩ ih
    have hj1 : (nI j).toNatClampNeg = j := nI_cl (by omega)
    have hc1 : (nI c).toNatClampNeg = c := nI_cl (by omega)
    have hcc : (gI M1 123 2).toNatClampNeg = c := by rw [hc]; exact hc1
    have hx : xob (33 + (nI j).toNatClampNeg) 3 182 := by rw [hj1]; exact xob_p28 (by omega)
    have hq : xqr 29 182 (nI j) := xqr_n rfl 10 rfl (by omega) (by omega)
    have hy : xar 125 3 182 (gI M1 123 2) := by rw [hc]; exact xar_n rfl 10 rfl (by omega) (by omega)
    have hn1 : gI M1 28 1 = nI np := by rw [hF.1 _ _ (by decide)]; exact hn
    refine xG_run 3 rfl (by repeat' (first | exact trivial | assumption | exact xob_b rfl | exact xal_b rfl | (apply And.intro) | decide)) ?_
    refine xG_brF rfl (by rw [hn1]; exact nI_ge hj (by omega)) ?_
    refine xG_run 6 rfl (by repeat' (first | exact trivial | assumption | exact xob_b rfl | exact xal_b rfl | (apply And.intro) | decide)) ?_
    refine xG_br rfl (fun h24 => ?_) (fun h24 => ?_)
    · refine xG_run 2 rfl (by repeat' (first | exact trivial | assumption | exact xob_b rfl | exact xal_b rfl | (apply And.intro) | decide)) ?_
      rw [nI_1]
      refine ih _ ⟨M1, c, pl, rfl, hF, hc, by omega, hp, fun T => ?_⟩
      rw [hs T, lSum, if_neg (show ¬ xbd S j = true from fun q => h24 (of_decide_eq_true q)), Int64.add_zero]
    · refine xG_run 17 rfl (by repeat' (first | exact trivial | assumption | exact xob_b rfl | exact xal_b rfl | (apply And.intro) | decide)) ?_
      rw [hj1, hcc, nI_1]
      refine ih _ ⟨_, c + 1, fun k => if k = c then j else pl k, rfl, ⟨fun a k h => (gI_ne (Or.inl h)).trans (hF.1 a k h), fun a k => hF.2.1 a k, fun a k h1 h2 => (gP_ne (Or.inl h1)).trans (hF.2.2 a k h1 h2)⟩, ?_, by omega, fun k hk => ?_, fun T => ?_⟩
      · rw [gI_self]; show gI M1 123 2 + 1 = _; rw [hc, nI_1]
      · by_cases e : k = c
        · subst e
          dsimp only
          rw [if_pos rfl]
          exact ⟨gP_self _ _ _ _, hj⟩
        · dsimp only
          rw [if_neg e]
          refine ⟨?_, (hp k (by omega)).2⟩
          show gP (sP M1 125 c _) 125 k = _
          rw [gP_ne (Or.inr e)]
          exact (hp k (by omega)).1
      · rw [lSum, lSum]
        dsimp only
        rw [if_pos rfl, if_pos (show xbd S j = true from decide_eq_true (Decidable.not_not.mp h24)), ← hs T]
        congr 1
        exact lSum_cong (fun k hk => by rw [if_neg (by omega)])
  · rintro X ⟨M1, c, pl, rfl, hF, hc, hcj, hp, hs⟩
    have hn1 : gI M1 28 1 = nI np := by rw [hF.1 _ _ (by decide)]; exact hn
    refine xG_run 3 rfl (by repeat' (first | exact trivial | assumption | exact xob_b rfl | exact xal_b rfl | (apply And.intro) | decide)) ?_
    refine xG_brT rfl (by rw [hn1]; exact Int32.le_refl _) ?_
    refine xG_run 5 rfl (by repeat' (first | exact trivial | assumption | exact xob_b rfl | exact xal_b rfl | (apply And.intro) | decide)) ?_
    refine xG_upP (fun j X => ∃ (M2 : xM) (e : Nat) (rl : Nat → Nat), X = (67, [some (.ref 123), some (.ref 28), some (.int S), some (.int S2), some (.int (nI j))], [], M2, z2) ∧ gFr M M2 ∧ gI M2 123 2 = nI c ∧ (∀ k, k < c → gP M2 125 k = some (28 + 5 + pl k) ∧ pl k < np) ∧ gI M2 123 4 = nI e ∧ e ≤ j ∧ (∀ k, k < e → gP M2 126 k = some (28 + 15 + rl k) ∧ rl k < nr) ∧ ∀ T : Nat → Int64, lSum (fun k => T (rl k)) e = lSum (fun i => if xbd S2 i = true then T i else 0) j) nr ?_ ?_ 0 (Nat.zero_le _) _ ⟨sI M1 123 4 0, 0, fun _ => 0, rfl, ⟨fun a k h => (gI_ne (Or.inl h)).trans (hF.1 a k h), hF.2.1, hF.2.2⟩, (gI_ne (Or.inr (by decide))).trans hc, hp, gI_self _ _ _ _, Nat.le_refl _, fun k h => absurd h (by omega), fun _ => rfl⟩
    · rintro j X hj ⟨M2, e, rl, rfl, hF, hc, hp, he, hej, hq, ht⟩ ih
      have hj1 : (nI j).toNatClampNeg = j := nI_cl (by omega)
      have he1 : (nI e).toNatClampNeg = e := nI_cl (by omega)
      have hee : (gI M2 123 4).toNatClampNeg = e := by rw [he]; exact he1
      have hx : xob (43 + (nI j).toNatClampNeg) 5 182 := by rw [hj1]; exact xob_r28 (by omega)
      have hz : xqr 30 182 (nI j) := xqr_n rfl 12 rfl (by omega) (by omega)
      have hy : xar 126 4 182 (gI M2 123 4) := by rw [he]; exact xar_n rfl 12 rfl (by omega) (by omega)
      have hn1 : gI M2 28 3 = nI nr := by rw [hF.1 _ _ (by decide)]; exact hr
      refine xG_run 3 rfl (by repeat' (first | exact trivial | assumption | exact xob_b rfl | exact xal_b rfl | (apply And.intro) | decide)) ?_
      refine xG_brF rfl (by rw [hn1]; exact nI_ge hj (by omega)) ?_
      refine xG_run 6 rfl (by repeat' (first | exact trivial | assumption | exact xob_b rfl | exact xal_b rfl | (apply And.intro) | decide)) ?_
      refine xG_br rfl (fun h83 => ?_) (fun h83 => ?_)
      · refine xG_run 2 rfl (by repeat' (first | exact trivial | assumption | exact xob_b rfl | exact xal_b rfl | (apply And.intro) | decide)) ?_
        rw [nI_1]
        refine ih _ ⟨M2, e, rl, rfl, hF, hc, hp, he, by omega, hq, fun T => ?_⟩
        rw [ht T, lSum, if_neg (show ¬ xbd S2 j = true from fun q => h83 (of_decide_eq_true q)), Int64.add_zero]
      · refine xG_run 17 rfl (by repeat' (first | exact trivial | assumption | exact xob_b rfl | exact xal_b rfl | (apply And.intro) | decide)) ?_
        rw [hj1, hee, nI_1]
        refine ih _ ⟨_, e + 1, fun k => if k = e then j else rl k, rfl, ⟨fun a k h => (gI_ne (Or.inl h)).trans (hF.1 a k h), fun a k => hF.2.1 a k, fun a k h1 h2 => (gP_ne (Or.inl h2)).trans (hF.2.2 a k h1 h2)⟩, (gI_ne (Or.inr (by decide))).trans hc, fun k hk => ⟨(gP_ne (Or.inl (by decide))).trans (hp k hk).1, (hp k hk).2⟩, ?_, by omega, fun k hk => ?_, fun T => ?_⟩
        · rw [gI_self]; show gI M2 123 4 + 1 = _; rw [he, nI_1]
        · by_cases e9 : k = e
          · subst e9
            dsimp only
            rw [if_pos rfl]
            exact ⟨gP_self _ _ _ _, hj⟩
          · dsimp only
            rw [if_neg e9]
            refine ⟨?_, (hq k (by omega)).2⟩
            show gP (sP M2 126 e _) 126 k = _
            rw [gP_ne (Or.inr e9)]
            exact (hq k (by omega)).1
        · rw [lSum, lSum]
          dsimp only
          rw [if_pos rfl, if_pos (show xbd S2 j = true from decide_eq_true (Decidable.not_not.mp h83)), ← ht T]
          congr 1
          exact lSum_cong (fun k hk => by rw [if_neg (by omega)])
    · rintro X ⟨M2, e, rl, rfl, hF, hc, hp, he, hej, hq, ht⟩
      have hn1 : gI M2 28 3 = nI nr := by rw [hF.1 _ _ (by decide)]; exact hr
      refine xG_run 3 rfl (by repeat' (first | exact trivial | assumption | exact xob_b rfl | exact xal_b rfl | (apply And.intro) | decide)) ?_
      refine xG_brT rfl (by rw [hn1]; exact Int32.le_refl _) ?_
      refine r2_v rfl rfl ?_
      exact ⟨rfl, hF, pl, rl, c, e, ⟨hc, he, by omega, by omega, fun j hj => ⟨(hp j hj).1, by have := (hp j hj).2; omega⟩, fun j hj => ⟨(hq j hj).1, by have := (hq j hj).2; omega⟩⟩, fun j hj => (hp j hj).2, fun j hj => (hq j hj).2, hs, ht⟩
set_option maxRecDepth 4000 in
theorem e_moment1 {κ : xKK} {d : Nat} {M : xM} {pl rl : Nat → Nat} {c e : Nat} {l : Int32} (hg : Gath M 1 pl rl c e) (hd : 2 ≤ d) : xE2 κ mX0_moment d [.ref 123, .int l] M (fun v M' => v = some (.long (cMom M 1 pl rl c e l)) ∧ M' = M) := by
  refine xE2_of ci_X0_moment cl_X0_moment cw_X0_moment rfl (L := [some (.ref 123), some (.int l), none, none, none]) rfl ?_
  refine xG_run 4 rfl (by repeat' (first | exact trivial | assumption | exact xob_b rfl | exact xal_b rfl | (apply And.intro) | decide)) ?_
  obtain ⟨g1, g2, g3, g4, g5, g6⟩ := hg
  refine xG_up (fun j => (5, [some (.ref 123), some (.int l), some (.long (lSum (fun j => cTp M l (1 + 5 + pl j)) j)), none, some (.int (nI j))], [], M, z2)) c ?_ ?_ 0 (Nat.zero_le _)
  · intro j hj ih
    have hj1 : (nI j).toNatClampNeg = j := nI_cl (by omega)
    have hq : xqr 125 182 (nI j) := xqr_n rfl 10 rfl (by omega) (by omega)
    have hx : xob (6 + pl j) 3 182 := xob_p1 (g5 j hj).2
    have hv : xrf (xpr z2.2.1 M 125 (nI j).toNatClampNeg) = .ref (6 + pl j) := by rw [hj1]; show xrf (gP M 125 j) = _; rw [(g5 j hj).1]; rfl
    refine xG_run 3 rfl (by repeat' (first | exact trivial | assumption | exact xob_b rfl | exact xal_b rfl | (apply And.intro) | decide)) ?_
    refine xG_brF rfl (by rw [g1]; exact nI_ge hj (by omega)) ?_
    refine xG_run 5 rfl (by repeat' (first | exact trivial | assumption | exact xob_b rfl | exact xal_b rfl | (apply And.intro) | decide)) ?_
    rw [hv]
    refine xG_c2 0 rfl (by repeat' (first | exact trivial | assumption | exact xob_b rfl | exact xal_b rfl | (apply And.intro) | decide)) rfl rfl (by decide) cw_X3_weight (d' := d - 1) (e_weight hx) (by omega) ?_
    rintro v M' ⟨rfl, hM⟩
    subst M'
    dsimp only [Option.toList, List.cons_append, List.nil_append]
    refine xG_run 4 rfl (by repeat' (first | exact trivial | assumption | exact xob_b rfl | exact xal_b rfl | (apply And.intro) | decide)) ?_
    rw [hv]
    refine xG_run 11 rfl (by repeat' (first | exact trivial | assumption | exact xob_b rfl | exact xal_b rfl | (apply And.intro) | decide)) ?_
    rw [nI_1]; exact ih
  · refine xG_run 3 rfl (by repeat' (first | exact trivial | assumption | exact xob_b rfl | exact xal_b rfl | (apply And.intro) | decide)) ?_
    refine xG_brT rfl (by rw [g1]; exact Int32.le_refl _) ?_
    refine xG_run 2 rfl (by repeat' (first | exact trivial | assumption | exact xob_b rfl | exact xal_b rfl | (apply And.intro) | decide)) ?_
    refine xG_up (fun j => (54, [some (.ref 123), some (.int l), some (.long (lAcc (lSum (fun j => cTp M l (1 + 5 + pl j)) c) (fun j => cTr M l (1 + 15 + rl j)) j)), none, some (.int (nI j))], [], M, z2)) e ?_ ?_ 0 (Nat.zero_le _)
    · intro j hj ih
      have hj1 : (nI j).toNatClampNeg = j := nI_cl (by omega)
      have hq : xqr 126 182 (nI j) := xqr_n rfl 12 rfl (by omega) (by omega)
      have hx : xob (16 + rl j) 5 182 := xob_r1 (g6 j hj).2
      have hv : xrf (xpr z2.2.1 M 126 (nI j).toNatClampNeg) = .ref (16 + rl j) := by rw [hj1]; show xrf (gP M 126 j) = _; rw [(g6 j hj).1]; rfl
      refine xG_run 3 rfl (by repeat' (first | exact trivial | assumption | exact xob_b rfl | exact xal_b rfl | (apply And.intro) | decide)) ?_
      refine xG_brF rfl (by rw [g2]; exact nI_ge hj (by omega)) ?_
      refine xG_run 5 rfl (by repeat' (first | exact trivial | assumption | exact xob_b rfl | exact xal_b rfl | (apply And.intro) | decide)) ?_
      rw [hv]
      refine xG_run 1 rfl (by repeat' (first | exact trivial | assumption | exact xob_b rfl | exact xal_b rfl | (apply And.intro) | decide)) ?_
      refine xG_c2 1 rfl (by repeat' (first | exact trivial | assumption | exact xob_b rfl | exact xal_b rfl | (apply And.intro) | decide)) rfl rfl (by decide) cw_X5_pullAt (d' := d - 1) (e_pullAt hx) (by omega) ?_
      rintro v M' ⟨rfl, hM⟩
      subst M'
      dsimp only [Option.toList, List.cons_append, List.nil_append]
      refine xG_run 5 rfl (by repeat' (first | exact trivial | assumption | exact xob_b rfl | exact xal_b rfl | (apply And.intro) | decide)) ?_
      rw [hv]
      refine xG_run 7 rfl (by repeat' (first | exact trivial | assumption | exact xob_b rfl | exact xal_b rfl | (apply And.intro) | decide)) ?_
      rw [hv]
      refine xG_run 7 rfl (by repeat' (first | exact trivial | assumption | exact xob_b rfl | exact xal_b rfl | (apply And.intro) | decide)) ?_
      rw [nI_1]; exact ih
    · refine xG_run 3 rfl (by repeat' (first | exact trivial | assumption | exact xob_b rfl | exact xal_b rfl | (apply And.intro) | decide)) ?_
      refine xG_brT rfl (by rw [g2]; exact Int32.le_refl _) ?_
      refine xG_run 1 rfl (by repeat' (first | exact trivial | assumption | exact xob_b rfl | exact xal_b rfl | (apply And.intro) | decide)) ?_
      refine r2_l rfl rfl ?_
      exact ⟨rfl, rfl⟩
def cRest (M : xM) (m : Nat) (pl rl : Nat → Nat) (c e : Nat) (l : Int32) : Int64 := gJ M 124 (l + 300).toNatClampNeg + gJ M 123 5 + cMom M m pl rl c e l
theorem n3_in {l : Int32} (h : -300 ≤ l.toInt) (h2 : l.toInt ≤ 300) : xar 124 1 182 (l + 300) := by
  have e : (300 : Int32).toInt = 300 := by decide
  have f : (l + 300).toInt = l.toInt + 300 := by rw [fb_addI (by omega) (by omega), e]
  exact xar_b rfl 601 rfl (by omega) (by omega)
theorem n3_lt {l : Int32} (h : -300 ≤ l.toInt) : ¬ l < -300 := by
  rw [Int32.lt_iff_toInt_lt]
  have e : (-300 : Int32).toInt = -300 := by decide
  omega
theorem n3_le {l : Int32} (h : l.toInt ≤ 300) : l ≤ 300 := by
  rw [Int32.le_iff_toInt_le]
  have e : (300 : Int32).toInt = 300 := by decide
  omega
set_option maxRecDepth 4000 in
theorem e_restAt1 {κ : xKK} {d : Nat} {M : xM} {pl rl : Nat → Nat} {c e : Nat} {l : Int32} (hg : Gath M 1 pl rl c e) (h1 : -300 ≤ l.toInt) (h2 : l.toInt ≤ 300) (hd : 3 ≤ d) : xE2 κ mX0_restAt d [.ref 123, .int l] M (fun v M' => v = some (.long (cRest M 1 pl rl c e l)) ∧ M' = M) := by
  refine xE2_of ci_X0_restAt cl_X0_restAt cw_X0_restAt rfl (L := [some (.ref 123), some (.int l)]) rfl ?_
  have hx := n3_in h1 h2
  refine xG_run 2 rfl (by repeat' (first | exact trivial | assumption | exact xob_b rfl | exact xal_b rfl | (apply And.intro) | decide)) ?_
  refine xG_brF rfl (n3_lt h1) ?_
  refine xG_run 2 rfl (by repeat' (first | exact trivial | assumption | exact xob_b rfl | exact xal_b rfl | (apply And.intro) | decide)) ?_
  refine xG_brT rfl (n3_le h2) ?_
  refine xG_run 11 rfl (by repeat' (first | exact trivial | assumption | exact xob_b rfl | exact xal_b rfl | (apply And.intro) | decide)) ?_
  refine xG_c2 1 rfl (by repeat' (first | exact trivial | assumption | exact xob_b rfl | exact xal_b rfl | (apply And.intro) | decide)) rfl rfl (by decide) cw_X0_moment (d' := d - 1) (e_moment1 hg (by omega)) (by omega) ?_
  rintro v M' ⟨rfl, hM⟩
  subst M'
  dsimp only [Option.toList, List.cons_append, List.nil_append]
  refine xG_run 1 rfl (by repeat' (first | exact trivial | assumption | exact xob_b rfl | exact xal_b rfl | (apply And.intro) | decide)) ?_
  refine r2_l rfl rfl ?_
  exact ⟨rfl, rfl⟩
set_option maxRecDepth 4000 in
theorem e_lean1 {κ : xKK} {d : Nat} {M : xM} {pl rl : Nat → Nat} {c e mo : Nat} (hg : Gath M 1 pl rl c e) (hmo : mo ≤ 300) (hd : 4 ≤ d) : xE2 κ mX0_lean d [.ref 123, .int (nI mo)] M (fun v M' => v = some (.int (stN (cRest M 1 pl rl c e) mo)) ∧ M' = M) := by
  refine xE2_of ci_X0_lean cl_X0_lean cw_X0_lean rfl (L := [some (.ref 123), some (.int (nI mo)), none]) rfl ?_
  refine xG_run 2 rfl (by repeat' (first | exact trivial | assumption | exact xob_b rfl | exact xal_b rfl | (apply And.intro) | decide)) ?_
  refine xG_c2 1 rfl (by repeat' (first | exact trivial | assumption | exact xob_b rfl | exact xal_b rfl | (apply And.intro) | decide)) rfl rfl (by decide) cw_X0_restAt (d' := d - 1) (e_restAt1 (l := 0) hg (by decide) (by decide) (by omega)) (by omega) ?_
  rintro v M' ⟨rfl, hM⟩
  subst M'
  dsimp only [Option.toList, List.cons_append, List.nil_append]
  refine xG_run 2 rfl (by repeat' (first | exact trivial | assumption | exact xob_b rfl | exact xal_b rfl | (apply And.intro) | decide)) ?_
  refine xG_br rfl (fun h7 => ?_) (fun h7 => ?_)
  · refine xG_run 2 rfl (by repeat' (first | exact trivial | assumption | exact xob_b rfl | exact xal_b rfl | (apply And.intro) | decide)) ?_
    have h0 : ¬ 0 ≤ cRest M 1 pl rl c e 0 := fun q => absurd ((lg_lt0 _ _).mp h7) (Int64.not_lt.mpr q)
    have lp : ∀ n k : Nat, n + k = mo → (∀ i, i < k → decide (0 ≤ cRest M 1 pl rl c e (-(nI (i + 1)))) = false) → xG κ mX0_lean (d, 0, 0) (50, [some (.ref 123), some (.int (nI mo)), some (.int (-(nI (k + 1))))], [], M, z2) (xRet mX0_lean false (fun v M' n' => n' = 182 ∧ (v = some (.int (stN (cRest M 1 pl rl c e) mo)) ∧ M' = M))) := by
      intro n
      induction n with
      | zero =>
        intro k hk hno
        have hf := fF_no hno
        have hk2 : k = mo := by omega
        have hl1 : (-(nI (k + 1))).toInt = -((k : Int) + 1) := by rw [sb_negT (by omega)]; omega
        have hl2 : (-(nI mo)).toInt = -(mo : Int) := sb_negT (by omega)
        refine xG_run 3 rfl (by repeat' (first | exact trivial | assumption | exact xob_b rfl | exact xal_b rfl | (apply And.intro) | decide)) ?_
        refine xG_brT rfl (by rw [Int32.lt_iff_toInt_lt]; omega) ?_
        refine xG_run 1 rfl (by repeat' (first | exact trivial | assumption | exact xob_b rfl | exact xal_b rfl | (apply And.intro) | decide)) ?_
        refine r2_i rfl rfl ?_
        refine ⟨?_, rfl⟩
        unfold stN
        rw [if_neg h0, ← hk2, hf, if_neg (by omega)]
      | succ n ih =>
        intro k hk hno
        have hl1 : (-(nI (k + 1))).toInt = -((k : Int) + 1) := by rw [sb_negT (by omega)]; omega
        have hl2 : (-(nI mo)).toInt = -(mo : Int) := sb_negT (by omega)
        refine xG_run 3 rfl (by repeat' (first | exact trivial | assumption | exact xob_b rfl | exact xal_b rfl | (apply And.intro) | decide)) ?_
        refine xG_brF rfl (by rw [Int32.lt_iff_toInt_lt]; omega) ?_
        refine xG_run 2 rfl (by repeat' (first | exact trivial | assumption | exact xob_b rfl | exact xal_b rfl | (apply And.intro) | decide)) ?_
        refine xG_brF rfl (n3_lt (by omega)) ?_
        refine xG_run 2 rfl (by repeat' (first | exact trivial | assumption | exact xob_b rfl | exact xal_b rfl | (apply And.intro) | decide)) ?_
        refine xG_c2 1 rfl (by repeat' (first | exact trivial | assumption | exact xob_b rfl | exact xal_b rfl | (apply And.intro) | decide)) rfl rfl (by decide) cw_X0_restAt (d' := d - 1) (e_restAt1 (l := -(nI (k + 1))) hg (by omega) (by omega) (by omega)) (by omega) ?_
        rintro v M' ⟨rfl, hM⟩
        subst M'
        dsimp only [Option.toList, List.cons_append, List.nil_append]
        refine xG_run 2 rfl (by repeat' (first | exact trivial | assumption | exact xob_b rfl | exact xal_b rfl | (apply And.intro) | decide)) ?_
        refine xG_br rfl (fun h70 => ?_) (fun h70 => ?_)
        · refine xG_run 2 rfl (by repeat' (first | exact trivial | assumption | exact xob_b rfl | exact xal_b rfl | (apply And.intro) | decide)) ?_
          rw [nneg]
          refine ih (k + 1) (by omega) (fun i hi => ?_)
          by_cases e9 : i = k
          · subst e9
            exact decide_eq_false (fun q => absurd ((lg_lt0 _ _).mp h70) (Int64.not_lt.mpr q))
          · exact hno i (by omega)
        · refine xG_run 1 rfl (by repeat' (first | exact trivial | assumption | exact xob_b rfl | exact xal_b rfl | (apply And.intro) | decide)) ?_
          refine r2_i rfl rfl ?_
          have hy : decide (0 ≤ cRest M 1 pl rl c e (-(nI (k + 1)))) = true := decide_eq_true (Int64.not_lt.mp (fun q => h70 ((lg_lt0 _ _).mpr q)))
          have hf := fF_at hno hy (n := mo) (by omega)
          refine ⟨?_, rfl⟩
          unfold stN
          rw [if_neg h0, hf, if_pos (by omega)]
    exact lp _ 0 (Nat.add_zero _) (fun i hi => absurd hi (by omega))
  · refine xG_run 2 rfl (by repeat' (first | exact trivial | assumption | exact xob_b rfl | exact xal_b rfl | (apply And.intro) | decide)) ?_
    have h0 : 0 ≤ cRest M 1 pl rl c e 0 := Int64.not_lt.mp (fun q => h7 ((lg_lt0 _ _).mpr q))
    have lp : ∀ n k : Nat, n + k = min (mo + 1) 300 → (∀ i, i < k → decide (cRest M 1 pl rl c e (nI (i + 1)) < 0) = false) → xG κ mX0_lean (d, 0, 0) (12, [some (.ref 123), some (.int (nI mo)), some (.int (nI k))], [], M, z2) (xRet mX0_lean false (fun v M' n' => n' = 182 ∧ (v = some (.int (stN (cRest M 1 pl rl c e) mo)) ∧ M' = M))) := by
      intro n
      induction n with
      | zero =>
        intro k hk hno
        have hf := fF_no hno
        have hk2 : k = min (mo + 1) 300 := by omega
        by_cases hmo : mo < k
        · refine xG_run 2 rfl (by repeat' (first | exact trivial | assumption | exact xob_b rfl | exact xal_b rfl | (apply And.intro) | decide)) ?_
          refine xG_brT rfl (nI_lt hmo (by omega)) ?_
          refine xG_run 1 rfl (by repeat' (first | exact trivial | assumption | exact xob_b rfl | exact xal_b rfl | (apply And.intro) | decide)) ?_
          refine r2_i rfl rfl ?_
          refine ⟨?_, rfl⟩
          unfold stN
          rw [if_pos h0, ← hk2, hf, if_neg (by omega)]
        · have hk3 : k = 300 := by omega
          refine xG_run 2 rfl (by repeat' (first | exact trivial | assumption | exact xob_b rfl | exact xal_b rfl | (apply And.intro) | decide)) ?_
          refine xG_brF rfl (nI_nlt (by omega) (by omega)) ?_
          refine xG_run 2 rfl (by repeat' (first | exact trivial | assumption | exact xob_b rfl | exact xal_b rfl | (apply And.intro) | decide)) ?_
          refine xG_brT rfl (show nI 300 ≤ nI k from nI_le (by omega) (by omega)) ?_
          refine xG_run 1 rfl (by repeat' (first | exact trivial | assumption | exact xob_b rfl | exact xal_b rfl | (apply And.intro) | decide)) ?_
          refine r2_i rfl rfl ?_
          refine ⟨?_, rfl⟩
          unfold stN
          rw [if_pos h0, ← hk2, hf, if_neg (by omega)]
      | succ n ih =>
        intro k hk hno
        have hl1 : (nI k + 1).toInt = (k : Int) + 1 := by rw [nI_1, nI_ti (by omega)]; omega
        refine xG_run 2 rfl (by repeat' (first | exact trivial | assumption | exact xob_b rfl | exact xal_b rfl | (apply And.intro) | decide)) ?_
        refine xG_brF rfl (nI_nlt (by omega) (by omega)) ?_
        refine xG_run 2 rfl (by repeat' (first | exact trivial | assumption | exact xob_b rfl | exact xal_b rfl | (apply And.intro) | decide)) ?_
        refine xG_brF rfl (show ¬ nI 300 ≤ nI k from nI_ge (by omega) (by omega)) ?_
        refine xG_run 4 rfl (by repeat' (first | exact trivial | assumption | exact xob_b rfl | exact xal_b rfl | (apply And.intro) | decide)) ?_
        refine xG_c2 1 rfl (by repeat' (first | exact trivial | assumption | exact xob_b rfl | exact xal_b rfl | (apply And.intro) | decide)) rfl rfl (by decide) cw_X0_restAt (d' := d - 1) (e_restAt1 (l := nI k + 1) hg (by omega) (by omega) (by omega)) (by omega) ?_
        rintro v M' ⟨rfl, hM⟩
        subst M'
        dsimp only [Option.toList, List.cons_append, List.nil_append]
        refine xG_run 2 rfl (by repeat' (first | exact trivial | assumption | exact xob_b rfl | exact xal_b rfl | (apply And.intro) | decide)) ?_
        refine xG_br rfl (fun h33 => ?_) (fun h33 => ?_)
        · refine xG_run 2 rfl (by repeat' (first | exact trivial | assumption | exact xob_b rfl | exact xal_b rfl | (apply And.intro) | decide)) ?_
          rw [nI_1]
          refine ih (k + 1) (by omega) (fun i hi => ?_)
          by_cases e9 : i = k
          · subst e9
            rw [← nI_1]
            exact decide_eq_false (fun q => absurd ((lg_lt0 _ _).mpr q) (by have := (lg_ge0 _ _).mp h33; intro q2; exact absurd ((lg_lt0 _ _).mp q2) (Int64.not_lt.mpr this)))
          · exact hno i (by omega)
        · refine xG_run 1 rfl (by repeat' (first | exact trivial | assumption | exact xob_b rfl | exact xal_b rfl | (apply And.intro) | decide)) ?_
          refine r2_i rfl rfl ?_
          have hy : decide (cRest M 1 pl rl c e (nI (k + 1)) < 0) = true := decide_eq_true (by rw [← nI_1]; exact Int64.not_le.mp (fun q => h33 ((lg_ge0 _ _).mpr q)))
          have hf := fF_at hno hy (n := min (mo + 1) 300) (by omega)
          refine ⟨?_, rfl⟩
          unfold stN
          rw [if_pos h0, hf, if_pos (by omega)]
    exact lp _ 0 (Nat.add_zero _) (fun i hi => absurd hi (by omega))
set_option maxRecDepth 4000 in
theorem e_moment28 {κ : xKK} {d : Nat} {M : xM} {pl rl : Nat → Nat} {c e : Nat} {l : Int32} (hg : Gath M 28 pl rl c e) (hd : 2 ≤ d) : xE2 κ mX0_moment d [.ref 123, .int l] M (fun v M' => v = some (.long (cMom M 28 pl rl c e l)) ∧ M' = M) := by
  refine xE2_of ci_X0_moment cl_X0_moment cw_X0_moment rfl (L := [some (.ref 123), some (.int l), none, none, none]) rfl ?_
  refine xG_run 4 rfl (by repeat' (first | exact trivial | assumption | exact xob_b rfl | exact xal_b rfl | (apply And.intro) | decide)) ?_
  obtain ⟨g1, g2, g3, g4, g5, g6⟩ := hg
  refine xG_up (fun j => (5, [some (.ref 123), some (.int l), some (.long (lSum (fun j => cTp M l (28 + 5 + pl j)) j)), none, some (.int (nI j))], [], M, z2)) c ?_ ?_ 0 (Nat.zero_le _)
  · intro j hj ih
    have hj1 : (nI j).toNatClampNeg = j := nI_cl (by omega)
    have hq : xqr 125 182 (nI j) := xqr_n rfl 10 rfl (by omega) (by omega)
    have hx : xob (33 + pl j) 3 182 := xob_p28 (g5 j hj).2
    have hv : xrf (xpr z2.2.1 M 125 (nI j).toNatClampNeg) = .ref (33 + pl j) := by rw [hj1]; show xrf (gP M 125 j) = _; rw [(g5 j hj).1]; rfl
    refine xG_run 3 rfl (by repeat' (first | exact trivial | assumption | exact xob_b rfl | exact xal_b rfl | (apply And.intro) | decide)) ?_
    refine xG_brF rfl (by rw [g1]; exact nI_ge hj (by omega)) ?_
    refine xG_run 5 rfl (by repeat' (first | exact trivial | assumption | exact xob_b rfl | exact xal_b rfl | (apply And.intro) | decide)) ?_
    rw [hv]
    refine xG_c2 0 rfl (by repeat' (first | exact trivial | assumption | exact xob_b rfl | exact xal_b rfl | (apply And.intro) | decide)) rfl rfl (by decide) cw_X3_weight (d' := d - 1) (e_weight hx) (by omega) ?_
    rintro v M' ⟨rfl, hM⟩
    subst M'
    dsimp only [Option.toList, List.cons_append, List.nil_append]
    refine xG_run 4 rfl (by repeat' (first | exact trivial | assumption | exact xob_b rfl | exact xal_b rfl | (apply And.intro) | decide)) ?_
    rw [hv]
    refine xG_run 11 rfl (by repeat' (first | exact trivial | assumption | exact xob_b rfl | exact xal_b rfl | (apply And.intro) | decide)) ?_
    rw [nI_1]; exact ih
  · refine xG_run 3 rfl (by repeat' (first | exact trivial | assumption | exact xob_b rfl | exact xal_b rfl | (apply And.intro) | decide)) ?_
    refine xG_brT rfl (by rw [g1]; exact Int32.le_refl _) ?_
    refine xG_run 2 rfl (by repeat' (first | exact trivial | assumption | exact xob_b rfl | exact xal_b rfl | (apply And.intro) | decide)) ?_
    refine xG_up (fun j => (54, [some (.ref 123), some (.int l), some (.long (lAcc (lSum (fun j => cTp M l (28 + 5 + pl j)) c) (fun j => cTr M l (28 + 15 + rl j)) j)), none, some (.int (nI j))], [], M, z2)) e ?_ ?_ 0 (Nat.zero_le _)
    · intro j hj ih
      have hj1 : (nI j).toNatClampNeg = j := nI_cl (by omega)
      have hq : xqr 126 182 (nI j) := xqr_n rfl 12 rfl (by omega) (by omega)
      have hx : xob (43 + rl j) 5 182 := xob_r28 (g6 j hj).2
      have hv : xrf (xpr z2.2.1 M 126 (nI j).toNatClampNeg) = .ref (43 + rl j) := by rw [hj1]; show xrf (gP M 126 j) = _; rw [(g6 j hj).1]; rfl
      refine xG_run 3 rfl (by repeat' (first | exact trivial | assumption | exact xob_b rfl | exact xal_b rfl | (apply And.intro) | decide)) ?_
      refine xG_brF rfl (by rw [g2]; exact nI_ge hj (by omega)) ?_
      refine xG_run 5 rfl (by repeat' (first | exact trivial | assumption | exact xob_b rfl | exact xal_b rfl | (apply And.intro) | decide)) ?_
      rw [hv]
      refine xG_run 1 rfl (by repeat' (first | exact trivial | assumption | exact xob_b rfl | exact xal_b rfl | (apply And.intro) | decide)) ?_
      refine xG_c2 1 rfl (by repeat' (first | exact trivial | assumption | exact xob_b rfl | exact xal_b rfl | (apply And.intro) | decide)) rfl rfl (by decide) cw_X5_pullAt (d' := d - 1) (e_pullAt hx) (by omega) ?_
      rintro v M' ⟨rfl, hM⟩
      subst M'
      dsimp only [Option.toList, List.cons_append, List.nil_append]
      refine xG_run 5 rfl (by repeat' (first | exact trivial | assumption | exact xob_b rfl | exact xal_b rfl | (apply And.intro) | decide)) ?_
      rw [hv]
      refine xG_run 7 rfl (by repeat' (first | exact trivial | assumption | exact xob_b rfl | exact xal_b rfl | (apply And.intro) | decide)) ?_
      rw [hv]
      refine xG_run 7 rfl (by repeat' (first | exact trivial | assumption | exact xob_b rfl | exact xal_b rfl | (apply And.intro) | decide)) ?_
      rw [nI_1]; exact ih
    · refine xG_run 3 rfl (by repeat' (first | exact trivial | assumption | exact xob_b rfl | exact xal_b rfl | (apply And.intro) | decide)) ?_
      refine xG_brT rfl (by rw [g2]; exact Int32.le_refl _) ?_
      refine xG_run 1 rfl (by repeat' (first | exact trivial | assumption | exact xob_b rfl | exact xal_b rfl | (apply And.intro) | decide)) ?_
      refine r2_l rfl rfl ?_
      exact ⟨rfl, rfl⟩
set_option maxRecDepth 4000 in
theorem e_restAt28 {κ : xKK} {d : Nat} {M : xM} {pl rl : Nat → Nat} {c e : Nat} {l : Int32} (hg : Gath M 28 pl rl c e) (h1 : -300 ≤ l.toInt) (h2 : l.toInt ≤ 300) (hd : 3 ≤ d) : xE2 κ mX0_restAt d [.ref 123, .int l] M (fun v M' => v = some (.long (cRest M 28 pl rl c e l)) ∧ M' = M) := by
  refine xE2_of ci_X0_restAt cl_X0_restAt cw_X0_restAt rfl (L := [some (.ref 123), some (.int l)]) rfl ?_
  have hx := n3_in h1 h2
  refine xG_run 2 rfl (by repeat' (first | exact trivial | assumption | exact xob_b rfl | exact xal_b rfl | (apply And.intro) | decide)) ?_
  refine xG_brF rfl (n3_lt h1) ?_
  refine xG_run 2 rfl (by repeat' (first | exact trivial | assumption | exact xob_b rfl | exact xal_b rfl | (apply And.intro) | decide)) ?_
  refine xG_brT rfl (n3_le h2) ?_
  refine xG_run 11 rfl (by repeat' (first | exact trivial | assumption | exact xob_b rfl | exact xal_b rfl | (apply And.intro) | decide)) ?_
  refine xG_c2 1 rfl (by repeat' (first | exact trivial | assumption | exact xob_b rfl | exact xal_b rfl | (apply And.intro) | decide)) rfl rfl (by decide) cw_X0_moment (d' := d - 1) (e_moment28 hg (by omega)) (by omega) ?_
  rintro v M' ⟨rfl, hM⟩
  subst M'
  dsimp only [Option.toList, List.cons_append, List.nil_append]
  refine xG_run 1 rfl (by repeat' (first | exact trivial | assumption | exact xob_b rfl | exact xal_b rfl | (apply And.intro) | decide)) ?_
  refine r2_l rfl rfl ?_
  exact ⟨rfl, rfl⟩
set_option maxRecDepth 4000 in
theorem e_lean28 {κ : xKK} {d : Nat} {M : xM} {pl rl : Nat → Nat} {c e mo : Nat} (hg : Gath M 28 pl rl c e) (hmo : mo ≤ 300) (hd : 4 ≤ d) : xE2 κ mX0_lean d [.ref 123, .int (nI mo)] M (fun v M' => v = some (.int (stN (cRest M 28 pl rl c e) mo)) ∧ M' = M) := by
  refine xE2_of ci_X0_lean cl_X0_lean cw_X0_lean rfl (L := [some (.ref 123), some (.int (nI mo)), none]) rfl ?_
  refine xG_run 2 rfl (by repeat' (first | exact trivial | assumption | exact xob_b rfl | exact xal_b rfl | (apply And.intro) | decide)) ?_
  refine xG_c2 1 rfl (by repeat' (first | exact trivial | assumption | exact xob_b rfl | exact xal_b rfl | (apply And.intro) | decide)) rfl rfl (by decide) cw_X0_restAt (d' := d - 1) (e_restAt28 (l := 0) hg (by decide) (by decide) (by omega)) (by omega) ?_
  rintro v M' ⟨rfl, hM⟩
  subst M'
  dsimp only [Option.toList, List.cons_append, List.nil_append]
  refine xG_run 2 rfl (by repeat' (first | exact trivial | assumption | exact xob_b rfl | exact xal_b rfl | (apply And.intro) | decide)) ?_
  refine xG_br rfl (fun h7 => ?_) (fun h7 => ?_)
  · refine xG_run 2 rfl (by repeat' (first | exact trivial | assumption | exact xob_b rfl | exact xal_b rfl | (apply And.intro) | decide)) ?_
    have h0 : ¬ 0 ≤ cRest M 28 pl rl c e 0 := fun q => absurd ((lg_lt0 _ _).mp h7) (Int64.not_lt.mpr q)
    have lp : ∀ n k : Nat, n + k = mo → (∀ i, i < k → decide (0 ≤ cRest M 28 pl rl c e (-(nI (i + 1)))) = false) → xG κ mX0_lean (d, 0, 0) (50, [some (.ref 123), some (.int (nI mo)), some (.int (-(nI (k + 1))))], [], M, z2) (xRet mX0_lean false (fun v M' n' => n' = 182 ∧ (v = some (.int (stN (cRest M 28 pl rl c e) mo)) ∧ M' = M))) := by
      intro n
      induction n with
      | zero =>
        intro k hk hno
        have hf := fF_no hno
        have hk2 : k = mo := by omega
        have hl1 : (-(nI (k + 1))).toInt = -((k : Int) + 1) := by rw [sb_negT (by omega)]; omega
        have hl2 : (-(nI mo)).toInt = -(mo : Int) := sb_negT (by omega)
        refine xG_run 3 rfl (by repeat' (first | exact trivial | assumption | exact xob_b rfl | exact xal_b rfl | (apply And.intro) | decide)) ?_
        refine xG_brT rfl (by rw [Int32.lt_iff_toInt_lt]; omega) ?_
        refine xG_run 1 rfl (by repeat' (first | exact trivial | assumption | exact xob_b rfl | exact xal_b rfl | (apply And.intro) | decide)) ?_
        refine r2_i rfl rfl ?_
        refine ⟨?_, rfl⟩
        unfold stN
        rw [if_neg h0, ← hk2, hf, if_neg (by omega)]
      | succ n ih =>
        intro k hk hno
        have hl1 : (-(nI (k + 1))).toInt = -((k : Int) + 1) := by rw [sb_negT (by omega)]; omega
        have hl2 : (-(nI mo)).toInt = -(mo : Int) := sb_negT (by omega)
        refine xG_run 3 rfl (by repeat' (first | exact trivial | assumption | exact xob_b rfl | exact xal_b rfl | (apply And.intro) | decide)) ?_
        refine xG_brF rfl (by rw [Int32.lt_iff_toInt_lt]; omega) ?_
        refine xG_run 2 rfl (by repeat' (first | exact trivial | assumption | exact xob_b rfl | exact xal_b rfl | (apply And.intro) | decide)) ?_
        refine xG_brF rfl (n3_lt (by omega)) ?_
        refine xG_run 2 rfl (by repeat' (first | exact trivial | assumption | exact xob_b rfl | exact xal_b rfl | (apply And.intro) | decide)) ?_
        refine xG_c2 1 rfl (by repeat' (first | exact trivial | assumption | exact xob_b rfl | exact xal_b rfl | (apply And.intro) | decide)) rfl rfl (by decide) cw_X0_restAt (d' := d - 1) (e_restAt28 (l := -(nI (k + 1))) hg (by omega) (by omega) (by omega)) (by omega) ?_
        rintro v M' ⟨rfl, hM⟩
        subst M'
        dsimp only [Option.toList, List.cons_append, List.nil_append]
        refine xG_run 2 rfl (by repeat' (first | exact trivial | assumption | exact xob_b rfl | exact xal_b rfl | (apply And.intro) | decide)) ?_
        refine xG_br rfl (fun h70 => ?_) (fun h70 => ?_)
        · refine xG_run 2 rfl (by repeat' (first | exact trivial | assumption | exact xob_b rfl | exact xal_b rfl | (apply And.intro) | decide)) ?_
          rw [nneg]
          refine ih (k + 1) (by omega) (fun i hi => ?_)
          by_cases e9 : i = k
          · subst e9
            exact decide_eq_false (fun q => absurd ((lg_lt0 _ _).mp h70) (Int64.not_lt.mpr q))
          · exact hno i (by omega)
        · refine xG_run 1 rfl (by repeat' (first | exact trivial | assumption | exact xob_b rfl | exact xal_b rfl | (apply And.intro) | decide)) ?_
          refine r2_i rfl rfl ?_
          have hy : decide (0 ≤ cRest M 28 pl rl c e (-(nI (k + 1)))) = true := decide_eq_true (Int64.not_lt.mp (fun q => h70 ((lg_lt0 _ _).mpr q)))
          have hf := fF_at hno hy (n := mo) (by omega)
          refine ⟨?_, rfl⟩
          unfold stN
          rw [if_neg h0, hf, if_pos (by omega)]
    exact lp _ 0 (Nat.add_zero _) (fun i hi => absurd hi (by omega))
  · refine xG_run 2 rfl (by repeat' (first | exact trivial | assumption | exact xob_b rfl | exact xal_b rfl | (apply And.intro) | decide)) ?_
    have h0 : 0 ≤ cRest M 28 pl rl c e 0 := Int64.not_lt.mp (fun q => h7 ((lg_lt0 _ _).mpr q))
    have lp : ∀ n k : Nat, n + k = min (mo + 1) 300 → (∀ i, i < k → decide (cRest M 28 pl rl c e (nI (i + 1)) < 0) = false) → xG κ mX0_lean (d, 0, 0) (12, [some (.ref 123), some (.int (nI mo)), some (.int (nI k))], [], M, z2) (xRet mX0_lean false (fun v M' n' => n' = 182 ∧ (v = some (.int (stN (cRest M 28 pl rl c e) mo)) ∧ M' = M))) := by
      intro n
      induction n with
      | zero =>
        intro k hk hno
        have hf := fF_no hno
        have hk2 : k = min (mo + 1) 300 := by omega
        by_cases hmo : mo < k
        · refine xG_run 2 rfl (by repeat' (first | exact trivial | assumption | exact xob_b rfl | exact xal_b rfl | (apply And.intro) | decide)) ?_
          refine xG_brT rfl (nI_lt hmo (by omega)) ?_
          refine xG_run 1 rfl (by repeat' (first | exact trivial | assumption | exact xob_b rfl | exact xal_b rfl | (apply And.intro) | decide)) ?_
          refine r2_i rfl rfl ?_
          refine ⟨?_, rfl⟩
          unfold stN
          rw [if_pos h0, ← hk2, hf, if_neg (by omega)]
        · have hk3 : k = 300 := by omega
          refine xG_run 2 rfl (by repeat' (first | exact trivial | assumption | exact xob_b rfl | exact xal_b rfl | (apply And.intro) | decide)) ?_
          refine xG_brF rfl (nI_nlt (by omega) (by omega)) ?_
          refine xG_run 2 rfl (by repeat' (first | exact trivial | assumption | exact xob_b rfl | exact xal_b rfl | (apply And.intro) | decide)) ?_
          refine xG_brT rfl (show nI 300 ≤ nI k from nI_le (by omega) (by omega)) ?_
          refine xG_run 1 rfl (by repeat' (first | exact trivial | assumption | exact xob_b rfl | exact xal_b rfl | (apply And.intro) | decide)) ?_
          refine r2_i rfl rfl ?_
          refine ⟨?_, rfl⟩
          unfold stN
          rw [if_pos h0, ← hk2, hf, if_neg (by omega)]
      | succ n ih =>
        intro k hk hno
        have hl1 : (nI k + 1).toInt = (k : Int) + 1 := by rw [nI_1, nI_ti (by omega)]; omega
        refine xG_run 2 rfl (by repeat' (first | exact trivial | assumption | exact xob_b rfl | exact xal_b rfl | (apply And.intro) | decide)) ?_
        refine xG_brF rfl (nI_nlt (by omega) (by omega)) ?_
        refine xG_run 2 rfl (by repeat' (first | exact trivial | assumption | exact xob_b rfl | exact xal_b rfl | (apply And.intro) | decide)) ?_
        refine xG_brF rfl (show ¬ nI 300 ≤ nI k from nI_ge (by omega) (by omega)) ?_
        refine xG_run 4 rfl (by repeat' (first | exact trivial | assumption | exact xob_b rfl | exact xal_b rfl | (apply And.intro) | decide)) ?_
        refine xG_c2 1 rfl (by repeat' (first | exact trivial | assumption | exact xob_b rfl | exact xal_b rfl | (apply And.intro) | decide)) rfl rfl (by decide) cw_X0_restAt (d' := d - 1) (e_restAt28 (l := nI k + 1) hg (by omega) (by omega) (by omega)) (by omega) ?_
        rintro v M' ⟨rfl, hM⟩
        subst M'
        dsimp only [Option.toList, List.cons_append, List.nil_append]
        refine xG_run 2 rfl (by repeat' (first | exact trivial | assumption | exact xob_b rfl | exact xal_b rfl | (apply And.intro) | decide)) ?_
        refine xG_br rfl (fun h33 => ?_) (fun h33 => ?_)
        · refine xG_run 2 rfl (by repeat' (first | exact trivial | assumption | exact xob_b rfl | exact xal_b rfl | (apply And.intro) | decide)) ?_
          rw [nI_1]
          refine ih (k + 1) (by omega) (fun i hi => ?_)
          by_cases e9 : i = k
          · subst e9
            rw [← nI_1]
            exact decide_eq_false (fun q => absurd ((lg_lt0 _ _).mpr q) (by have := (lg_ge0 _ _).mp h33; intro q2; exact absurd ((lg_lt0 _ _).mp q2) (Int64.not_lt.mpr this)))
          · exact hno i (by omega)
        · refine xG_run 1 rfl (by repeat' (first | exact trivial | assumption | exact xob_b rfl | exact xal_b rfl | (apply And.intro) | decide)) ?_
          refine r2_i rfl rfl ?_
          have hy : decide (cRest M 28 pl rl c e (nI (k + 1)) < 0) = true := decide_eq_true (by rw [← nI_1]; exact Int64.not_le.mp (fun q => h33 ((lg_ge0 _ _).mpr q)))
          have hf := fF_at hno hy (n := min (mo + 1) 300) (by omega)
          refine ⟨?_, rfl⟩
          unfold stN
          rw [if_pos h0, hf, if_pos (by omega)]
    exact lp _ 0 (Nat.add_zero _) (fun i hi => absurd hi (by omega))
