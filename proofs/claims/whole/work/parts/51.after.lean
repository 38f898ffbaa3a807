/-! ===== a balance loaded with the trial mast, while what its sets name changes ===== -/
def cPs (M : xM) (np : Nat) : Int64 := lSum (fun i => cPu M 28 (33 + i) * (gI M (33 + i) 2).toInt64) np
def BL (M : xM) (S S2 : Int32) (np nr : Nat) : Prop := ∃ (pl rl : Nat → Nat) (c e : Nat), Gath M 28 pl rl c e ∧ (∀ T : Nat → Int64, lSum (fun k => T (pl k)) c = lSum (fun i => if xbd S i = true then T i else 0) np) ∧ (∀ T : Nat → Int64, lSum (fun k => T (rl k)) e = lSum (fun i => if xbd S2 i = true then T i else 0) nr) ∧ ∀ t, t ≤ 600 → gJ M 124 t = bSet M 28 np nr S S2 (nI t + (-300))
section BLS
variable {M M' C R : xM} {S S2 : Int32} {np nr ng m : Nat} {x : Int64}
theorem bSet_c {l : Int32} (hn : np ≤ 10) (hr : nr ≤ 12) (h1 : ∀ i k, i < np → xbd S i = false → gI M' (33 + i) k = gI M (33 + i) k) (h2 : ∀ i k, i < nr → xbd S2 i = false → gI M' (43 + i) k = gI M (43 + i) k) (h3 : gI M' 28 4 = gI M 28 4) : bSet M' 28 np nr S S2 l = bSet M 28 np nr S S2 l := by
  have e1 : lSum (fun i => if xbd S i = true then 0 else cTp M' l (28 + 5 + i)) np = lSum (fun i => if xbd S i = true then 0 else cTp M l (28 + 5 + i)) np := lSum_cong (fun i hi => by
    by_cases c : xbd S i = true
    · rw [if_pos c, if_pos c]
    · rw [if_neg c, if_neg c, cTp_eq (fun k => h1 i k hi (Bool.not_eq_true _ ▸ c))])
  have e2 : lSum (fun i => if xbd S2 i = true then 0 else cTr M' l (28 + 15 + i)) nr = lSum (fun i => if xbd S2 i = true then 0 else cTr M l (28 + 15 + i)) nr := lSum_cong (fun i hi => by
    by_cases c : xbd S2 i = true
    · rw [if_pos c, if_pos c]
    · rw [if_neg c, if_neg c, cTr_eq (fun k => h2 i k hi (Bool.not_eq_true _ ▸ c))])
  unfold bSet
  rw [lAcc_eq, lAcc_eq, e1, e2, h3]
theorem BL_u (h : BL M S S2 np nr) (hn : np ≤ 10) (hr : nr ≤ 12) (h1 : ∀ i k, i < np → xbd S i = false → gI M' (33 + i) k = gI M (33 + i) k) (h2 : ∀ i k, i < nr → xbd S2 i = false → gI M' (43 + i) k = gI M (43 + i) k) (h3 : gI M' 28 4 = gI M 28 4) (h4 : gI M' 123 2 = gI M 123 2 ∧ gI M' 123 4 = gI M 123 4) (h5 : ∀ t, gJ M' 124 t = gJ M 124 t) (h6 : ∀ k, gP M' 125 k = gP M 125 k ∧ gP M' 126 k = gP M 126 k) : BL M' S S2 np nr := by
  obtain ⟨pl, rl, c, e, ⟨g1, g2, g3, g4, g5, g6⟩, a1, a2, a3⟩ := h
  exact ⟨pl, rl, c, e, ⟨h4.1.trans g1, h4.2.trans g2, g3, g4, fun j hj => ⟨(h6 j).1.trans (g5 j hj).1, (g5 j hj).2⟩, fun j hj => ⟨(h6 j).2.trans (g6 j hj).1, (g6 j hj).2⟩⟩, a1, a2, fun t ht => (h5 t).trans ((a3 t ht).trans (bSet_c hn hr h1 h2 h3).symm)⟩
theorem cAll_x {C R : xM} (h : mR C m R 167 np nr ng) (hj : gJ R 166 18 = x) {l : Int32} (h1 : -300 ≤ l.toInt) (h2 : l.toInt ≤ 300) : cAll C m np nr l - x = rAll R np nr l := by
  have h0 : mR C m (sJ R 166 18 0) 167 np nr ng := mR_R h (fun _ => rfl)
  have e := q_All h0 (gJ_self _ _ _ _) h1 h2
  rw [e]
  unfold rAll
  rw [lAcc_eq, lAcc_eq, lAcc_eq, lAcc_eq, gJ_self, hj]
  show -0 - (gI R 167 1650).toInt64 * l.toInt64 + lSum (rTp R l) np + lSum (rTr R l) nr - x = -x - (gI R 167 1650).toInt64 * l.toInt64 + lSum (rTp R l) np + lSum (rTr R l) nr
  simp only [Int64.sub_eq_add_neg, show -(0 : Int64) = 0 by decide, Int64.zero_add]
  ac_rfl
theorem stN_x {C R : xM} (h : mR C m R 167 np nr ng) (hj : gJ R 166 18 = x) {mo : Nat} (hm : mo ≤ 300) : stN (fun l => cAll C m np nr l - x) mo = stN (rAll R np nr) mo := stN_cong hm (fun _ h1 h2 => cAll_x h hj h1 h2)
theorem BL_ld {M M' : xM} {pl rl : Nat → Nat} {c e : Nat} (hn : np ≤ 10) (hr : nr ≤ 12) (hg : Gath M' 28 pl rl c e) (hs : ∀ T : Nat → Int64, lSum (fun k => T (pl k)) c = lSum (fun i => if xbd S i = true then T i else 0) np) (ht : ∀ T : Nat → Int64, lSum (fun k => T (rl k)) e = lSum (fun i => if xbd S2 i = true then T i else 0) nr) (hB : bFr M M') (hB2 : ∀ t, t ≤ 600 → gJ M' 124 t = bSet M 28 np nr S S2 (nI t + (-300))) : BL M' S S2 np nr :=
  ⟨pl, rl, c, e, hg, hs, ht, fun t h => (hB2 t h).trans (bSet_c hn hr (fun i k hi _ => hB.1 _ _ (by omega)) (fun i k hi _ => hB.1 _ _ (by omega)) (hB.1 _ _ (by omega))).symm⟩
theorem cPs_c (hn : np ≤ 10) (h : ∀ i k, i < np → gI M' (33 + i) k = gI M (33 + i) k) (h2 : ∀ k, gI M' 28 k = gI M 28 k) (h3 : ∀ k, gI M' 31 k = gI M 31 k) : cPs M' np = cPs M np := lSum_cong (fun i hi => by rw [cPu_eq (fun k => h i k hi) h2 h3, h i _ hi])
end BLS
theorem e_leanB {κ : xKK} {d : Nat} {M : xM} {S S2 : Int32} {np nr mo : Nat} {x : Int64} (hB : BL M S S2 np nr) (hn : np ≤ 10) (hr : nr ≤ 12) (hp : gJ M 123 5 = cPs M np - x) (hmo : mo ≤ 300) (hd : 4 ≤ d) : xE2 κ mX0_lean d [.ref 123, .int (nI mo)] M (fun v M' => v = some (.int (stN (fun l => cAll M 28 np nr l - x) mo)) ∧ M' = M) := by
  obtain ⟨pl, rl, c, e, hg, hs, ht, hB2⟩ := hB
  refine xE2.imp (e_lean28 hg hmo hd) (fun v M' h => ⟨?_, h.2⟩)
  rw [h.1]
  congr 2
  refine stN_cong hmo (fun l h1 h2 => ?_)
  have e1 := cRest_all (M := M) (M' := sJ M 123 5 (cPs M np)) (m := 28) (np := np) (nr := nr) (S := S) (S2 := S2) (l := l) (pl := pl) (rl := rl) (c := c) (e := e) (by decide) hn hr (fun _ _ _ => rfl) hs ht (gJ_self _ _ _ _) (fun t ht => (gJ_ne (Or.inl (by decide))).trans (hB2 t ht)) h1 h2
  rw [← e1]
  unfold cRest
  rw [hp, gJ_self, gJ_ne (Or.inl (by decide))]
  have e2 : cMom (sJ M 123 5 (cPs M np)) 28 pl rl c e l = cMom M 28 pl rl c e l := rfl
  rw [e2]
  simp only [Int64.sub_eq_add_neg]
  ac_rfl
/-! the relation, when one number changes on both sides -/
section RU
variable {C R : xM} {m np nr ng : Nat} {w : Int32}
theorem mR_rope {q k : Nat} (h : mR C m R 167 np nr ng) (hq : q < nr) (hk : (k = 3 ∧ nr3 1 99 w) ∨ (k = 4 ∧ nr3 0 999 w) ∨ (k = 5 ∧ nr3 0 2 w)) : mR (sI C (m + 15 + q) k w) m (sI R 167 (70 + 6 * q + k) w) 167 np nr ng := by
  obtain ⟨a0, a1, a2, a3, a4, a5, a6, a7, a8, a9, a10⟩ := h
  have hC : ∀ x y, x ≠ m + 15 + q ∨ y ≠ k → gI (sI C (m + 15 + q) k w) x y = gI C x y := fun x y z => gI_ne z
  have hR : ∀ y, y ≠ 70 + 6 * q + k → gI (sI R 167 (70 + 6 * q + k) w) 167 y = gI R 167 y := fun y z => gI_ne (Or.inr z)
  have hk9 : 3 ≤ k ∧ k ≤ 5 := by omega
  refine ⟨a0, ⟨(hC _ _ (by omega)).trans a1.1, (hR _ (by omega)).trans a1.2⟩, ⟨(hC _ _ (by omega)).trans a2.1, (hR _ (by omega)).trans a2.2⟩, ⟨(hC _ _ (by omega)).trans a3.1, (hR _ (by omega)).trans a3.2⟩, ⟨?_, ?_⟩, ⟨?_, ?_⟩, ⟨?_, ?_⟩, fun j hj => ⟨?_, ?_⟩, fun j hj => ⟨?_, ?_⟩, fun p hp => ?_, fun r hr => ?_⟩
  · rw [hC _ _ (by omega), hR _ (by omega)]; exact a4.1
  · rw [hR _ (by omega)]; exact a4.2
  · rw [hC _ _ (by omega), hR _ (by omega)]; exact a5.1
  · rw [hR _ (by omega)]; exact a5.2
  · rw [hC _ _ (by omega), hR _ (by omega)]; exact a6.1
  · rw [hR _ (by omega)]; exact a6.2
  · rw [hC _ _ (by omega), hR _ (by omega)]; exact (a7 j hj).1
  · rw [hR _ (by omega)]; exact (a7 j hj).2
  · rw [hC _ _ (by omega), hR _ (by omega)]; exact (a8 j hj).1
  · rw [hR _ (by omega)]; exact (a8 j hj).2
  · refine ⟨⟨(hC _ _ (by omega)).trans (a9 p hp).1.1, fun j hj => ?_⟩, pB_c (fun j hj => hR _ (by omega)) (a9 p hp).2⟩
    rw [hC _ _ (by omega), hR _ (by omega)]
    exact (a9 p hp).1.2 j hj
  · obtain ⟨⟨b1, b2⟩, b3⟩ := a10 r hr
    have b3' := b3
    obtain ⟨⟨hh, h1, h2⟩, b4, b5, b6, b7, b8⟩ := b3'
    have z0 : gI (sI R 167 (70 + 6 * q + k) w) 167 (70 + 6 * r) = gI R 167 (70 + 6 * r) := hR _ (by omega)
    have z2 : gI (sI R 167 (70 + 6 * q + k) w) 167 (70 + 6 * r + 2) = gI R 167 (70 + 6 * r + 2) := hR _ (by omega)
    refine ⟨⟨fun j hj => ?_, ?_⟩, ⟨hh, h1, z0.trans h2⟩, ?_, ?_, ?_, ?_, ?_⟩
    · rw [gIsI, gIsI]
      by_cases c : r = q ∧ j = k
      · rw [if_pos ⟨by omega, c.2⟩, if_pos ⟨rfl, by omega⟩]
      · rw [if_neg (by omega), if_neg (by omega)]; exact b1 j hj
    · rw [hC _ _ (by omega), b2]; exact (aA_c h2 (by omega) z0 z2 (hR _ (by omega))).symm
    · rw [hR _ (by omega)]; exact b4
    · rw [z2]; exact b5
    · rw [gIsI]
      by_cases c : 167 = 167 ∧ 70 + 6 * r + 3 = 70 + 6 * q + k
      · rw [if_pos c]; rcases hk with hk | hk | hk
        · exact hk.2
        · omega
        · omega
      · rw [if_neg c]; exact b6
    · rw [gIsI]
      by_cases c : 167 = 167 ∧ 70 + 6 * r + 4 = 70 + 6 * q + k
      · rw [if_pos c]; rcases hk with hk | hk | hk
        · omega
        · exact hk.2
        · omega
      · rw [if_neg c]; exact b7
    · rw [gIsI]
      by_cases c : 167 = 167 ∧ 70 + 6 * r + 5 = 70 + 6 * q + k
      · rw [if_pos c]; rcases hk with hk | hk | hk
        · omega
        · omega
        · exact hk.2
      · rw [if_neg c]; exact b8
theorem mR_piece {q k : Nat} (h : mR C m R 167 np nr ng) (hq : q < np) (hk : (k = 5 ∧ nr3 0 20 w) ∨ (k = 6 ∧ nr3 0 100 w)) : mR (sI C (m + 5 + q) (k + 1) w) m (sI R 167 (7 * q + k) w) 167 np nr ng := by
  obtain ⟨a0, a1, a2, a3, a4, a5, a6, a7, a8, a9, a10⟩ := h
  have hC : ∀ x y, x ≠ m + 5 + q ∨ y ≠ k + 1 → gI (sI C (m + 5 + q) (k + 1) w) x y = gI C x y := fun x y z => gI_ne z
  have hR : ∀ y, y ≠ 7 * q + k → gI (sI R 167 (7 * q + k) w) 167 y = gI R 167 y := fun y z => gI_ne (Or.inr z)
  have hk9 : 5 ≤ k ∧ k ≤ 6 := by omega
  refine ⟨a0, ⟨(hC _ _ (by omega)).trans a1.1, (hR _ (by omega)).trans a1.2⟩, ⟨(hC _ _ (by omega)).trans a2.1, (hR _ (by omega)).trans a2.2⟩, ⟨(hC _ _ (by omega)).trans a3.1, (hR _ (by omega)).trans a3.2⟩, ⟨?_, ?_⟩, ⟨?_, ?_⟩, ⟨?_, ?_⟩, fun j hj => ⟨?_, ?_⟩, fun j hj => ⟨?_, ?_⟩, fun p hp => ?_, fun r hr => ?_⟩
  · rw [hC _ _ (by omega), hR _ (by omega)]; exact a4.1
  · rw [hR _ (by omega)]; exact a4.2
  · rw [hC _ _ (by omega), hR _ (by omega)]; exact a5.1
  · rw [hR _ (by omega)]; exact a5.2
  · rw [hC _ _ (by omega), hR _ (by omega)]; exact a6.1
  · rw [hR _ (by omega)]; exact a6.2
  · rw [hC _ _ (by omega), hR _ (by omega)]; exact (a7 j hj).1
  · rw [hR _ (by omega)]; exact (a7 j hj).2
  · rw [hC _ _ (by omega), hR _ (by omega)]; exact (a8 j hj).1
  · rw [hR _ (by omega)]; exact (a8 j hj).2
  · obtain ⟨⟨b1, b2⟩, b3, b4, b5, b6, b7, b8, b9⟩ := a9 p hp
    refine ⟨⟨(hC _ _ (by omega)).trans b1, fun j hj => ?_⟩, ?_, ?_, ?_, ?_, ?_, ?_, ?_⟩
    · rw [gIsI, gIsI]
      by_cases c : p = q ∧ j = k
      · rw [if_pos ⟨by omega, by omega⟩, if_pos ⟨rfl, by omega⟩]
      · rw [if_neg (by omega), if_neg (by omega)]; exact b2 j hj
    · rw [hR _ (by omega)]; exact b3
    · rw [hR _ (by omega)]; exact b4
    · rw [hR _ (by omega)]; exact b5
    · rw [hR _ (by omega)]; exact b6
    · rw [hR _ (by omega)]; exact b7
    · rw [gIsI]
      by_cases c : 167 = 167 ∧ 7 * p + 5 = 7 * q + k
      · rw [if_pos c]; rcases hk with hk | hk
        · exact hk.2
        · omega
      · rw [if_neg c]; exact b8
    · rw [gIsI]
      by_cases c : 167 = 167 ∧ 7 * p + 6 = 7 * q + k
      · rw [if_pos c]; rcases hk with hk | hk
        · omega
        · exact hk.2
      · rw [if_neg c]; exact b9
  · exact ⟨qR_R (a10 r hr).2 a0.1 (fun j hj => hR _ (by omega)) (fun p hp => hR _ (by omega)) ⟨fun j hj => (hC _ _ (by omega)).trans ((a10 r hr).1.1 j hj), (hC _ _ (by omega)).trans (a10 r hr).1.2⟩, qB_c (fun j hj => hR _ (by omega)) (by omega) (a10 r hr).2⟩
/-- the trial mast holds what the mast held -/
theorem mR_tk {M : xM} {a b : Nat} (hab : a + 27 ≤ b ∨ b + 27 ≤ a) (h : mR M b R 167 np nr ng) : mR (tkM M a b) a R 167 np nr ng := by
  obtain ⟨t1, t2, t3, t4, t5, -⟩ := tkM_R (M := M) hab
  obtain ⟨a0, a1, a2, a3, a4, a5, a6, a7, a8, a9, a10⟩ := h
  exact ⟨a0, ⟨(t1 1 (by omega)).trans a1.1, a1.2⟩, ⟨(t1 3 (by omega)).trans a2.1, a2.2⟩, ⟨(t1 9 (by omega)).trans a3.1, a3.2⟩, ⟨(t1 4 (by omega)).trans a4.1, a4.2⟩, ⟨(t1 5 (by omega)).trans a5.1, a5.2⟩, ⟨(t1 6 (by omega)).trans a6.1, a6.2⟩, fun k hk => ⟨(t2 k hk).trans (a7 k hk).1, (a7 k hk).2⟩, fun k hk => ⟨(t3 k hk).trans (a8 k hk).1, (a8 k hk).2⟩, fun p hp => ⟨⟨(t4 p 0 (by omega) (by omega)).trans (a9 p hp).1.1, fun k hk => (t4 p (k + 1) (by omega) (by omega)).trans ((a9 p hp).1.2 k hk)⟩, (a9 p hp).2⟩, fun q hq => ⟨⟨fun k hk => (t5 q k (by omega) (by omega)).trans ((a10 q hq).1.1 k hk), (t5 q 6 (by omega) (by omega)).trans (a10 q hq).1.2⟩, (a10 q hq).2⟩⟩
end RU
