/-! ===== what a statement does ===== -/
def gL (l : List Int32) : Prop := ∀ i, i < l.length → nr3 0 999 (l.getD i 0)
section TA
variable {T : Nat → Int32} {n : Nat}
theorem gL_a {l : List Int32} {v : Int32} (h : gL l) (hv : nr3 0 999 v) : gL (l ++ [v]) := fun i hi => by
  rw [List.length_append] at hi
  have e1 : [v].length = 1 := rfl
  by_cases c : i < l.length
  · have := h i c
    simpa [List.getD_eq_getElem?_getD, List.getElem?_append_left c] using this
  · have e : i = l.length := by omega
    subst e
    simpa [List.getD_eq_getElem?_getD] using hv
theorem rd1_ok {it : Nat} {s : tsT} (h : (rd1 T n it s).1 = true) : s.1 = true ∧ (rd1 T n it s).2.2.1.length = s.2.2.1.length + (if it = 0 then 1 else 0) ∧ (gL s.2.2.1 → gL (rd1 T n it s).2.2.1) ∧ ((s.2.2.2 = 1 ∨ s.2.2.2 = -1) ∨ it = 1 → (rd1 T n it s).2.2.2 = 1 ∨ (rd1 T n it s).2.2.2 = -1) := by
  obtain ⟨ok, p, l, sd⟩ := s
  cases ok
  · rw [rd1_f rfl] at h; cases h
  · refine ⟨rfl, ?_⟩
    by_cases c0 : it = 0
    · subst c0
      by_cases c : nL T n p = 0
      · rw [rd1_nf c] at h; cases h
      · rw [rd1_nt (l := l) (sd := sd) ⟨rfl, rfl⟩ c]
        refine ⟨by rw [List.length_append]; rfl, fun g => gL_a g ?_, fun g => ?_⟩
        · exact nV_b c
        · exact g.resolve_right (by decide)
    · by_cases c1 : it = 1
      · subst c1
        by_cases c2 : chr T n p = 101
        · rw [rd1_se c2]; exact ⟨rfl, id, fun _ => Or.inl rfl⟩
        · by_cases c3 : chr T n p = 119
          · rw [rd1_sw c2 c3]; exact ⟨rfl, id, fun _ => Or.inr rfl⟩
          · rw [rd1_sf c2 c3] at h; cases h
      · by_cases c2 : chr T n p = nI it
        · rw [rd1_ct c0 c1 c2]; exact ⟨by rw [if_neg c0]; rfl, id, fun g => g.resolve_right c1⟩
        · rw [rd1_cf c0 c1 c2] at h; cases h
theorem rdS_ok : ∀ {L : List Nat} {s : tsT}, (rdS T n L s).1 = true → s.1 = true ∧ (rdS T n L s).2.2.1.length = s.2.2.1.length + L.count 0 ∧ (gL s.2.2.1 → gL (rdS T n L s).2.2.1) ∧ ((s.2.2.2 = 1 ∨ s.2.2.2 = -1) ∨ 1 ∈ L → (rdS T n L s).2.2.2 = 1 ∨ (rdS T n L s).2.2.2 = -1)
  | [], s, h => ⟨h, rfl, id, fun g => g.resolve_right List.not_mem_nil⟩
  | it :: L, s, h => by
    rw [rdS] at h ⊢
    obtain ⟨a1, a2, a3, a4⟩ := rdS_ok (L := L) h
    obtain ⟨b1, b2, b3, b4⟩ := rd1_ok (T := T) (n := n) a1
    refine ⟨b1, ?_, fun g => a3 (b3 g), fun g => a4 ?_⟩
    · rw [a2, b2, List.count_cons]
      by_cases c : it = 0
      · subst c
        have e : ((0 : Nat) == 0) = true := rfl
        rw [if_pos rfl, if_pos e]
        omega
      · have e : ¬ (it == 0) = true := fun q => c (eq_of_beq q)
        rw [if_neg c, if_neg e]
        omega
    · rcases g with g | g
      · exact Or.inl (b4 (Or.inl g))
      · rcases List.mem_cons.mp g with g | g
        · exact Or.inl (b4 (Or.inr g.symm))
        · exact Or.inr g
/-- a statement that is well: how many numbers, within which bounds, and its side -/
theorem stS_ok {p : Nat} {sd : Int32} (h : (stS T n p sd).1 = true) : gL (stS T n p sd).2.2.1 ∧ ((chr T n p = 112 ∧ (stS T n p sd).2.2.1.length = 5) ∨ (¬ chr T n p = 112 ∧ chr T n p = 114 ∧ (stS T n p sd).2.2.1.length = 4 ∧ ((stS T n p sd).2.2.2 = 1 ∨ (stS T n p sd).2.2.2 = -1)) ∨ (¬ chr T n p = 112 ∧ ¬ chr T n p = 114 ∧ chr T n p = 102 ∧ (stS T n p sd).2.2.1.length = 1)) := by
  have g0 : gL [] := fun i hi => absurd hi (Nat.not_lt_zero _)
  unfold stS at h ⊢
  by_cases c : chr T n p = 112
  · rw [if_pos c] at h ⊢
    obtain ⟨-, a2, a3, -⟩ := rdS_ok h
    exact ⟨a3 g0, Or.inl ⟨c, a2⟩⟩
  · rw [if_neg c] at h ⊢
    by_cases c2 : chr T n p = 114
    · rw [if_pos c2] at h ⊢
      obtain ⟨-, a2, a3, a4⟩ := rdS_ok h
      exact ⟨a3 g0, Or.inr (Or.inl ⟨c, c2, a2, a4 (Or.inr (by decide))⟩)⟩
    · rw [if_neg c2] at h ⊢
      by_cases c3 : chr T n p = 102
      · rw [if_pos c3] at h ⊢
        obtain ⟨-, a2, a3, -⟩ := rdS_ok h
        exact ⟨a3 g0, Or.inr (Or.inr ⟨c, c2, c3, a2⟩)⟩
      · rw [if_neg c3] at h; cases h
theorem rd1_eq {s s' : tsT} (h : tsQ s s') (ok : (rd1 T n 1 s).1 = true) : rd1 T n 1 s = rd1 T n 1 s' := by
  obtain ⟨o1, p, l, sd⟩ := s
  obtain ⟨o2, p', l', sd'⟩ := s'
  obtain ⟨h1, h2, h3⟩ := h
  dsimp only at h1 h2 h3
  subst h1 h2 h3
  cases o1
  · rw [rd1_f rfl] at ok; cases ok
  · by_cases c2 : chr T n p = 101
    · rw [rd1_se c2, rd1_se c2]
    · by_cases c3 : chr T n p = 119
      · rw [rd1_sw c2 c3, rd1_sw c2 c3]
      · rw [rd1_sf c2 c3] at ok; cases ok
theorem stS_sd {p : Nat} {sd sd' : Int32} (h : (stS T n p sd).1 = true) (c : chr T n p = 114) : (stS T n p sd).2.2.2 = (stS T n p sd').2.2.2 := by
  have c1 : ¬ chr T n p = 112 := by rw [c]; decide
  unfold stS at h ⊢
  rw [if_neg c1, if_pos c] at h ⊢
  rw [if_neg c1, if_pos c]
  have e : ∀ x, rdS T n ([0, 32, 1, 32] ++ [0, 32, 0, 32, 0] ++ [59]) (true, p + 1, [], x) = rdS T n [32, 0, 32, 0, 32, 0, 59] (rd1 T n 1 (rd1 T n 32 (rd1 T n 0 (true, p + 1, [], x)))) := fun _ => rfl
  rw [e] at h
  rw [e, e, rd1_eq (rd1_q (rd1_q (s := (true, p + 1, [], sd)) (s' := (true, p + 1, [], sd')) ⟨rfl, rfl, rfl⟩)) (rdS_ok h).1]
end TA
abbrev rB (R : xM) (np : Nat) : Int32 := if np = 0 then 0 else rs R (np - 1) 1
abbrev tlA (a : Nat → Int32) (sd : Int32) (i : Nat) : Int32 := if i = 0 then a 0 else if i = 1 then sd else if i < 5 then a (i - 1) else 0
def pcM (R : xM) (np : Nat) (a : Nat → Int32) : xM := (fun x k => if x = 167 ∧ 7 * np ≤ k ∧ k < 7 * np + 7 then (if k < 7 * np + 5 then a (k - 7 * np) else 0) else if x = 167 ∧ k = 1643 then nI (np + 1) else gI R x k, R.2.1, R.2.2)
def rpM (R : xM) (nr : Nat) (a : Nat → Int32) (sd : Int32) : xM := (fun x k => if x = 167 ∧ 70 + 6 * nr ≤ k ∧ k < 70 + 6 * nr + 6 then tlA a sd (k - (70 + 6 * nr)) else if x = 167 ∧ k = 1644 then nI (nr + 1) else gI R x k, R.2.1, R.2.2)
abbrev acA (R : xM) (np nr : Nat) (c : Int32) (a : Nat → Int32) : Prop := (c = 112 → pcA np (rB R np) a) ∧ (c = 114 → rpA np nr a)
def acM (R : xM) (np nr : Nat) (c : Int32) (a : Nat → Int32) (sd : Int32) : xM := if c = 112 then pcM R np a else if c = 114 then rpM R nr a sd else sI R 167 1650 (a 0)
section RM
variable {C C' R R' : xM} {m np nr ng : Nat} {a : Nat → Int32} {sd : Int32}
theorem pcM_g {x k : Nat} : gI (pcM R np a) x k = if x = 167 ∧ 7 * np ≤ k ∧ k < 7 * np + 7 then (if k < 7 * np + 5 then a (k - 7 * np) else 0) else if x = 167 ∧ k = 1643 then nI (np + 1) else gI R x k := rfl
theorem rpM_g {x k : Nat} : gI (rpM R nr a sd) x k = if x = 167 ∧ 70 + 6 * nr ≤ k ∧ k < 70 + 6 * nr + 6 then tlA a sd (k - (70 + 6 * nr)) else if x = 167 ∧ k = 1644 then nI (nr + 1) else gI R x k := rfl
theorem pc_o {x k : Nat} (h : ¬ (x = 167 ∧ 7 * np ≤ k ∧ k < 7 * np + 7) ∧ ¬ (x = 167 ∧ k = 1643)) : gI (pcM R np a) x k = gI R x k := by rw [pcM_g, if_neg h.1, if_neg h.2]
theorem pc_i {k : Nat} (h : k < 7) : gI (pcM R np a) 167 (7 * np + k) = if k < 5 then a k else 0 := by
  rw [pcM_g, if_pos (by omega), show 7 * np + k - 7 * np = k by omega]
  by_cases c : k < 5
  · rw [if_pos c, if_pos (by omega)]
  · rw [if_neg c, if_neg (by omega)]
theorem rp_o {x k : Nat} (h : ¬ (x = 167 ∧ 70 + 6 * nr ≤ k ∧ k < 70 + 6 * nr + 6) ∧ ¬ (x = 167 ∧ k = 1644)) : gI (rpM R nr a sd) x k = gI R x k := by rw [rpM_g, if_neg h.1, if_neg h.2]
theorem rp_i {k : Nat} (h : k < 6) : gI (rpM R nr a sd) 167 (70 + 6 * nr + k) = tlA a sd k := by rw [rpM_g, if_pos (by omega), show 70 + 6 * nr + k - (70 + 6 * nr) = k by omega]
theorem cpc_o {x k : Nat} (h : x ≠ 6 + np ∧ ¬ (x = 1 ∧ k = 1)) : gI (cpcM C np a) x k = gI C x k := by unfold cpcM; simp (disch := omega) only [g_ne]
theorem crp_o {x k h : Nat} (q : x ≠ 16 + nr ∧ ¬ (x = 1 ∧ k = 3)) : gI (crpM C nr h a sd) x k = gI C x k := by unfold crpM; simp (disch := omega) only [g_ne]
theorem aA_c {q h : Nat} (e : gI R 167 (70 + 6 * q) = nI h) (hh : h < 100) (e0 : gI R' 167 (70 + 6 * q) = gI R 167 (70 + 6 * q)) (e1 : gI R' 167 (70 + 6 * q + 2) = gI R 167 (70 + 6 * q + 2)) (e2 : gI R' 167 (7 * h + 1) = gI R 167 (7 * h + 1)) : aA R' 167 q = aA R 167 q := by
  have c : (nI h).toNatClampNeg = h := nI_cl (by omega)
  unfold aA aA0
  rw [e0, e1, e, c, e2]
/-- the class's cells that count are the same -/
theorem mR_C (hm : mR C m R 167 np nr ng) (h1 : ∀ k, k = 1 ∨ k = 3 ∨ k = 4 ∨ k = 5 ∨ k = 6 ∨ k = 9 → gI C' m k = gI C m k) (h2 : ∀ k, gI C' (m + 3) k = gI C (m + 3) k) (h3 : ∀ k, gI C' (m + 4) k = gI C (m + 4) k) (h4 : ∀ p k, p < np → gI C' (m + 5 + p) k = gI C (m + 5 + p) k) (h5 : ∀ q k, q < nr → gI C' (m + 15 + q) k = gI C (m + 15 + q) k) : mR C' m R 167 np nr ng := by
  obtain ⟨a0, a1, a2, a3, a4, a5, a6, a7, a8, a9, a10⟩ := hm
  refine ⟨a0, ⟨(h1 1 (by omega)).trans a1.1, a1.2⟩, ⟨(h1 3 (by omega)).trans a2.1, a2.2⟩, ⟨(h1 9 (by omega)).trans a3.1, a3.2⟩, ⟨(h1 4 (by omega)).trans a4.1, a4.2⟩, ⟨(h1 5 (by omega)).trans a5.1, a5.2⟩, ⟨(h1 6 (by omega)).trans a6.1, a6.2⟩, fun k hk => ⟨(h2 k).trans (a7 k hk).1, (a7 k hk).2⟩, fun k hk => ⟨(h3 k).trans (a8 k hk).1, (a8 k hk).2⟩, fun p hp => ⟨⟨(h4 p 0 hp).trans (a9 p hp).1.1, fun k hk => (h4 p (k + 1) hp).trans ((a9 p hp).1.2 k hk)⟩, (a9 p hp).2⟩, fun q hq => ⟨⟨fun k hk => (h5 q k hq).trans ((a10 q hq).1.1 k hk), (h5 q 6 hq).trans (a10 q hq).1.2⟩, (a10 q hq).2⟩⟩
theorem mR_R (hm : mR C m R 167 np nr ng) (h : ∀ k, gI R' 167 k = gI R 167 k) : mR C m R' 167 np nr ng := by
  unfold mR pR pB qR qB aA aA0 at *
  simp only [h]
  exact hm
theorem pB_c {p : Nat} (h : ∀ k, k < 7 → gI R' 167 (7 * p + k) = gI R 167 (7 * p + k)) (b : pB R 167 p) : pB R' 167 p := by
  unfold pB at *
  rw [show 7 * p = 7 * p + 0 by omega, h 0 (by omega), h 1 (by omega), h 2 (by omega), h 3 (by omega), h 4 (by omega), h 5 (by omega), h 6 (by omega)]
  exact b
theorem qB_c {q : Nat} (h : ∀ k, k < 6 → gI R' 167 (70 + 6 * q + k) = gI R 167 (70 + 6 * q + k)) {np' : Nat} (hn : np ≤ np') (b : qB R 167 np q) : qB R' 167 np' q := by
  unfold qB at *
  have h0 := h 0 (by omega)
  rw [Nat.add_zero] at h0
  rw [h0, h 1 (by omega), h 2 (by omega), h 3 (by omega), h 4 (by omega), h 5 (by omega)]
  exact ⟨⟨b.1.choose, by have := b.1.choose_spec.1; omega, b.1.choose_spec.2⟩, b.2⟩
theorem qR_R {q : Nat} (b : qB R 167 np q) (hn : np ≤ 10) (h : ∀ k, k < 6 → gI R' 167 (70 + 6 * q + k) = gI R 167 (70 + 6 * q + k)) (h2 : ∀ p, p < np → gI R' 167 (7 * p + 1) = gI R 167 (7 * p + 1)) (r : qR C m R 167 q) : qR C m R' 167 q := by
  obtain ⟨⟨x, hx, ex⟩, -⟩ := b
  have h0 := h 0 (by omega)
  rw [Nat.add_zero] at h0
  exact ⟨fun k hk => (r.1 k hk).trans (h k hk).symm, r.2.trans (aA_c ex (by omega) h0 (h 2 (by omega)) (h2 x hx)).symm⟩
theorem lI {x : Int32} {k : Nat} (h : x ≤ nI k) (hk : k < 2147483648) : x.toInt ≤ k := by rw [Int32.le_iff_toInt_le, nI_ti hk] at h; exact h
theorem gI1 {x : Int32} (h : 1 ≤ x) : 1 ≤ x.toInt := by rw [Int32.le_iff_toInt_le] at h; exact h
theorem mR_pc (hm : mR C 1 R 167 np nr ng) (hA : pcA np (rB R np) a) (hb : ∀ k, k < 5 → nr3 0 999 (a k)) : mR (cpcM C np a) 1 (pcM R np a) 167 (np + 1) nr ng := by
  obtain ⟨a0, a1, a2, a3, a4, a5, a6, a7, a8, a9, a10⟩ := hm
  obtain ⟨y1, y2, y3, y4, y5, y6, y7, y8, y9⟩ := hA
  have hR : ∀ k, k < 7 * np ∨ 70 ≤ k ∧ k ≠ 1643 → gI (pcM R np a) 167 k = gI R 167 k := fun k hk => pc_o (by omega)
  have z1 : (a 1).toInt ≥ 1 := by
    have hc : 0 ≤ (rB R np).toInt := by
      unfold rB
      by_cases c : np = 0
      · rw [if_pos c]; decide
      · rw [if_neg c]; have := (a9 (np - 1) (by omega)).2.2.1.1; exact Int.le_trans (by decide) this
    rw [Int32.lt_iff_toInt_lt] at y3
    omega
  refine ⟨⟨by omega, a0.2⟩, ⟨?_, ?_⟩, ⟨(cpc_o (by omega)).trans a2.1, (hR _ (by omega)).trans a2.2⟩, ⟨(cpc_o (by omega)).trans a3.1, (hR _ (by omega)).trans a3.2⟩, ⟨?_, ?_⟩, ⟨?_, ?_⟩, ⟨?_, ?_⟩, fun k hk => ⟨?_, ?_⟩, fun k hk => ⟨?_, ?_⟩, fun p hp => ?_, fun q hq => ?_⟩
  · unfold cpcM; rw [gI_self]
  · rw [pcM_g, if_neg (by omega), if_pos ⟨rfl, rfl⟩]
  · rw [cpc_o (by omega), hR _ (by omega)]; exact a4.1
  · rw [hR _ (by omega)]; exact a4.2
  · rw [cpc_o (by omega), hR _ (by omega)]; exact a5.1
  · rw [hR _ (by omega)]; exact a5.2
  · rw [cpc_o (by omega), hR _ (by omega)]; exact a6.1
  · rw [hR _ (by omega)]; exact a6.2
  · rw [cpc_o (by omega), hR _ (by omega)]; exact (a7 k hk).1
  · rw [hR _ (by omega)]; exact (a7 k hk).2
  · rw [cpc_o (by omega), hR _ (by omega)]; exact (a8 k hk).1
  · rw [hR _ (by omega)]; exact (a8 k hk).2
  · by_cases c : p < np
    · refine ⟨⟨(cpc_o (by omega)).trans (a9 p c).1.1, fun k hk => ?_⟩, pB_c (fun k hk => hR _ (by omega)) (a9 p c).2⟩
      rw [cpc_o (by omega), hR _ (by omega)]
      exact (a9 p c).1.2 k hk
    · have e : p = np := by omega
      subst e
      refine ⟨⟨?_, fun k hk => ?_⟩, ?_⟩
      · unfold cpcM; simp (disch := omega) only [g_ne, g_eq]
      · rw [pc_i hk]
        rcases (show k = 0 ∨ k = 1 ∨ k = 2 ∨ k = 3 ∨ k = 4 ∨ k = 5 ∨ k = 6 by omega) with rfl | rfl | rfl | rfl | rfl | rfl | rfl <;> (unfold cpcM; simp (disch := omega) only [g_ne, g_eq]; rfl)
      · unfold pB
        have e0 := pc_i (R := R) (np := p) (a := a) (k := 0) (by omega)
        rw [Nat.add_zero] at e0
        rw [e0, pc_i (by omega), pc_i (by omega), pc_i (by omega), pc_i (by omega), pc_i (by omega), pc_i (by omega)]
        have l0 := hb 0 (by omega)
        have l3 := hb 3 (by omega)
        exact ⟨⟨l0.1, lI (k := 3) y2 (by omega)⟩, ⟨z1, lI (k := 99) y4 (by omega)⟩, ⟨gI1 y5, lI (k := 99) y6 (by omega)⟩, ⟨l3.1, lI (k := 99) y7 (by omega)⟩, ⟨gI1 y8, lI (k := 99) y9 (by omega)⟩, (show nr3 0 20 (0 : Int32) from ⟨by decide, by decide⟩), (show nr3 0 100 (0 : Int32) from ⟨by decide, by decide⟩)⟩
  · refine ⟨qR_R (a10 q hq).2 a0.1 (fun k hk => hR _ (by omega)) (fun p hp => hR _ (by omega)) ⟨fun k hk => (cpc_o (by omega)).trans ((a10 q hq).1.1 k hk), (cpc_o (by omega)).trans (a10 q hq).1.2⟩, qB_c (fun k hk => hR _ (by omega)) (by omega) (a10 q hq).2⟩
theorem mR_rp {h : Nat} (hm : mR C 1 R 167 np nr ng) (hA : rpA np nr a) (hh : h < np) (e0 : a 0 = nI h) (hb : ∀ k, k < 4 → nr3 0 999 (a k)) (hsd : sd = 1 ∨ sd = -1) : mR (crpM C nr h a sd) 1 (rpM R nr a sd) 167 np (nr + 1) ng := by
  obtain ⟨a0, a1, a2, a3, a4, a5, a6, a7, a8, a9, a10⟩ := hm
  obtain ⟨y1, y2, y3, y4, y5, y6⟩ := hA
  have hR : ∀ k, k < 70 + 6 * nr ∨ 142 ≤ k ∧ k ≠ 1644 → gI (rpM R nr a sd) 167 k = gI R 167 k := fun k hk => rp_o (by omega)
  refine ⟨⟨a0.1, by omega, a0.2.2⟩, ⟨(crp_o (by omega)).trans a1.1, (hR _ (by omega)).trans a1.2⟩, ⟨?_, ?_⟩, ⟨(crp_o (by omega)).trans a3.1, (hR _ (by omega)).trans a3.2⟩, ⟨?_, ?_⟩, ⟨?_, ?_⟩, ⟨?_, ?_⟩, fun k hk => ⟨?_, ?_⟩, fun k hk => ⟨?_, ?_⟩, fun p hp => ?_, fun q hq => ?_⟩
  · unfold crpM; rw [gI_self]
  · rw [rpM_g, if_neg (by omega), if_pos ⟨rfl, rfl⟩]
  · rw [crp_o (by omega), hR _ (by omega)]; exact a4.1
  · rw [hR _ (by omega)]; exact a4.2
  · rw [crp_o (by omega), hR _ (by omega)]; exact a5.1
  · rw [hR _ (by omega)]; exact a5.2
  · rw [crp_o (by omega), hR _ (by omega)]; exact a6.1
  · rw [hR _ (by omega)]; exact a6.2
  · rw [crp_o (by omega), hR _ (by omega)]; exact (a7 k hk).1
  · rw [hR _ (by omega)]; exact (a7 k hk).2
  · rw [crp_o (by omega), hR _ (by omega)]; exact (a8 k hk).1
  · rw [hR _ (by omega)]; exact (a8 k hk).2
  · refine ⟨⟨(crp_o (by omega)).trans (a9 p hp).1.1, fun k hk => ?_⟩, pB_c (fun k hk => hR _ (by omega)) (a9 p hp).2⟩
    rw [crp_o (by omega), hR _ (by omega)]
    exact (a9 p hp).1.2 k hk
  · by_cases c : q < nr
    · refine ⟨qR_R (a10 q c).2 a0.1 (fun k hk => hR _ (by omega)) (fun p hp => hR _ (by omega)) ⟨fun k hk => (crp_o (by omega)).trans ((a10 q c).1.1 k hk), (crp_o (by omega)).trans (a10 q c).1.2⟩, qB_c (fun k hk => hR _ (by omega)) (by omega) (a10 q c).2⟩
    · have e : q = nr := by omega
      subst e
      have f0 := rp_i (R := R) (nr := q) (a := a) (sd := sd) (k := 0) (by omega)
      rw [Nat.add_zero] at f0
      have f0' : gI (rpM R q a sd) 167 (70 + 6 * q) = nI h := f0.trans e0
      have f2 : gI (rpM R q a sd) 167 (70 + 6 * q + 2) = a 1 := rp_i (by omega)
      have c9 : (nI h).toNatClampNeg = h := nI_cl (by omega)
      have eh : gI (rpM R q a sd) 167 (7 * h + 1) = gI C (6 + h) 2 := by
        rw [hR _ (by omega)]
        exact ((a9 h hh).1.2 1 (by omega)).symm
      refine ⟨⟨fun k hk => ?_, ?_⟩, ?_⟩
      · rw [rp_i hk]
        rcases (show k = 0 ∨ k = 1 ∨ k = 2 ∨ k = 3 ∨ k = 4 ∨ k = 5 by omega) with rfl | rfl | rfl | rfl | rfl | rfl <;> (unfold crpM; simp (disch := omega) only [g_ne, g_eq]; rfl)
      · unfold aA aA0
        rw [f0', c9, f2, eh]
        unfold crpM
        simp (disch := omega) only [g_ne, g_eq]
        rfl
      · refine ⟨⟨h, hh, f0'⟩, ?_, ?_, ?_, ?_, ?_⟩
        · rw [rp_i (by omega)]; exact hsd
        · rw [rp_i (by omega)]; exact ⟨gI1 y3, lI (k := 99) y4 (by omega)⟩
        · rw [rp_i (by omega)]; exact ⟨gI1 y5, lI (k := 99) y6 (by omega)⟩
        · rw [rp_i (by omega)]; exact hb 3 (by omega)
        · rw [rp_i (by omega)]; exact (show nr3 0 2 (0 : Int32) from ⟨by decide, by decide⟩)
theorem mR_ft {x : Int32} (hm : mR C 1 R 167 np nr ng) (hx : nr3 0 999 x) : mR (sI C 1 4 x) 1 (sI R 167 1650 x) 167 np nr ng := by
  obtain ⟨a0, a1, a2, a3, a4, a5, a6, a7, a8, a9, a10⟩ := hm
  have hR : ∀ k, k ≠ 1650 → gI (sI R 167 1650 x) 167 k = gI R 167 k := fun k hk => gI_ne (Or.inr hk)
  have hC : ∀ y k, y ≠ 1 ∨ k ≠ 4 → gI (sI C 1 4 x) y k = gI C y k := fun y k hk => gI_ne hk
  refine ⟨a0, ⟨(hC _ _ (by omega)).trans a1.1, (hR _ (by omega)).trans a1.2⟩, ⟨(hC _ _ (by omega)).trans a2.1, (hR _ (by omega)).trans a2.2⟩, ⟨(hC _ _ (by omega)).trans a3.1, (hR _ (by omega)).trans a3.2⟩, ⟨by rw [gI_self, gI_self], by rw [gI_self]; exact hx⟩, ⟨?_, ?_⟩, ⟨?_, ?_⟩, fun k hk => ⟨?_, ?_⟩, fun k hk => ⟨?_, ?_⟩, fun p hp => ?_, fun q hq => ?_⟩
  · rw [hC _ _ (by omega), hR _ (by omega)]; exact a5.1
  · rw [hR _ (by omega)]; exact a5.2
  · rw [hC _ _ (by omega), hR _ (by omega)]; exact a6.1
  · rw [hR _ (by omega)]; exact a6.2
  · rw [hC _ _ (by omega), hR _ (by omega)]; exact (a7 k hk).1
  · rw [hR _ (by omega)]; exact (a7 k hk).2
  · rw [hC _ _ (by omega), hR _ (by omega)]; exact (a8 k hk).1
  · rw [hR _ (by omega)]; exact (a8 k hk).2
  · refine ⟨⟨(hC _ _ (by omega)).trans (a9 p hp).1.1, fun k hk => ?_⟩, pB_c (fun k hk => hR _ (by omega)) (a9 p hp).2⟩
    rw [hC _ _ (by omega), hR _ (by omega)]
    exact (a9 p hp).1.2 k hk
  · exact ⟨qR_R (a10 q hq).2 a0.1 (fun k hk => hR _ (by omega)) (fun p hp => hR _ (by omega)) ⟨fun k hk => (hC _ _ (by omega)).trans ((a10 q hq).1.1 k hk), (hC _ _ (by omega)).trans (a10 q hq).1.2⟩, qB_c (fun k hk => hR _ (by omega)) (by omega) (a10 q hq).2⟩
theorem cB_eq (hm : mR C 1 R 167 np nr ng) : cB C np = rB R np := by
  unfold cB rB
  by_cases c : np = 0
  · rw [if_pos c, if_pos c]
  · rw [if_neg c, if_neg c]
    exact (hm.2.2.2.2.2.2.2.2.2.1 (np - 1) (by omega)).1.2 1 (by omega)
end RM
