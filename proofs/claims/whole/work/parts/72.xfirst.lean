/-! firstOrder of the class -/
def foF (M M' : xM) : Prop := (∀ x k, ¬ (x = 140 ∨ (k = 4 ∧ 43 ≤ x ∧ x < 55)) → gI M' x k = gI M x k) ∧ (∀ x k, gJ M' x k = gJ M x k) ∧ ∀ x k, gP M' x k = gP M x k
theorem foF_r {M : xM} : foF M M := ⟨fun _ _ _ => rfl, fun _ _ => rfl, fun _ _ => rfl⟩
theorem foF_t {M M' M2 : xM} (h : foF M M') (h2 : foF M' M2) : foF M M2 := ⟨fun x k q => (h2.1 x k q).trans (h.1 x k q), fun x k => (h2.2.1 x k).trans (h.2.1 x k), fun x k => (h2.2.2 x k).trans (h.2.2 x k)⟩
theorem foF_l {M M' : xM} (h : lnF M M') : foF M M' := ⟨fun x k q => h.1 x k (fun z => q (Or.inr z)), h.2.1, h.2.2⟩
theorem foF_i {M : xM} {k : Nat} {v : Int32} : foF M (sI M 140 k v) := ⟨fun x y q => gI_ne (Or.inl (fun e => q (Or.inl e))), fun _ _ => rfl, fun _ _ => rfl⟩
def mx14 (A B : xM) : xM := (fun x k => if x = 140 then gI A x k else gI B x k, B.2.1, B.2.2)
theorem mx14_o {A B : xM} {x k : Nat} (h : ¬ x = 140) : gI (mx14 A B) x k = gI B x k := if_neg h
theorem mx14_i {A B : xM} {x k : Nat} (h : x = 140) : gI (mx14 A B) x k = gI A x k := if_pos h
theorem LN_v {R M M' : xM} {np nr ng U mo : Nat} {t mp : Int32} (h : LN R np nr ng U mo t mp M) (f : foF M M') (hu : ∀ r, r < nr → ¬ U.testBit r = true → gI M' (43 + r) 4 = rr R r 4) : LN R np nr ng U mo t mp M' := by
  obtain ⟨⟨Mx, hx, hx2⟩, ⟨a1, a2, a3, a4⟩, a5, a6, a7, a8⟩ := h
  have hn2 := hx.1.1
  have hr2 := hx.1.2.1
  refine ⟨⟨mx14 M' Mx, mR_C hx (fun k hk => mx14_o (by decide)) (fun k => mx14_o (by decide)) (fun k => mx14_o (by decide)) (fun p k hp => mx14_o (by omega)) (fun q k hq => mx14_o (by omega)), fun x k q => ?_⟩, ⟨(f.1 _ _ (by omega)).trans a1, (f.1 _ _ (by omega)).trans a2, (f.1 _ _ (by omega)).trans a3, (f.1 _ _ (by omega)).trans a4⟩, fun r hr hb => ?_, ?_, ?_, hu⟩
  · by_cases c : x = 140
    · exact (mx14_i c).symm
    · exact ((f.1 x k (fun z => z.elim c q)).trans (hx2 x k q)).trans (mx14_o c).symm
  · obtain ⟨b1, b2, b3⟩ := a5 r hr hb
    exact ⟨(f.2.2 _ _).trans b1, (f.1 _ _ (by omega)).trans b2, (f.1 _ _ (by omega)).trans b3⟩
  · refine BL_u a6 hn2 hr2 (fun i k hi _ => f.1 _ _ (by omega)) (fun i k hi hb => ?_) (f.1 _ _ (by omega)) ⟨f.1 _ _ (by omega), f.1 _ _ (by omega)⟩ (fun t => f.2.1 _ _) (fun k => ⟨f.2.2 _ _, f.2.2 _ _⟩)
    by_cases c : k = 4
    · subst c
      have hb2 : ¬ U.testBit i = true := fun q => by
        have := (xbd_nI (S := U) (i := i) (by omega)).mpr q
        unfold xbd at hb
        exact absurd this (of_decide_eq_false hb)
      rw [hu i hi hb2, a8 i hi hb2]
    · exact f.1 _ _ (by omega)
  · rw [f.2.1, a7]
    exact (cPs_c hn2 (fun i k hi => f.1 _ _ (by omega)) (fun k => f.1 _ _ (by omega)) (fun k => f.1 _ _ (by omega))).symm
def nxD (R : xM) (np nr U : Nat) (t ml mp : Int32) (D : Nat) (w : Int32) : Prop := (okD R np nr U t ml mp D ∧ ((lmS U D nr = 0 ∧ w = 0) ∨ (¬ lmS U D nr = 0 ∧ ∃ r, r < nr ∧ dQ (oQ R np nr U t ml mp) (lmS U D nr) r ∧ (∀ i, i < r → ¬ dQ (oQ R np nr U t ml mp) (lmS U D nr) i) ∧ w = nI (bK U r)))) ∨ (¬ okD R np nr U t ml mp D ∧ w = -4)
theorem nI_n4 {k : Nat} (h : k < 4096) : ¬ nI k = -4 := fun q => absurd (nI_le (a := 0) (b := k) (Nat.zero_le _) (by omega)) (by rw [q]; decide)
theorem nx_ok {R : xM} {np nr U : Nat} {t ml mp : Int32} {D : Nat} {w : Int32} (hr : nr ≤ 12) (h : nxD R np nr U t ml mp D w) : ¬ w = -4 ↔ okD R np nr U t ml mp D := by
  rcases h with ⟨a, ⟨_, rfl⟩ | ⟨_, r, hr9, _, _, rfl⟩⟩ | ⟨a, rfl⟩
  · exact ⟨fun _ => a, fun _ => by decide⟩
  · exact ⟨fun _ => a, fun _ => nI_n4 (by have := bK_le U r; omega)⟩
  · exact ⟨fun q => absurd rfl q, fun q => absurd q a⟩
theorem nx_v {R : xM} {np nr U : Nat} {t ml mp : Int32} {D : Nat} {v : Option Value} (h : (okD R np nr U t ml mp D ∧ ((lmS U D nr = 0 ∧ v = some (.int 0)) ∨ (¬ lmS U D nr = 0 ∧ ∃ r, r < nr ∧ dQ (oQ R np nr U t ml mp) (lmS U D nr) r ∧ (∀ i, i < r → ¬ dQ (oQ R np nr U t ml mp) (lmS U D nr) i) ∧ v = some (.int (nI (bK U r)))))) ∨ (¬ okD R np nr U t ml mp D ∧ v = some (.int (-4)))) : ∃ w, v = some (.int w) ∧ nxD R np nr U t ml mp D w := by
  rcases h with ⟨a, ⟨b, rfl⟩ | ⟨b, r, c, d, e, rfl⟩⟩ | ⟨a, rfl⟩
  · exact ⟨_, rfl, Or.inl ⟨a, Or.inl ⟨b, rfl⟩⟩⟩
  · exact ⟨_, rfl, Or.inl ⟨a, Or.inr ⟨b, r, c, d, e, rfl⟩⟩⟩
  · exact ⟨_, rfl, Or.inr ⟨a, rfl⟩⟩
theorem bK_cl {S r : Nat} (h : S.testBit r = true) : ∀ {n}, r < n → bK (S ^^^ 2 ^ r) n + 1 = bK S n
  | 0, hr => absurd hr (Nat.not_lt_zero _)
  | n + 1, hr => by
    have hb := clr_b h n
    by_cases e : r = n
    · subst e
      rw [decide_eq_true rfl, h] at hb
      have h2 : ∀ m, m ≤ r → bK (S ^^^ 2 ^ r) m = bK S m := by
        intro m hm
        induction m with
        | zero => rfl
        | succ m ih =>
          have hb2 := clr_b h m
          rw [decide_eq_false (show ¬ r = m by omega)] at hb2
          by_cases c : S.testBit m = true
          · rw [c] at hb2; rw [bK_s c, bK_s hb2, ih (by omega)]
          · rw [bK_z c, bK_z (by rw [hb2]; intro z; exact c (Bool.and_eq_true_iff.mp z).1), ih (by omega)]
      rw [bK_s h, bK_z (by rw [hb]; decide), h2 r (Nat.le_refl _)]
    · have ih := bK_cl h (n := n) (by omega)
      rw [decide_eq_false e] at hb
      by_cases c : S.testBit n = true
      · rw [c] at hb; rw [bK_s c, bK_s hb]; omega
      · rw [bK_z c, bK_z (by rw [hb]; intro z; exact c (Bool.and_eq_true_iff.mp z).1)]; exact ih
theorem bK_0 {S n : Nat} (hS : S < 2 ^ n) (h : bK S n = 0) : S = 0 := Nat.eq_of_testBit_eq (fun i => by
  rw [Nat.zero_testBit]
  by_cases c : i < n
  · cases h1 : S.testBit i with
    | false => rfl
    | true => have := bK_lt h1 c; omega
  · exact lt_tb hS c)
theorem bK_00 : ∀ {n : Nat}, bK 0 n = 0
  | 0 => rfl
  | n + 1 => by rw [bK_z (by rw [Nat.zero_testBit]; decide)]; exact bK_00
theorem or_sum {a i r : Nat} (h : a < 16 ^ i) : a ||| r * 16 ^ i = a + r * 16 ^ i := by
  have e : 16 ^ i = 2 ^ (4 * i) := by rw [Nat.pow_mul]
  rw [e] at h ⊢
  have h2 := Nat.two_pow_add_eq_or_of_lt h r
  rw [Nat.mul_comm r, Nat.or_comm, ← h2, Nat.add_comm]
theorem l_add {a b : Nat} (h : a + b < 2147483648) : (nI (a + b)).toInt64 = (nI a).toInt64 + (nI b).toInt64 := by
  refine Int64.toInt_inj.mp ?_
  rw [Int64.toInt_add, l_ti h, l_ti (by omega), l_ti (by omega)]
  exact (Int.bmod_eq_of_le (by omega) (by omega)).symm
theorem or_acc {a i r : Nat} (h : a < 16 ^ i) : (nI a).toInt64 ||| (nI (r * 16 ^ i)).toInt64 = (nI (a + r * 16 ^ i)).toInt64 := by
  rw [← Int32.toInt64_or, or_nI, or_sum h]
theorem b16 {a i r : Nat} (h : a < 16 ^ i) (hr : r < 12) : a + r * 16 ^ i < 16 ^ (i + 1) := by
  have h3 : r * 16 ^ i ≤ 11 * 16 ^ i := Nat.mul_le_mul_right _ (by omega)
  rw [Nat.pow_succ]
  omega
set_option maxRecDepth 4000 in
theorem e_firstOrder {κ : xKK} {d : Nat} {M : xM} {np nr ng U mo : Nat} {R : xM} {t mp : Int32} (hN : LN R np nr ng U mo t mp M) (hj0 : gJ R 166 18 = 0) (ht9 : nr3 0 999 t) (hU : bK U nr ≤ 6) (hUn : U < 2 ^ nr) (hmo : mo ≤ 300) (h0 : ∀ r, r < nr → U.testBit r = true → rr R r 5 = 0) (hd : 8 ≤ d) : xE2 κ mX4_firstOrder d [.ref 136, .ref 28, .ref 123] M (fun v M' => ((∃ w, Ord (oQ R np nr U t (nI mo) mp) U 0 w ∧ v = some (.long w)) ∨ (¬ Can (oQ R np nr U t (nI mo) mp) U ∧ v = some (.long (-4)))) ∧ foF M M') := by
  refine xE2_of ci_X4_firstOrder cl_X4_firstOrder cw_X4_firstOrder rfl (L := [some (.ref 136), some (.ref 28), some (.ref 123), none, none, none, none, none, none]) rfl ?_
  have hr2 : nr ≤ 12 := hN.1.choose_spec.1.1.2.1
  have hp6 : 2 ^ bK U nr ≤ 2 ^ 6 := Nat.pow_le_pow_right (by omega) hU
  have hp1 : 1 ≤ 2 ^ bK U nr := Nat.one_le_two_pow
  have hcn0 : gI M 136 3 = nI (bK U nr) := hN.2.1.1
  have hsc := shl_p (bK U nr) (by omega)
  refine xG_run 3 rfl (by repeat' (first | exact trivial | assumption | exact xob_b rfl | exact xal_b rfl | (apply And.intro) | decide)) ?_
  try dsimp only [xsto1, xsto2, xkill, xget, xset, gd_0, gd_s]
  rw [hcn0]
  refine xG_run 1 rfl (by repeat' (first | exact trivial | assumption | exact xob_b rfl | exact xal_b rfl | (apply And.intro) | decide)) ?_
  try dsimp only [xsto1, xsto2, xkill, xget, xset, gd_0, gd_s]
  rw [hsc]
  refine xG_run 5 rfl (by repeat' (first | exact trivial | assumption | exact xob_b rfl | exact xal_b rfl | (apply And.intro) | decide)) ?_
  try dsimp only [xsto1, xsto2, xkill, xget, xset, gd_0, gd_s]
  have lp := xG_upP (κ := κ) (m := mX4_firstOrder) (r := (d, 0, 0)) (YS := xRet mX4_firstOrder false (fun v M' n' => n' = 182 ∧ (((∃ w, Ord (oQ R np nr U t (nI mo) mp) U 0 w ∧ v = some (.long w)) ∨ (¬ Can (oQ R np nr U t (nI mo) mp) U ∧ v = some (.long (-4)))) ∧ foF M M'))) (fun k X => ∃ M2 : xM, X = (12, [some (.ref 136), some (.ref 28), some (.ref 123), some (.int (nI (2 ^ bK U nr) - 1)), some (.int (nI (2 ^ bK U nr - k) - 1)), none, none, none, none], [], M2, z2) ∧ foF M M2 ∧ LN R np nr ng U mo t mp M2 ∧ ∀ D', 2 ^ bK U nr - k ≤ D' → D' < 2 ^ bK U nr → nxD R np nr U t (nI mo) mp D' (gI M2 140 D')) (2 ^ bK U nr) ?_ ?_ 0 (Nat.zero_le _)
  · exact lp _ ⟨M, rfl, foF_r, hN, fun D' q1 q2 => absurd q2 (by omega)⟩
  · rintro k X hk ⟨M2, rfl, hF, hN2, hnx⟩ ih
    have hcn : gI M2 136 3 = nI (bK U nr) := hN2.2.1.1
    have hsb := nI_sb1 (n := 2 ^ bK U nr - k) (by omega)
    obtain ⟨D, hD⟩ : ∃ D, D = 2 ^ bK U nr - k - 1 := ⟨_, rfl⟩
    rw [hsb, ← hD]
    have hsn : xar 140 0 182 (nI D) := xar_n rfl 64 rfl (by omega) (by omega)
    have hD1 : (nI D).toNatClampNeg = D := nI_cl (by omega)
    refine xG_run 1 rfl (by repeat' (first | exact trivial | assumption | exact xob_b rfl | exact xal_b rfl | (apply And.intro) | decide)) ?_
    try dsimp only [xsto1, xsto2, xkill, xget, xset, gd_0, gd_s]
    refine xG_brF rfl (Int32.not_lt.mpr (nI_le (a := 0) (Nat.zero_le _) (by omega))) ?_
    refine xG_run 7 rfl (by repeat' (first | exact trivial | assumption | exact xob_b rfl | exact xal_b rfl | (apply And.intro) | decide)) ?_
    try dsimp only [xsto1, xsto2, xkill, xget, xset, gd_0, gd_s]
    refine xG_c2 3 rfl (by repeat' (first | exact trivial | assumption | exact xob_b rfl | exact xal_b rfl | (apply And.intro) | decide)) rfl rfl (by decide) cw_X4_leastNext (d' := d - 1) (e_leastNext (D := D) (mo := mo) (mp := mp) hN2 hj0 ht9 hU hUn (by omega) hmo h0 (fun D' q1 q2 => nx_ok hr2 (hnx D' (by omega) q2)) (by omega)) (by omega) ?_
    rintro v M3 ⟨hv, hF3, hu3⟩
    obtain ⟨w, rfl, hw⟩ := nx_v hv
    dsimp only [Option.toList, List.cons_append, List.nil_append]
    refine xG_run 3 rfl (by repeat' (first | exact trivial | assumption | exact xob_b rfl | exact xal_b rfl | (apply And.intro) | decide)) ?_
    try dsimp only [xsto1, xsto2, xkill, xget, xset, gd_0, gd_s]
    have hF4 : foF M2 (sI M3 140 (nI D).toNatClampNeg w) := foF_t (foF_l hF3) foF_i
    rw [show nI D + -1 = nI (2 ^ bK U nr - (k + 1)) - 1 by rw [hD, Nat.sub_add_eq]; exact (Int32.sub_eq_add_neg _ _).symm]
    refine ih _ ⟨_, rfl, foF_t hF hF4, LN_v hN2 hF4 (fun q hq hq2 => (gI_ne (by omega)).trans (hu3 q hq hq2)), fun D' q1 q2 => ?_⟩
    by_cases e : D' = D
    · subst e
      rw [hD1, gI_self]; exact hw
    · rw [gI_ne (by omega), hF3.1 _ _ (by omega)]
      exact hnx D' (by omega) q2
  · rintro X ⟨M2, rfl, hF, hN2, hnx⟩
    rw [Nat.sub_self] at hnx ⊢
    refine xG_run 1 rfl (by repeat' (first | exact trivial | assumption | exact xob_b rfl | exact xal_b rfl | (apply And.intro) | decide)) ?_
    try dsimp only [xsto1, xsto2, xkill, xget, xset, gd_0, gd_s]
    refine xG_brT rfl (by decide) ?_
    refine xG_run 6 rfl (by repeat' (first | exact trivial | assumption | exact xob_b rfl | exact xal_b rfl | (apply And.intro) | decide)) ?_
    try dsimp only [xsto1, xsto2, xkill, xget, xset, gd_0, gd_s]
    have hcn : gI M2 136 3 = nI (bK U nr) := hN2.2.1.1
    have lp2 := xG_upP (κ := κ) (m := mX4_firstOrder) (r := (d, 0, 0)) (YS := xRet mX4_firstOrder false (fun v M' n' => n' = 182 ∧ (((∃ w, Ord (oQ R np nr U t (nI mo) mp) U 0 w ∧ v = some (.long w)) ∨ (¬ Can (oQ R np nr U t (nI mo) mp) U ∧ v = some (.long (-4)))) ∧ foF M M'))) (fun i X => ∃ (D a : Nat) (x8 : Option Value), X = (47, [some (.ref 136), some (.ref 28), some (.ref 123), some (.int (nI (2 ^ bK U nr) - 1)), some (.long (nI a).toInt64), none, some (.int (nI D)), some (.int (nI i)), x8], [], M2, z2) ∧ D < 2 ^ bK U nr ∧ a < 16 ^ i ∧ bK (lmS U D nr) nr + i = bK U nr ∧ (Can (oQ R np nr U t (nI mo) mp) U → okD R np nr U t (nI mo) mp D) ∧ ∀ v, Ord (oQ R np nr U t (nI mo) mp) (lmS U D nr) i v → Ord (oQ R np nr U t (nI mo) mp) U 0 (v + (nI a).toInt64)) (bK U nr) ?_ ?_ 0 (Nat.zero_le _)
    · exact lp2 _ ⟨0, 0, _, rfl, by omega, by decide, by rw [lm_0 hUn]; rfl, fun q => ⟨Or.inl rfl, by rw [lm_0 hUn]; exact q⟩, fun v q => by rw [lm_0 hUn] at q; rw [show (nI 0).toInt64 = 0 by decide, Int64.add_zero]; exact q⟩
    · rintro i X hi ⟨D, a, x8, rfl, hD, ha, hbk, hcan, hacc⟩ ih
      have hi6 : i < 6 := by omega
      have hD1 : (nI D).toNatClampNeg = D := nI_cl (by omega)
      have hsn : xar 140 0 182 (nI D) := xar_n rfl 64 rfl (by omega) (by omega)
      have hS0 : ¬ (lmS U D nr) = 0 := fun q => by rw [q, bK_00] at hbk; omega
      rcases hnx D (by omega) hD with ⟨hok, ⟨q, _⟩ | ⟨_, r, hr, hdq, hmin, hv⟩⟩ | ⟨hok, hv⟩
      · exact absurd q hS0
      · have hSb := hdq.1.1.2
        have hUD := hSb
        rw [lm_b nr r hr] at hUD
        have hUr := (Bool.and_eq_true_iff.mp hUD).1
        have hDr : D.testBit (bK U r) = false := by
          have := (Bool.and_eq_true_iff.mp hUD).2
          cases h9 : D.testBit (bK U r) with
          | false => rfl
          | true => rw [h9] at this; cases this
        have hlm : lmS U (D ||| 2 ^ bK U r) nr = (lmS U D nr) ^^^ 2 ^ r := lm_or hr hUr hDr
        have hbr : bK U r < bK U nr := bK_lt hUr hr
        have hbc := bK_cl hSb hr
        have hsk := shl_p (bK U r) (by omega)
        have hs8 : xar 138 0 182 (nI (bK U r)) := xar_n rfl 6 rfl (by omega) (by omega)
        have hn1 : gI M2 138 (nI (bK U r)).toNatClampNeg = nI r := by rw [nI_cl (by omega)]; exact (hN2.2.2.1 r hr hUr).2.1
        have h16 : 16 ^ (i + 1) ≤ 16 ^ 6 := Nat.pow_le_pow_right (by omega) (by omega)
        have h31 : a + r * 16 ^ i < 2147483648 := by have := b16 ha (show r < 12 by omega); omega
        refine xG_run 3 rfl (by repeat' (first | exact trivial | assumption | exact xob_b rfl | exact xal_b rfl | (apply And.intro) | decide)) ?_
        try dsimp only [xsto1, xsto2, xkill, xget, xset, gd_0, gd_s]
        refine xG_brF rfl (by rw [hcn]; exact nI_ge hi (by omega)) ?_
        refine xG_run 4 rfl (by repeat' (first | exact trivial | assumption | exact xob_b rfl | exact xal_b rfl | (apply And.intro) | decide)) ?_
        try dsimp only [xsto1, xsto2, xkill, xget, xset, gd_0, gd_s]
        rw [hD1, hv]
        refine xG_run 3 rfl (by repeat' (first | exact trivial | assumption | exact xob_b rfl | exact xal_b rfl | (apply And.intro) | decide)) ?_
        try dsimp only [xsto1, xsto2, xkill, xget, xset, gd_0, gd_s]
        refine xG_brT rfl (nI_n4 (by omega)) ?_
        refine xG_run 5 rfl (by repeat' (first | exact trivial | assumption | exact xob_b rfl | exact xal_b rfl | (apply And.intro) | decide)) ?_
        try dsimp only [xsto1, xsto2, xkill, xget, xset, gd_0, gd_s]
        rw [hn1]
        refine xG_run 5 rfl (by repeat' (first | exact trivial | assumption | exact xob_b rfl | exact xal_b rfl | (apply And.intro) | decide)) ?_
        try dsimp only [xsto1, xsto2, xkill, xget, xset, gd_0, gd_s]
        rw [shl64 i (by omega) r (by omega)]
        refine xG_run 1 rfl (by repeat' (first | exact trivial | assumption | exact xob_b rfl | exact xal_b rfl | (apply And.intro) | decide)) ?_
        try dsimp only [xsto1, xsto2, xkill, xget, xset, gd_0, gd_s]
        rw [or_acc ha]
        refine xG_run 5 rfl (by repeat' (first | exact trivial | assumption | exact xob_b rfl | exact xal_b rfl | (apply And.intro) | decide)) ?_
        try dsimp only [xsto1, xsto2, xkill, xget, xset, gd_0, gd_s]
        rw [hsk]
        refine xG_run 1 rfl (by repeat' (first | exact trivial | assumption | exact xob_b rfl | exact xal_b rfl | (apply And.intro) | decide)) ?_
        try dsimp only [xsto1, xsto2, xkill, xget, xset, gd_0, gd_s]
        rw [or_nI]
        refine xG_run 3 rfl (by repeat' (first | exact trivial | assumption | exact xob_b rfl | exact xal_b rfl | (apply And.intro) | decide)) ?_
        try dsimp only [xsto1, xsto2, xkill, xget, xset, gd_0, gd_s]
        rw [nI_1]
        refine ih _ ⟨D ||| 2 ^ bK U r, a + r * 16 ^ i, _, rfl, Nat.or_lt_two_pow hD (Nat.pow_lt_pow_right (by omega) hbr), b16 ha (by omega), by rw [hlm]; omega, fun q => ⟨Or.inr ?_, ?_⟩, fun v hv9 => ?_⟩
        · rw [hlm]; exact hdq.1.2.2
        · rw [hlm]; exact hdq.2
        · rw [hlm] at hv9
          have h9 := hacc _ (Ord_s hdq hmin hv9)
          rw [l_add h31]
          rw [Int64.add_assoc, Int64.add_comm (nI (r * 16 ^ i)).toInt64] at h9
          exact h9
      · refine xG_run 3 rfl (by repeat' (first | exact trivial | assumption | exact xob_b rfl | exact xal_b rfl | (apply And.intro) | decide)) ?_
        try dsimp only [xsto1, xsto2, xkill, xget, xset, gd_0, gd_s]
        refine xG_brF rfl (by rw [hcn]; exact nI_ge hi (by omega)) ?_
        refine xG_run 4 rfl (by repeat' (first | exact trivial | assumption | exact xob_b rfl | exact xal_b rfl | (apply And.intro) | decide)) ?_
        try dsimp only [xsto1, xsto2, xkill, xget, xset, gd_0, gd_s]
        rw [hD1, hv]
        refine xG_run 3 rfl (by repeat' (first | exact trivial | assumption | exact xob_b rfl | exact xal_b rfl | (apply And.intro) | decide)) ?_
        try dsimp only [xsto1, xsto2, xkill, xget, xset, gd_0, gd_s]
        refine xG_brF rfl (fun q => q rfl) ?_
        refine xG_run 1 rfl (by repeat' (first | exact trivial | assumption | exact xob_b rfl | exact xal_b rfl | (apply And.intro) | decide)) ?_
        try dsimp only [xsto1, xsto2, xkill, xget, xset, gd_0, gd_s]
        refine r2_l rfl rfl ?_
        exact ⟨Or.inr ⟨fun q => hok (hcan q), rfl⟩, hF⟩
    · rintro X ⟨D, a, x8, rfl, hD, ha, hbk, hcan, hacc⟩
      refine xG_run 3 rfl (by repeat' (first | exact trivial | assumption | exact xob_b rfl | exact xal_b rfl | (apply And.intro) | decide)) ?_
      try dsimp only [xsto1, xsto2, xkill, xget, xset, gd_0, gd_s]
      refine xG_brT rfl (by rw [hcn]; exact Int32.le_refl _) ?_
      refine xG_run 1 rfl (by repeat' (first | exact trivial | assumption | exact xob_b rfl | exact xal_b rfl | (apply And.intro) | decide)) ?_
      try dsimp only [xsto1, xsto2, xkill, xget, xset, gd_0, gd_s]
      refine r2_l rfl rfl ?_
      refine ⟨Or.inl ⟨_, ?_, rfl⟩, hF⟩
      have hz : (lmS U D nr) = 0 := bK_0 (lm_lt U D nr) (by omega)
      have h9 := hacc 0 (by rw [hz]; exact Ord_d)
      rw [Int64.zero_add] at h9
      exact h9
