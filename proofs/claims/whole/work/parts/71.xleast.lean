def okD (R : xM) (np nr U : Nat) (t ml mp : Int32) (D : Nat) : Prop := (D = 0 ∨ isF (tgU R nr U (lmS U D nr) t) np nr ml mp) ∧ Can (oQ R np nr U t ml mp) (lmS U D nr)
theorem or_nI {a b : Nat} : nI a ||| nI b = nI (a ||| b) := b_ext (fun i hi => by rw [b_or, bt_nI hi, bt_nI hi, bt_nI hi, Nat.testBit_or])
theorem or_gt {a k : Nat} (h : a.testBit k = false) : a < a ||| 2 ^ k := by
  refine Nat.lt_of_le_of_ne Nat.left_le_or (fun q => ?_)
  have e : (a ||| 2 ^ k).testBit k = true := by rw [Nat.testBit_or, Nat.testBit_two_pow, decide_eq_true rfl, Bool.or_true]
  rw [← q, h] at e
  cases e
theorem how_b {M : xM} {r : Nat} (h : gI M (43 + r) 5 = 0) : sI (sI M (43 + r) 5 2) (43 + r) 5 0 = M := by
  refine xM_ext (fun x k => ?_) (fun _ _ => rfl) (fun _ _ => rfl)
  by_cases c : x = 43 + r ∧ k = 5
  · rw [c.1, c.2, gI_self]; exact h.symm
  · rw [gI_ne (by omega), gI_ne (by omega)]
set_option maxRecDepth 4000 in
theorem e_leastNext {κ : xKK} {d : Nat} {M : xM} {np nr ng U mo D : Nat} {R : xM} {t mp : Int32} (hN : LN R np nr ng U mo t mp M) (hj0 : gJ R 166 18 = 0) (ht9 : nr3 0 999 t) (hU : bK U nr ≤ 6) (hUn : U < 2 ^ nr) (hD : D < 2 ^ bK U nr) (hmo : mo ≤ 300) (h0 : ∀ r, r < nr → U.testBit r = true → rr R r 5 = 0) (hnx : ∀ D', D < D' → D' < 2 ^ bK U nr → (¬ gI M 140 D' = -4 ↔ okD R np nr U t (nI mo) mp D')) (hd : 7 ≤ d) : xE2 κ mX4_leastNext d [.ref 136, .ref 28, .ref 123, .int (nI D)] M (fun v M' => ((okD R np nr U t (nI mo) mp D ∧ (((lmS U D nr) = 0 ∧ v = some (.int 0)) ∨ (¬ (lmS U D nr) = 0 ∧ ∃ r, r < nr ∧ dQ (oQ R np nr U t (nI mo) mp) (lmS U D nr) r ∧ (∀ i, i < r → ¬ dQ (oQ R np nr U t (nI mo) mp) (lmS U D nr) i) ∧ v = some (.int (nI (bK U r)))))) ∨ (¬ okD R np nr U t (nI mo) mp D ∧ v = some (.int (-4)))) ∧ lnF M M' ∧ ∀ r, r < nr → ¬ U.testBit r = true → gI M' (43 + r) 4 = rr R r 4) := by
  refine xE2_of ci_X4_leastNext cl_X4_leastNext cw_X4_leastNext rfl (L := [some (.ref 136), some (.ref 28), some (.ref 123), some (.int (nI D)), none, none]) rfl ?_
  have hr2 : nr ≤ 12 := hN.1.choose_spec.1.1.2.1
  have hp6 : 2 ^ bK U nr ≤ 2 ^ 6 := Nat.pow_le_pow_right (by omega) hU
  refine xG_run 2 rfl (by repeat' (first | exact trivial | assumption | exact xob_b rfl | exact xal_b rfl | (apply And.intro) | decide)) ?_
  try dsimp only [xsto1, xsto2, xkill, xget, xset, gd_0, gd_s]
  have lp := xG_upP (κ := κ) (m := mX4_leastNext) (r := (d, 0, 0)) (YS := xRet mX4_leastNext false (fun v M' n' => n' = 182 ∧ (((okD R np nr U t (nI mo) mp D ∧ (((lmS U D nr) = 0 ∧ v = some (.int 0)) ∨ (¬ (lmS U D nr) = 0 ∧ ∃ r, r < nr ∧ dQ (oQ R np nr U t (nI mo) mp) (lmS U D nr) r ∧ (∀ i, i < r → ¬ dQ (oQ R np nr U t (nI mo) mp) (lmS U D nr) i) ∧ v = some (.int (nI (bK U r)))))) ∨ (¬ okD R np nr U t (nI mo) mp D ∧ v = some (.int (-4)))) ∧ lnF M M' ∧ ∀ r, r < nr → ¬ U.testBit r = true → gI M' (43 + r) 4 = rr R r 4))) (fun k X => ∃ M2 : xM, X = (3, [some (.ref 136), some (.ref 28), some (.ref 123), some (.int (nI D)), some (.int (nI k)), none], [], M2, z2) ∧ lnF M M2 ∧ LN R np nr ng U mo t mp M2 ∧ ∀ q, q < nr → U.testBit q = true → bK U q < k → gI M2 (43 + q) 4 = if D.testBit (bK U q) = true then t else rr R q 4) (bK U nr) ?_ ?_ 0 (Nat.zero_le _)
  · exact lp _ ⟨M, rfl, lnF_r, hN, fun q _ _ h => absurd h (Nat.not_lt_zero _)⟩
  · rintro k X hk ⟨M2, rfl, hF, hN2, hv3⟩ ih
    obtain ⟨r, hr, hb, hrk⟩ := bK_surj hk
    have hk1 : (nI k).toNatClampNeg = k := nI_cl (by omega)
    have hbt := xbd_nI (S := D) (i := k) (by omega)
    have hxa : xob (43 + r) 5 182 := xob_r28 (by omega)
    have hqa : xqr 137 182 (nI k) := xqr_n rfl 6 rfl (by omega) (by omega)
    have hs9 : xar 139 0 182 (nI k) := xar_n rfl 6 rfl (by omega) (by omega)
    have hcn : gI M2 136 3 = nI (bK U nr) := hN2.2.1.1
    obtain ⟨o1, o2, o3⟩ := hN2.2.2.1 r hr hb
    have hv : xrf (xpr z2.2.1 M2 137 (nI k).toNatClampNeg) = .ref (43 + r) := by rw [hk1]; show xrf (gP M2 137 k) = _; rw [← hrk, o1]; rfl
    have ho : gI M2 139 (nI k).toNatClampNeg = rr R r 4 := by rw [hk1, ← hrk]; exact o3
    have hnt : gI M2 136 4 = t := hN2.2.1.2.1
    refine xG_run 3 rfl (by repeat' (first | exact trivial | assumption | exact xob_b rfl | exact xal_b rfl | (apply And.intro) | decide)) ?_
    try dsimp only [xsto1, xsto2, xkill, xget, xset, gd_0, gd_s]
    refine xG_brF rfl (by rw [hcn]; exact nI_ge hk (by omega)) ?_
    refine xG_run 4 rfl (by repeat' (first | exact trivial | assumption | exact xob_b rfl | exact xal_b rfl | (apply And.intro) | decide)) ?_
    try dsimp only [xsto1, xsto2, xkill, xget, xset, gd_0, gd_s]
    rw [hv]
    refine xG_run 6 rfl (by repeat' (first | exact trivial | assumption | exact xob_b rfl | exact xal_b rfl | (apply And.intro) | decide)) ?_
    try dsimp only [xsto1, xsto2, xkill, xget, xset, gd_0, gd_s]
    refine xG_br rfl (fun h26 => ?_) (fun h26 => ?_)
    · refine xG_run 4 rfl (by repeat' (first | exact trivial | assumption | exact xob_b rfl | exact xal_b rfl | (apply And.intro) | decide)) ?_
      try dsimp only [xsto1, xsto2, xkill, xget, xset, gd_0, gd_s]
      try rw [ho]
      refine xG_run 3 rfl (by repeat' (first | exact trivial | assumption | exact xob_b rfl | exact xal_b rfl | (apply And.intro) | decide)) ?_
      try dsimp only [xsto1, xsto2, xkill, xget, xset, gd_0, gd_s]
      rw [nI_1]
      have hD : ¬ D.testBit k = true := fun z => h26 (hbt.mpr z)
      have hF3 : lnF M (sI M2 (43 + r) 4 (rr R r 4)) := lnF_t hF (lnF_i (by omega))
      have hu3 : ∀ q, q < nr → ¬ U.testBit q = true → gI (sI M2 (43 + r) 4 (rr R r 4)) (43 + q) 4 = rr R q 4 := fun q hq hq2 => by
        have hne : ¬ q = r := fun e => hq2 (e ▸ hb)
        rw [gI_ne (by omega)]; exact hN2.2.2.2.2.2 q hq hq2
      refine ih _ ⟨_, rfl, hF3, LN_w hN hF3 hu3, fun q hq hq2 hq3 => ?_⟩
      by_cases e : q = r
      · subst e
        rw [gI_self, hrk, if_neg hD]
      · rw [gI_ne (by omega)]
        exact hv3 q hq hq2 (by
          have : ¬ bK U q = bK U r := fun z => e (bK_inj hq2 hb z)
          omega)
    · refine xG_run 2 rfl (by repeat' (first | exact trivial | assumption | exact xob_b rfl | exact xal_b rfl | (apply And.intro) | decide)) ?_
      try dsimp only [xsto1, xsto2, xkill, xget, xset, gd_0, gd_s]
      rw [hnt]
      refine xG_run 1 rfl (by repeat' (first | exact trivial | assumption | exact xob_b rfl | exact xal_b rfl | (apply And.intro) | decide)) ?_
      try dsimp only [xsto1, xsto2, xkill, xget, xset, gd_0, gd_s]
      try rw [ho]
      refine xG_run 3 rfl (by repeat' (first | exact trivial | assumption | exact xob_b rfl | exact xal_b rfl | (apply And.intro) | decide)) ?_
      try dsimp only [xsto1, xsto2, xkill, xget, xset, gd_0, gd_s]
      rw [nI_1]
      have hD : D.testBit k = true := hbt.mp (Decidable.not_not.mp h26)
      have hF3 : lnF M (sI M2 (43 + r) 4 t) := lnF_t hF (lnF_i (by omega))
      have hu3 : ∀ q, q < nr → ¬ U.testBit q = true → gI (sI M2 (43 + r) 4 t) (43 + q) 4 = rr R q 4 := fun q hq hq2 => by
        have hne : ¬ q = r := fun e => hq2 (e ▸ hb)
        rw [gI_ne (by omega)]; exact hN2.2.2.2.2.2 q hq hq2
      refine ih _ ⟨_, rfl, hF3, LN_w hN hF3 hu3, fun q hq hq2 hq3 => ?_⟩
      by_cases e : q = r
      · subst e
        rw [gI_self, hrk, if_pos hD]
      · rw [gI_ne (by omega)]
        exact hv3 q hq hq2 (by
          have : ¬ bK U q = bK U r := fun z => e (bK_inj hq2 hb z)
          omega)
  · rintro X ⟨M2, rfl, hF, hN2, hv3⟩
    refine xG_run 3 rfl (by repeat' (first | exact trivial | assumption | exact xob_b rfl | exact xal_b rfl | (apply And.intro) | decide)) ?_
    try dsimp only [xsto1, xsto2, xkill, xget, xset, gd_0, gd_s]
    refine xG_brT rfl (by rw [hN2.2.1.1]; exact Int32.le_refl _) ?_
    have mt : mR M2 28 (tgU R nr U (lmS U D nr) t) 167 np nr ng := LN_m hN2 ht9 (fun q hq hq2 => hv3 q hq hq2 (bK_lt hq2 hq))
    have hn2 := mt.1.1
    have hcn := hN2.2.1.1
    have hsc := shl_p (bK U nr) (by omega)
    have h1c : 1 ≤ 2 ^ bK U nr := Nat.one_le_two_pow
    have hsb := nI_sb1 h1c
    have hp2 : gJ M2 123 5 = cPs M2 np - 0 := by rw [Int64.sub_zero]; exact hN2.2.2.2.2.1
    refine xG_run 1 rfl (by repeat' (first | exact trivial | assumption | exact xob_b rfl | exact xal_b rfl | (apply And.intro) | decide)) ?_
    try dsimp only [xsto1, xsto2, xkill, xget, xset, gd_0, gd_s]
    refine xG_br rfl (fun h53 => ?_) (fun h53 => ?_)
    · have hst : D = 0 ∨ isF (tgU R nr U (lmS U D nr) t) np nr (nI mo) mp := Or.inl (nI_injb (by omega) (by omega) (show nI 0 = nI D from h53.symm))
      refine xG_run 4 rfl (by repeat' (first | exact trivial | assumption | exact xob_b rfl | exact xal_b rfl | (apply And.intro) | decide)) ?_
      try dsimp only [xsto1, xsto2, xkill, xget, xset, gd_0, gd_s]
      rw [hcn]
      refine xG_run 1 rfl (by repeat' (first | exact trivial | assumption | exact xob_b rfl | exact xal_b rfl | (apply And.intro) | decide)) ?_
      try dsimp only [xsto1, xsto2, xkill, xget, xset, gd_0, gd_s]
      rw [hsc]
      refine xG_run 2 rfl (by repeat' (first | exact trivial | assumption | exact xob_b rfl | exact xal_b rfl | (apply And.intro) | decide)) ?_
      try dsimp only [xsto1, xsto2, xkill, xget, xset, gd_0, gd_s]
      rw [hsb]
      refine xG_br rfl (fun h77 => ?_) (fun h77 => ?_)
      · have hne : ¬ D = 2 ^ bK U nr - 1 := fun q => h77 (by rw [← q])
        refine xG_run 2 rfl (by repeat' (first | exact trivial | assumption | exact xob_b rfl | exact xal_b rfl | (apply And.intro) | decide)) ?_
        try dsimp only [xsto1, xsto2, xkill, xget, xset, gd_0, gd_s]
        have hS0 : ¬ (lmS U D nr) = 0 := lm_ne hD hne
        have lp2 := xG_upP (κ := κ) (m := mX4_leastNext) (r := (d, 0, 0)) (YS := xRet mX4_leastNext false (fun v M' n' => n' = 182 ∧ (((okD R np nr U t (nI mo) mp D ∧ (((lmS U D nr) = 0 ∧ v = some (.int 0)) ∨ (¬ (lmS U D nr) = 0 ∧ ∃ r, r < nr ∧ dQ (oQ R np nr U t (nI mo) mp) (lmS U D nr) r ∧ (∀ i, i < r → ¬ dQ (oQ R np nr U t (nI mo) mp) (lmS U D nr) i) ∧ v = some (.int (nI (bK U r)))))) ∨ (¬ okD R np nr U t (nI mo) mp D ∧ v = some (.int (-4)))) ∧ lnF M M' ∧ ∀ r, r < nr → ¬ U.testBit r = true → gI M' (43 + r) 4 = rr R r 4))) (fun k X => ∃ x5 : Option Value, X = (85, [some (.ref 136), some (.ref 28), some (.ref 123), some (.int (nI D)), some (.int (nI k)), x5], [], M2, z2) ∧ ∀ q, q < nr → U.testBit q = true → bK U q < k → ¬ dQ (oQ R np nr U t (nI mo) mp) (lmS U D nr) q) (bK U nr) ?_ ?_ 0 (Nat.zero_le _)
        · exact lp2 _ ⟨_, rfl, fun q _ _ h => absurd h (Nat.not_lt_zero _)⟩
        · rintro k X hk ⟨x5, rfl, hok⟩ ih
          obtain ⟨r, hr, hb, hrk⟩ := bK_surj hk
          have hk1 : (nI k).toNatClampNeg = k := nI_cl (by omega)
          have hbt := xbd_nI (S := D) (i := k) (by omega)
          have hxa : xob (43 + r) 5 182 := xob_r28 (by omega)
          have hqa : xqr 137 182 (nI k) := xqr_n rfl 6 rfl (by omega) (by omega)
          have hs9 : xar 139 0 182 (nI k) := xar_n rfl 6 rfl (by omega) (by omega)
          have hcn : gI M2 136 3 = nI (bK U nr) := hN2.2.1.1
          obtain ⟨o1, o2, o3⟩ := hN2.2.2.1 r hr hb
          have hv : xrf (xpr z2.2.1 M2 137 (nI k).toNatClampNeg) = .ref (43 + r) := by rw [hk1]; show xrf (gP M2 137 k) = _; rw [← hrk, o1]; rfl
          have ho : gI M2 139 (nI k).toNatClampNeg = rr R r 4 := by rw [hk1, ← hrk]; exact o3
          have hnt : gI M2 136 4 = t := hN2.2.1.2.1
          have hUk : bK U r < bK U nr := bK_lt hb hr
          have hSb : (lmS U D nr).testBit r = !D.testBit k := by rw [lm_b nr r hr, hb, hrk]; rfl
          have hsk := shl_p k (by omega)
          have hor : nI D ||| nI (2 ^ k) = nI (D ||| 2 ^ k) := or_nI
          have hlt : D ||| 2 ^ k < 2 ^ bK U nr := Nat.or_lt_two_pow hD (Nat.pow_lt_pow_right (by omega) hk)
          have hsn : xar 140 0 182 (nI (D ||| 2 ^ k)) := xar_n rfl 64 rfl (by omega) (by omega)
          have hnv : gI M2 140 (nI (D ||| 2 ^ k)).toNatClampNeg = gI M 140 (D ||| 2 ^ k) := by rw [nI_cl (by omega)]; exact hF.1 _ _ (by omega)
          have hh0 : gI M2 (43 + r) 5 = 0 := ((r_q mt hr).1 5 (by omega)).trans ((tu_o (by omega)).trans (h0 r hr hb))
          have hv9 : xrf (xpr z2.2.1 (sI M2 (43 + r) 5 2) 137 (nI k).toNatClampNeg) = .ref (43 + r) := hv
          have hbk : (sI M2 (43 + r) 5 2 : xM) = sI M2 (28 + 15 + r) 5 2 := by rw [show 28 + 15 + r = 43 + r by omega]
          have m3 : mR (sI M2 (43 + r) 5 2) 28 (ofR (tgU R nr U (lmS U D nr) t) r) 167 np nr ng := by rw [hbk]; exact mR_rope (k := 5) (w := 2) mt hr (Or.inr (Or.inr ⟨rfl, by decide, by decide⟩))
          have hBL3 : BL (sI M2 (43 + r) 5 2) 0 (nI U) np nr := BL_u hN2.2.2.2.1 hn2 hr2 (fun i k hi _ => gI_ne (by omega)) (fun i k hi hx => gI_ne (Or.inl (fun e => by
            have e2 : i = r := by omega
            subst e2
            have := (xbd_nI (S := U) (i := i) (by omega)).mpr hb
            unfold xbd at hx
            exact absurd this (of_decide_eq_false hx)))) (gI_ne (by omega)) ⟨gI_ne (by omega), gI_ne (by omega)⟩ (fun _ => rfl) (fun _ => ⟨rfl, rfl⟩)
          have hp3 : gJ (sI M2 (43 + r) 5 2) 123 5 = cPs (sI M2 (43 + r) 5 2) np - 0 := by
            rw [Int64.sub_zero]
            exact hN2.2.2.2.2.1.trans (cPs_c hn2 (fun i k hi => gI_ne (by omega)) (fun k => gI_ne (by omega)) (fun k => gI_ne (by omega))).symm
          have h53 : gI (sI M2 (43 + r) 5 2) 136 5 = nI mo := (gI_ne (by omega)).trans hN2.2.1.2.2.1
          have h63 : gI (sI M2 (43 + r) 5 2) 136 6 = mp := (gI_ne (by omega)).trans hN2.2.1.2.2.2
          refine xG_run 3 rfl (by repeat' (first | exact trivial | assumption | exact xob_b rfl | exact xal_b rfl | (apply And.intro) | decide)) ?_
          try dsimp only [xsto1, xsto2, xkill, xget, xset, gd_0, gd_s]
          refine xG_brF rfl (by rw [hcn]; exact nI_ge hk (by omega)) ?_
          refine xG_run 6 rfl (by repeat' (first | exact trivial | assumption | exact xob_b rfl | exact xal_b rfl | (apply And.intro) | decide)) ?_
          try dsimp only [xsto1, xsto2, xkill, xget, xset, gd_0, gd_s]
          refine xG_br rfl (fun h101 => ?_) (fun h101 => ?_)
          · refine xG_run 2 rfl (by repeat' (first | exact trivial | assumption | exact xob_b rfl | exact xal_b rfl | (apply And.intro) | decide)) ?_
            try dsimp only [xsto1, xsto2, xkill, xget, xset, gd_0, gd_s]
            rw [nI_1]
            refine ih _ ⟨_, rfl, fun q hq hq2 hq3 => ?_⟩
            by_cases e : bK U q = k
            · have eq : q = r := bK_inj hq2 hb (e.trans hrk.symm)
              subst eq
              exact fun z => by have h9 := z.1.1.2; rw [hSb, hbt.mp h101] at h9; cases h9
            · exact hok q hq hq2 (by omega)
          · have hDk : D.testBit k = false := by
              cases h9 : D.testBit k with
              | false => rfl
              | true => exact absurd (hbt.mpr h9) h101
            have hlm : lmS U (D ||| 2 ^ k) nr = (lmS U D nr) ^^^ 2 ^ r := by rw [← hrk]; exact lm_or hr hb (by rw [hrk]; exact hDk)
            have hgt : D < D ||| 2 ^ k := or_gt hDk
            refine xG_run 6 rfl (by repeat' (first | exact trivial | assumption | exact xob_b rfl | exact xal_b rfl | (apply And.intro) | decide)) ?_
            try dsimp only [xsto1, xsto2, xkill, xget, xset, gd_0, gd_s]
            rw [hsk]
            refine xG_run 1 rfl (by repeat' (first | exact trivial | assumption | exact xob_b rfl | exact xal_b rfl | (apply And.intro) | decide)) ?_
            try dsimp only [xsto1, xsto2, xkill, xget, xset, gd_0, gd_s]
            rw [hor]
            refine xG_run 1 rfl (by repeat' (first | exact trivial | assumption | exact xob_b rfl | exact xal_b rfl | (apply And.intro) | decide)) ?_
            try dsimp only [xsto1, xsto2, xkill, xget, xset, gd_0, gd_s]
            rw [hnv]
            refine xG_run 1 rfl (by repeat' (first | exact trivial | assumption | exact xob_b rfl | exact xal_b rfl | (apply And.intro) | decide)) ?_
            try dsimp only [xsto1, xsto2, xkill, xget, xset, gd_0, gd_s]
            refine xG_br rfl (fun h117 => ?_) (fun h117 => ?_)
            · refine xG_run 4 rfl (by repeat' (first | exact trivial | assumption | exact xob_b rfl | exact xal_b rfl | (apply And.intro) | decide)) ?_
              try dsimp only [xsto1, xsto2, xkill, xget, xset, gd_0, gd_s]
              rw [hv]
              refine xG_run 5 rfl (by repeat' (first | exact trivial | assumption | exact xob_b rfl | exact xal_b rfl | (apply And.intro) | decide)) ?_
              try dsimp only [xsto1, xsto2, xkill, xget, xset, gd_0, gd_s]
              refine xG_c2 2 rfl (by repeat' (first | exact trivial | assumption | exact xob_b rfl | exact xal_b rfl | (apply And.intro) | decide)) rfl rfl (by decide) cw_X4_isSafe (d' := d - 1) (e_xisSafe (mo := mo) (mp := mp) m3 hj0 hBL3 hp3 h53 h63 hmo (by omega)) (by omega) ?_
              rintro v M' ⟨rfl, hM⟩
              subst M'
              dsimp only [Option.toList, List.cons_append, List.nil_append]
              refine xG_run 5 rfl (by repeat' (first | exact trivial | assumption | exact xob_b rfl | exact xal_b rfl | (apply And.intro) | decide)) ?_
              try dsimp only [xsto1, xsto2, xkill, xget, xset, gd_0, gd_s]
              rw [hv9]
              refine xG_run 2 rfl (by repeat' (first | exact trivial | assumption | exact xob_b rfl | exact xal_b rfl | (apply And.intro) | decide)) ?_
              try dsimp only [xsto1, xsto2, xkill, xget, xset, gd_0, gd_s]
              rw [how_b hh0]
              refine xG_run 1 rfl (by repeat' (first | exact trivial | assumption | exact xob_b rfl | exact xal_b rfl | (apply And.intro) | decide)) ?_
              try dsimp only [xsto1, xsto2, xkill, xget, xset, gd_0, gd_s]
              refine xG_br rfl (fun h155 => ?_) (fun h155 => ?_)
              · have b155 := z0.mp h155
                refine xG_run 2 rfl (by repeat' (first | exact trivial | assumption | exact xob_b rfl | exact xal_b rfl | (apply And.intro) | decide)) ?_
                try dsimp only [xsto1, xsto2, xkill, xget, xset, gd_0, gd_s]
                rw [nI_1]
                refine ih _ ⟨_, rfl, fun q hq hq2 hq3 => ?_⟩
                by_cases e : bK U q = k
                · have eq : q = r := bK_inj hq2 hb (e.trans hrk.symm)
                  subst eq
                  exact fun z => b155 z.1.2.1
                · exact hok q hq hq2 (by omega)
              · have b155 := z1.mp h155
                refine xG_run 1 rfl (by repeat' (first | exact trivial | assumption | exact xob_b rfl | exact xal_b rfl | (apply And.intro) | decide)) ?_
                try dsimp only [xsto1, xsto2, xkill, xget, xset, gd_0, gd_s]
                refine r2_i rfl rfl ?_
                have hk9 := (hnx _ hgt hlt).mp h117
                rw [okD, hlm] at hk9
                have hdq : dQ (oQ R np nr U t (nI mo) mp) (lmS U D nr) r := ⟨⟨⟨hr, by rw [hSb, hDk]; rfl⟩, b155, hk9.1.resolve_left (by omega)⟩, hk9.2⟩
                refine ⟨Or.inl ⟨⟨hst, Can_s hdq.1 hdq.2⟩, Or.inr ⟨hS0, r, hr, hdq, fun i hi z => ?_, by rw [hrk]⟩⟩, hF, hN2.2.2.2.2.2⟩
                have hi2 := z.1.1.2
                rw [lm_b nr i (by omega)] at hi2
                have hi3 := (Bool.and_eq_true_iff.mp hi2).1
                exact hok i (by omega) hi3 (by have := bK_lt hi3 hi; omega) z
            · refine xG_run 3 rfl (by repeat' (first | exact trivial | assumption | exact xob_b rfl | exact xal_b rfl | (apply And.intro) | decide)) ?_
              try dsimp only [xsto1, xsto2, xkill, xget, xset, gd_0, gd_s]
              rw [nI_1]
              refine ih _ ⟨_, rfl, fun q hq hq2 hq3 => ?_⟩
              by_cases e : bK U q = k
              · have eq : q = r := bK_inj hq2 hb (e.trans hrk.symm)
                subst eq
                exact fun z => (fun y => y (Decidable.not_not.mp h117)) ((hnx _ hgt hlt).mpr ⟨Or.inr (by rw [hlm]; exact z.1.2.2), by rw [hlm]; exact z.2⟩)
              · exact hok q hq hq2 (by omega)
        · rintro X ⟨x5, rfl, hok⟩
          refine xG_run 3 rfl (by repeat' (first | exact trivial | assumption | exact xob_b rfl | exact xal_b rfl | (apply And.intro) | decide)) ?_
          try dsimp only [xsto1, xsto2, xkill, xget, xset, gd_0, gd_s]
          refine xG_brT rfl (by rw [hN2.2.1.1]; exact Int32.le_refl _) ?_
          refine xG_run 1 rfl (by repeat' (first | exact trivial | assumption | exact xob_b rfl | exact xal_b rfl | (apply And.intro) | decide)) ?_
          try dsimp only [xsto1, xsto2, xkill, xget, xset, gd_0, gd_s]
          refine r2_i rfl rfl ?_
          refine ⟨Or.inr ⟨fun q => ?_, rfl⟩, hF, hN2.2.2.2.2.2⟩
          obtain ⟨r, hr9⟩ := Can_0 q.2 hS0
          have hi2 := hr9.1.1.2
          rw [lm_b nr r hr9.1.1.1] at hi2
          have hi3 := (Bool.and_eq_true_iff.mp hi2).1
          exact hok r hr9.1.1.1 hi3 (bK_lt hi3 hr9.1.1.1) hr9
      · have he : D = 2 ^ bK U nr - 1 := nI_injb (by omega) (by omega) (Decidable.not_not.mp h77).symm
        refine xG_run 1 rfl (by repeat' (first | exact trivial | assumption | exact xob_b rfl | exact xal_b rfl | (apply And.intro) | decide)) ?_
        try dsimp only [xsto1, xsto2, xkill, xget, xset, gd_0, gd_s]
        refine r2_i rfl rfl ?_
        have hz : (lmS U D nr) = 0 := by rw [he]; exact lm_all
        refine ⟨Or.inl ⟨⟨hst, by rw [hz]; exact Can_d⟩, Or.inl ⟨hz, rfl⟩⟩, hF, hN2.2.2.2.2.2⟩
    · have hD0 : ¬ D = 0 := fun q => h53 (by rw [q]; rfl)
      refine xG_run 3 rfl (by repeat' (first | exact trivial | assumption | exact xob_b rfl | exact xal_b rfl | (apply And.intro) | decide)) ?_
      try dsimp only [xsto1, xsto2, xkill, xget, xset, gd_0, gd_s]
      refine xG_c2 2 rfl (by repeat' (first | exact trivial | assumption | exact xob_b rfl | exact xal_b rfl | (apply And.intro) | decide)) rfl rfl (by decide) cw_X4_isSafe (d' := d - 1) (e_xisSafe (mo := mo) (mp := mp) mt hj0 hN2.2.2.2.1 hp2 hN2.2.1.2.2.1 hN2.2.1.2.2.2 hmo (by omega)) (by omega) ?_
      rintro v M' ⟨rfl, hM⟩
      subst M'
      dsimp only [Option.toList, List.cons_append, List.nil_append]
      refine xG_br rfl (fun h62 => ?_) (fun h62 => ?_)
      · have b62 := z1.mp h62
        have hst : D = 0 ∨ isF (tgU R nr U (lmS U D nr) t) np nr (nI mo) mp := Or.inr b62
        refine xG_run 4 rfl (by repeat' (first | exact trivial | assumption | exact xob_b rfl | exact xal_b rfl | (apply And.intro) | decide)) ?_
        try dsimp only [xsto1, xsto2, xkill, xget, xset, gd_0, gd_s]
        rw [hcn]
        refine xG_run 1 rfl (by repeat' (first | exact trivial | assumption | exact xob_b rfl | exact xal_b rfl | (apply And.intro) | decide)) ?_
        try dsimp only [xsto1, xsto2, xkill, xget, xset, gd_0, gd_s]
        rw [hsc]
        refine xG_run 2 rfl (by repeat' (first | exact trivial | assumption | exact xob_b rfl | exact xal_b rfl | (apply And.intro) | decide)) ?_
        try dsimp only [xsto1, xsto2, xkill, xget, xset, gd_0, gd_s]
        rw [hsb]
        refine xG_br rfl (fun h77 => ?_) (fun h77 => ?_)
        · have hne : ¬ D = 2 ^ bK U nr - 1 := fun q => h77 (by rw [← q])
          refine xG_run 2 rfl (by repeat' (first | exact trivial | assumption | exact xob_b rfl | exact xal_b rfl | (apply And.intro) | decide)) ?_
          try dsimp only [xsto1, xsto2, xkill, xget, xset, gd_0, gd_s]
          have hS0 : ¬ (lmS U D nr) = 0 := lm_ne hD hne
          have lp2 := xG_upP (κ := κ) (m := mX4_leastNext) (r := (d, 0, 0)) (YS := xRet mX4_leastNext false (fun v M' n' => n' = 182 ∧ (((okD R np nr U t (nI mo) mp D ∧ (((lmS U D nr) = 0 ∧ v = some (.int 0)) ∨ (¬ (lmS U D nr) = 0 ∧ ∃ r, r < nr ∧ dQ (oQ R np nr U t (nI mo) mp) (lmS U D nr) r ∧ (∀ i, i < r → ¬ dQ (oQ R np nr U t (nI mo) mp) (lmS U D nr) i) ∧ v = some (.int (nI (bK U r)))))) ∨ (¬ okD R np nr U t (nI mo) mp D ∧ v = some (.int (-4)))) ∧ lnF M M' ∧ ∀ r, r < nr → ¬ U.testBit r = true → gI M' (43 + r) 4 = rr R r 4))) (fun k X => ∃ x5 : Option Value, X = (85, [some (.ref 136), some (.ref 28), some (.ref 123), some (.int (nI D)), some (.int (nI k)), x5], [], M2, z2) ∧ ∀ q, q < nr → U.testBit q = true → bK U q < k → ¬ dQ (oQ R np nr U t (nI mo) mp) (lmS U D nr) q) (bK U nr) ?_ ?_ 0 (Nat.zero_le _)
          · exact lp2 _ ⟨_, rfl, fun q _ _ h => absurd h (Nat.not_lt_zero _)⟩
          · rintro k X hk ⟨x5, rfl, hok⟩ ih
            obtain ⟨r, hr, hb, hrk⟩ := bK_surj hk
            have hk1 : (nI k).toNatClampNeg = k := nI_cl (by omega)
            have hbt := xbd_nI (S := D) (i := k) (by omega)
            have hxa : xob (43 + r) 5 182 := xob_r28 (by omega)
            have hqa : xqr 137 182 (nI k) := xqr_n rfl 6 rfl (by omega) (by omega)
            have hs9 : xar 139 0 182 (nI k) := xar_n rfl 6 rfl (by omega) (by omega)
            have hcn : gI M2 136 3 = nI (bK U nr) := hN2.2.1.1
            obtain ⟨o1, o2, o3⟩ := hN2.2.2.1 r hr hb
            have hv : xrf (xpr z2.2.1 M2 137 (nI k).toNatClampNeg) = .ref (43 + r) := by rw [hk1]; show xrf (gP M2 137 k) = _; rw [← hrk, o1]; rfl
            have ho : gI M2 139 (nI k).toNatClampNeg = rr R r 4 := by rw [hk1, ← hrk]; exact o3
            have hnt : gI M2 136 4 = t := hN2.2.1.2.1
            have hUk : bK U r < bK U nr := bK_lt hb hr
            have hSb : (lmS U D nr).testBit r = !D.testBit k := by rw [lm_b nr r hr, hb, hrk]; rfl
            have hsk := shl_p k (by omega)
            have hor : nI D ||| nI (2 ^ k) = nI (D ||| 2 ^ k) := or_nI
            have hlt : D ||| 2 ^ k < 2 ^ bK U nr := Nat.or_lt_two_pow hD (Nat.pow_lt_pow_right (by omega) hk)
            have hsn : xar 140 0 182 (nI (D ||| 2 ^ k)) := xar_n rfl 64 rfl (by omega) (by omega)
            have hnv : gI M2 140 (nI (D ||| 2 ^ k)).toNatClampNeg = gI M 140 (D ||| 2 ^ k) := by rw [nI_cl (by omega)]; exact hF.1 _ _ (by omega)
            have hh0 : gI M2 (43 + r) 5 = 0 := ((r_q mt hr).1 5 (by omega)).trans ((tu_o (by omega)).trans (h0 r hr hb))
            have hv9 : xrf (xpr z2.2.1 (sI M2 (43 + r) 5 2) 137 (nI k).toNatClampNeg) = .ref (43 + r) := hv
            have hbk : (sI M2 (43 + r) 5 2 : xM) = sI M2 (28 + 15 + r) 5 2 := by rw [show 28 + 15 + r = 43 + r by omega]
            have m3 : mR (sI M2 (43 + r) 5 2) 28 (ofR (tgU R nr U (lmS U D nr) t) r) 167 np nr ng := by rw [hbk]; exact mR_rope (k := 5) (w := 2) mt hr (Or.inr (Or.inr ⟨rfl, by decide, by decide⟩))
            have hBL3 : BL (sI M2 (43 + r) 5 2) 0 (nI U) np nr := BL_u hN2.2.2.2.1 hn2 hr2 (fun i k hi _ => gI_ne (by omega)) (fun i k hi hx => gI_ne (Or.inl (fun e => by
              have e2 : i = r := by omega
              subst e2
              have := (xbd_nI (S := U) (i := i) (by omega)).mpr hb
              unfold xbd at hx
              exact absurd this (of_decide_eq_false hx)))) (gI_ne (by omega)) ⟨gI_ne (by omega), gI_ne (by omega)⟩ (fun _ => rfl) (fun _ => ⟨rfl, rfl⟩)
            have hp3 : gJ (sI M2 (43 + r) 5 2) 123 5 = cPs (sI M2 (43 + r) 5 2) np - 0 := by
              rw [Int64.sub_zero]
              exact hN2.2.2.2.2.1.trans (cPs_c hn2 (fun i k hi => gI_ne (by omega)) (fun k => gI_ne (by omega)) (fun k => gI_ne (by omega))).symm
            have h53 : gI (sI M2 (43 + r) 5 2) 136 5 = nI mo := (gI_ne (by omega)).trans hN2.2.1.2.2.1
            have h63 : gI (sI M2 (43 + r) 5 2) 136 6 = mp := (gI_ne (by omega)).trans hN2.2.1.2.2.2
            refine xG_run 3 rfl (by repeat' (first | exact trivial | assumption | exact xob_b rfl | exact xal_b rfl | (apply And.intro) | decide)) ?_
            try dsimp only [xsto1, xsto2, xkill, xget, xset, gd_0, gd_s]
            refine xG_brF rfl (by rw [hcn]; exact nI_ge hk (by omega)) ?_
            refine xG_run 6 rfl (by repeat' (first | exact trivial | assumption | exact xob_b rfl | exact xal_b rfl | (apply And.intro) | decide)) ?_
            try dsimp only [xsto1, xsto2, xkill, xget, xset, gd_0, gd_s]
            refine xG_br rfl (fun h101 => ?_) (fun h101 => ?_)
            · refine xG_run 2 rfl (by repeat' (first | exact trivial | assumption | exact xob_b rfl | exact xal_b rfl | (apply And.intro) | decide)) ?_
              try dsimp only [xsto1, xsto2, xkill, xget, xset, gd_0, gd_s]
              rw [nI_1]
              refine ih _ ⟨_, rfl, fun q hq hq2 hq3 => ?_⟩
              by_cases e : bK U q = k
              · have eq : q = r := bK_inj hq2 hb (e.trans hrk.symm)
                subst eq
                exact fun z => by have h9 := z.1.1.2; rw [hSb, hbt.mp h101] at h9; cases h9
              · exact hok q hq hq2 (by omega)
            · have hDk : D.testBit k = false := by
                cases h9 : D.testBit k with
                | false => rfl
                | true => exact absurd (hbt.mpr h9) h101
              have hlm : lmS U (D ||| 2 ^ k) nr = (lmS U D nr) ^^^ 2 ^ r := by rw [← hrk]; exact lm_or hr hb (by rw [hrk]; exact hDk)
              have hgt : D < D ||| 2 ^ k := or_gt hDk
              refine xG_run 6 rfl (by repeat' (first | exact trivial | assumption | exact xob_b rfl | exact xal_b rfl | (apply And.intro) | decide)) ?_
              try dsimp only [xsto1, xsto2, xkill, xget, xset, gd_0, gd_s]
              rw [hsk]
              refine xG_run 1 rfl (by repeat' (first | exact trivial | assumption | exact xob_b rfl | exact xal_b rfl | (apply And.intro) | decide)) ?_
              try dsimp only [xsto1, xsto2, xkill, xget, xset, gd_0, gd_s]
              rw [hor]
              refine xG_run 1 rfl (by repeat' (first | exact trivial | assumption | exact xob_b rfl | exact xal_b rfl | (apply And.intro) | decide)) ?_
              try dsimp only [xsto1, xsto2, xkill, xget, xset, gd_0, gd_s]
              rw [hnv]
              refine xG_run 1 rfl (by repeat' (first | exact trivial | assumption | exact xob_b rfl | exact xal_b rfl | (apply And.intro) | decide)) ?_
              try dsimp only [xsto1, xsto2, xkill, xget, xset, gd_0, gd_s]
              refine xG_br rfl (fun h117 => ?_) (fun h117 => ?_)
              · refine xG_run 4 rfl (by repeat' (first | exact trivial | assumption | exact xob_b rfl | exact xal_b rfl | (apply And.intro) | decide)) ?_
                try dsimp only [xsto1, xsto2, xkill, xget, xset, gd_0, gd_s]
                rw [hv]
                refine xG_run 5 rfl (by repeat' (first | exact trivial | assumption | exact xob_b rfl | exact xal_b rfl | (apply And.intro) | decide)) ?_
                try dsimp only [xsto1, xsto2, xkill, xget, xset, gd_0, gd_s]
                refine xG_c2 2 rfl (by repeat' (first | exact trivial | assumption | exact xob_b rfl | exact xal_b rfl | (apply And.intro) | decide)) rfl rfl (by decide) cw_X4_isSafe (d' := d - 1) (e_xisSafe (mo := mo) (mp := mp) m3 hj0 hBL3 hp3 h53 h63 hmo (by omega)) (by omega) ?_
                rintro v M' ⟨rfl, hM⟩
                subst M'
                dsimp only [Option.toList, List.cons_append, List.nil_append]
                refine xG_run 5 rfl (by repeat' (first | exact trivial | assumption | exact xob_b rfl | exact xal_b rfl | (apply And.intro) | decide)) ?_
                try dsimp only [xsto1, xsto2, xkill, xget, xset, gd_0, gd_s]
                rw [hv9]
                refine xG_run 2 rfl (by repeat' (first | exact trivial | assumption | exact xob_b rfl | exact xal_b rfl | (apply And.intro) | decide)) ?_
                try dsimp only [xsto1, xsto2, xkill, xget, xset, gd_0, gd_s]
                rw [how_b hh0]
                refine xG_run 1 rfl (by repeat' (first | exact trivial | assumption | exact xob_b rfl | exact xal_b rfl | (apply And.intro) | decide)) ?_
                try dsimp only [xsto1, xsto2, xkill, xget, xset, gd_0, gd_s]
                refine xG_br rfl (fun h155 => ?_) (fun h155 => ?_)
                · have b155 := z0.mp h155
                  refine xG_run 2 rfl (by repeat' (first | exact trivial | assumption | exact xob_b rfl | exact xal_b rfl | (apply And.intro) | decide)) ?_
                  try dsimp only [xsto1, xsto2, xkill, xget, xset, gd_0, gd_s]
                  rw [nI_1]
                  refine ih _ ⟨_, rfl, fun q hq hq2 hq3 => ?_⟩
                  by_cases e : bK U q = k
                  · have eq : q = r := bK_inj hq2 hb (e.trans hrk.symm)
                    subst eq
                    exact fun z => b155 z.1.2.1
                  · exact hok q hq hq2 (by omega)
                · have b155 := z1.mp h155
                  refine xG_run 1 rfl (by repeat' (first | exact trivial | assumption | exact xob_b rfl | exact xal_b rfl | (apply And.intro) | decide)) ?_
                  try dsimp only [xsto1, xsto2, xkill, xget, xset, gd_0, gd_s]
                  refine r2_i rfl rfl ?_
                  have hk9 := (hnx _ hgt hlt).mp h117
                  rw [okD, hlm] at hk9
                  have hdq : dQ (oQ R np nr U t (nI mo) mp) (lmS U D nr) r := ⟨⟨⟨hr, by rw [hSb, hDk]; rfl⟩, b155, hk9.1.resolve_left (by omega)⟩, hk9.2⟩
                  refine ⟨Or.inl ⟨⟨hst, Can_s hdq.1 hdq.2⟩, Or.inr ⟨hS0, r, hr, hdq, fun i hi z => ?_, by rw [hrk]⟩⟩, hF, hN2.2.2.2.2.2⟩
                  have hi2 := z.1.1.2
                  rw [lm_b nr i (by omega)] at hi2
                  have hi3 := (Bool.and_eq_true_iff.mp hi2).1
                  exact hok i (by omega) hi3 (by have := bK_lt hi3 hi; omega) z
              · refine xG_run 3 rfl (by repeat' (first | exact trivial | assumption | exact xob_b rfl | exact xal_b rfl | (apply And.intro) | decide)) ?_
                try dsimp only [xsto1, xsto2, xkill, xget, xset, gd_0, gd_s]
                rw [nI_1]
                refine ih _ ⟨_, rfl, fun q hq hq2 hq3 => ?_⟩
                by_cases e : bK U q = k
                · have eq : q = r := bK_inj hq2 hb (e.trans hrk.symm)
                  subst eq
                  exact fun z => (fun y => y (Decidable.not_not.mp h117)) ((hnx _ hgt hlt).mpr ⟨Or.inr (by rw [hlm]; exact z.1.2.2), by rw [hlm]; exact z.2⟩)
                · exact hok q hq hq2 (by omega)
          · rintro X ⟨x5, rfl, hok⟩
            refine xG_run 3 rfl (by repeat' (first | exact trivial | assumption | exact xob_b rfl | exact xal_b rfl | (apply And.intro) | decide)) ?_
            try dsimp only [xsto1, xsto2, xkill, xget, xset, gd_0, gd_s]
            refine xG_brT rfl (by rw [hN2.2.1.1]; exact Int32.le_refl _) ?_
            refine xG_run 1 rfl (by repeat' (first | exact trivial | assumption | exact xob_b rfl | exact xal_b rfl | (apply And.intro) | decide)) ?_
            try dsimp only [xsto1, xsto2, xkill, xget, xset, gd_0, gd_s]
            refine r2_i rfl rfl ?_
            refine ⟨Or.inr ⟨fun q => ?_, rfl⟩, hF, hN2.2.2.2.2.2⟩
            obtain ⟨r, hr9⟩ := Can_0 q.2 hS0
            have hi2 := hr9.1.1.2
            rw [lm_b nr r hr9.1.1.1] at hi2
            have hi3 := (Bool.and_eq_true_iff.mp hi2).1
            exact hok r hr9.1.1.1 hi3 (bK_lt hi3 hr9.1.1.1) hr9
        · have he : D = 2 ^ bK U nr - 1 := nI_injb (by omega) (by omega) (Decidable.not_not.mp h77).symm
          refine xG_run 1 rfl (by repeat' (first | exact trivial | assumption | exact xob_b rfl | exact xal_b rfl | (apply And.intro) | decide)) ?_
          try dsimp only [xsto1, xsto2, xkill, xget, xset, gd_0, gd_s]
          refine r2_i rfl rfl ?_
          have hz : (lmS U D nr) = 0 := by rw [he]; exact lm_all
          refine ⟨Or.inl ⟨⟨hst, by rw [hz]; exact Can_d⟩, Or.inl ⟨hz, rfl⟩⟩, hF, hN2.2.2.2.2.2⟩
      · have b62 := z0.mp (Decidable.not_not.mp h62)
        refine xG_run 1 rfl (by repeat' (first | exact trivial | assumption | exact xob_b rfl | exact xal_b rfl | (apply And.intro) | decide)) ?_
        try dsimp only [xsto1, xsto2, xkill, xget, xset, gd_0, gd_s]
        refine r2_i rfl rfl ?_
        exact ⟨Or.inr ⟨fun q => q.1.elim hD0 b62, rfl⟩, hF, hN2.2.2.2.2.2⟩
