/-! ===== the law: its loop ===== -/
section LSW
variable {κ : xKK} {Z : State → Prop} {m : xMI} {r : xRm} {YS : xX → Prop} {pc k1 k2 : Nat} {L : xLc} {st : List Value} {M : xM}
theorem xGh_sw (hf : ∀ x, x < 182 → ∀ k ∈ pl x, gP M x k = srf x k) (k : xGh κ Z m r (pc, L, st, M, 182, false, k1, k2) YS) : xGh κ Z m r (pc, L, st, M, 182, true, k1, k2) YS := by
  intro p e R s me args below meth c Q hC hZ hY
  have kk := k p e R s me args below meth c Q hC hZ hY
  exact fun H locs ls h1 h3 h4 h5 h6 h7 => kk H locs ls (xsw (n := 182) (Nat.le_refl _) hf h1) (fun q => by cases q) h4 h5 h6 h7
end LSW
theorem n6_s (t : Nat) : nI (6 * t) + 6 = nI (6 * (t + 1)) := by
  show Int32.ofNat (6 * t) + Int32.ofNat 6 = Int32.ofNat (6 * (t + 1))
  rw [← Int32.ofNat_add, Nat.mul_succ]
set_option maxRecDepth 8000 in
theorem la_sw {κ : xKK} {b N : Nat} {xs : Nat → Int32} {YS : xX → Prop} {M : xM} {i x : Int32} {a5 a6 a7 : Option Value} {k1 k2 : Nat} (hl : κ.1.stackTraces = false) (hI : IV M) (hr : raI N i) (hk1 : k1 ≤ 600000) (hk2 : k2 ≤ 7000000) (kk : laK κ b N xs YS i k1 k2) : xGh κ (Zl κ b N xs) mL_law rL (40, LL b i a5 a6 a7, [.int x], M, 182, false, k1, k2) YS := by
  by_cases hx : 0 ≤ x.toInt ∧ x.toInt ≤ 44
  · obtain ⟨j, hj, e⟩ : ∃ j : Nat, j < 45 ∧ x.toInt = (j : Int) := ⟨x.toInt.toNat, by omega, by omega⟩
    match j, hj, e with
    | 0, _, e => exact xGh_l (xG_swI 236 0 rfl (by omega) (by decide) rfl (by decide) (xG_done rfl)) (la_0 hI hr hk1 hk2 kk)
    | 1, _, e => exact xGh_l (xG_swI 261 1 rfl (by omega) (by decide) rfl (by decide) (xG_done rfl)) (la_1 hI hr hk1 hk2 kk)
    | 2, _, e => exact xGh_l (xG_swI 298 2 rfl (by omega) (by decide) rfl (by decide) (xG_done rfl)) (la_2 hI hr hk1 hk2 kk)
    | 3, _, e => exact xGh_l (xG_swI 335 3 rfl (by omega) (by decide) rfl (by decide) (xG_done rfl)) (la_3 hI hr hk1 hk2 kk)
    | 4, _, e => exact xGh_l (xG_swI 372 4 rfl (by omega) (by decide) rfl (by decide) (xG_done rfl)) (la_4 hI hr hk1 hk2 kk)
    | 5, _, e => exact xGh_l (xG_swI 409 5 rfl (by omega) (by decide) rfl (by decide) (xG_done rfl)) (la_5 hI hr hk1 hk2 kk)
    | 6, _, e => exact xGh_l (xG_swI 446 6 rfl (by omega) (by decide) rfl (by decide) (xG_done rfl)) (la_6 hI hr hk1 hk2 kk)
    | 7, _, e => exact xGh_l (xG_swI 483 7 rfl (by omega) (by decide) rfl (by decide) (xG_done rfl)) (la_7 hI hr hk1 hk2 kk)
    | 8, _, e => exact xGh_l (xG_swI 520 8 rfl (by omega) (by decide) rfl (by decide) (xG_done rfl)) (la_8 hl hI hr hk1 hk2 kk)
    | 9, _, e => exact xGh_l (xG_swI 575 9 rfl (by omega) (by decide) rfl (by decide) (xG_done rfl)) (la_9 hl hI hr hk1 hk2 kk)
    | 10, _, e => exact xGh_l (xG_swI 630 10 rfl (by omega) (by decide) rfl (by decide) (xG_done rfl)) (la_10 hI hr hk1 hk2 kk)
    | 11, _, e => exact xGh_l (xG_swI 643 11 rfl (by omega) (by decide) rfl (by decide) (xG_done rfl)) (la_11 hI hr hk1 hk2 kk)
    | 12, _, e => exact xGh_l (xG_swI 668 12 rfl (by omega) (by decide) rfl (by decide) (xG_done rfl)) (la_12 hI hr hk1 hk2 kk)
    | 13, _, e => exact xGh_l (xG_swI 693 13 rfl (by omega) (by decide) rfl (by decide) (xG_done rfl)) (la_13 hI hr hk1 hk2 kk)
    | 14, _, e => exact xGh_l (xG_swI 706 14 rfl (by omega) (by decide) rfl (by decide) (xG_done rfl)) (la_14 hI hr hk1 hk2 kk)
    | 15, _, e => exact xGh_l (xG_swI 731 15 rfl (by omega) (by decide) rfl (by decide) (xG_done rfl)) (la_15 hI hr hk1 hk2 kk)
    | 16, _, e => exact xGh_l (xG_swI 756 16 rfl (by omega) (by decide) rfl (by decide) (xG_done rfl)) (la_16 hI hr hk1 hk2 kk)
    | 17, _, e => exact xGh_l (xG_swI 781 17 rfl (by omega) (by decide) rfl (by decide) (xG_done rfl)) (la_17 hI hr hk1 hk2 kk)
    | 18, _, e => exact xGh_l (xG_swI 806 18 rfl (by omega) (by decide) rfl (by decide) (xG_done rfl)) (la_18 hI hr hk1 hk2 kk)
    | 19, _, e => exact xGh_l (xG_swI 843 19 rfl (by omega) (by decide) rfl (by decide) (xG_done rfl)) (la_19 hI hr hk1 hk2 kk)
    | 20, _, e => exact xGh_l (xG_swI 904 20 rfl (by omega) (by decide) rfl (by decide) (xG_done rfl)) (la_20 hI hr hk1 hk2 kk)
    | 21, _, e => exact xGh_l (xG_swI 941 21 rfl (by omega) (by decide) rfl (by decide) (xG_done rfl)) (la_21 hI hr hk1 hk2 kk)
    | 22, _, e => exact xGh_l (xG_swI 954 22 rfl (by omega) (by decide) rfl (by decide) (xG_done rfl)) (la_22 hI hr hk1 hk2 kk)
    | 23, _, e => exact xGh_l (xG_swI 967 23 rfl (by omega) (by decide) rfl (by decide) (xG_done rfl)) (la_23 hI hr hk1 hk2 kk)
    | 24, _, e => exact xGh_l (xG_swI 992 24 rfl (by omega) (by decide) rfl (by decide) (xG_done rfl)) (la_24 hI hr hk1 hk2 kk)
    | 25, _, e => exact xGh_l (xG_swI 1030 25 rfl (by omega) (by decide) rfl (by decide) (xG_done rfl)) (la_25 hI hr hk1 hk2 kk)
    | 26, _, e => exact xGh_l (xG_swI 1067 26 rfl (by omega) (by decide) rfl (by decide) (xG_done rfl)) (la_26 hI hr hk1 hk2 kk)
    | 27, _, e => exact xGh_l (xG_swI 1092 27 rfl (by omega) (by decide) rfl (by decide) (xG_done rfl)) (la_27 hI hr hk1 hk2 kk)
    | 28, _, e => exact xGh_l (xG_swI 1117 28 rfl (by omega) (by decide) rfl (by decide) (xG_done rfl)) (la_28 hI hr hk1 hk2 kk)
    | 29, _, e => exact xGh_l (xG_swI 1170 29 rfl (by omega) (by decide) rfl (by decide) (xG_done rfl)) (la_29 hI hr hk1 hk2 kk)
    | 30, _, e => exact xGh_l (xG_swI 1207 30 rfl (by omega) (by decide) rfl (by decide) (xG_done rfl)) (la_30 hI hr hk1 hk2 kk)
    | 31, _, e => exact xGh_l (xG_swI 1232 31 rfl (by omega) (by decide) rfl (by decide) (xG_done rfl)) (la_31 hI hr hk1 hk2 kk)
    | 32, _, e => exact xGh_l (xG_swI 1294 32 rfl (by omega) (by decide) rfl (by decide) (xG_done rfl)) (la_32 hI hr hk1 hk2 kk)
    | 33, _, e => exact xGh_l (xG_swI 1355 33 rfl (by omega) (by decide) rfl (by decide) (xG_done rfl)) (la_33 hI hr hk1 hk2 kk)
    | 34, _, e => exact xGh_l (xG_swI 1404 34 rfl (by omega) (by decide) rfl (by decide) (xG_done rfl)) (la_34 hI hr hk1 hk2 kk)
    | 35, _, e => exact xGh_l (xG_swI 1453 35 rfl (by omega) (by decide) rfl (by decide) (xG_done rfl)) (la_35 hI hr hk1 hk2 kk)
    | 36, _, e => exact xGh_l (xG_swI 1466 36 rfl (by omega) (by decide) rfl (by decide) (xG_done rfl)) (la_36 hI hr hk1 hk2 kk)
    | 37, _, e => exact xGh_l (xG_swI 1479 37 rfl (by omega) (by decide) rfl (by decide) (xG_done rfl)) (la_37 hI hr hk1 hk2 kk)
    | 38, _, e => exact xGh_l (xG_swI 1504 38 rfl (by omega) (by decide) rfl (by decide) (xG_done rfl)) (la_38 hI hr hk1 hk2 kk)
    | 39, _, e => exact xGh_l (xG_swI 1553 39 rfl (by omega) (by decide) rfl (by decide) (xG_done rfl)) (la_39 hI hr hk1 hk2 kk)
    | 40, _, e => exact xGh_l (xG_swI 1602 40 rfl (by omega) (by decide) rfl (by decide) (xG_done rfl)) (la_40 hI hr hk1 hk2 kk)
    | 41, _, e => exact xGh_l (xG_swI 1651 41 rfl (by omega) (by decide) rfl (by decide) (xG_done rfl)) (la_41 hl hI hr hk1 hk2 kk)
    | 42, _, e => exact xGh_l (xG_swI 1718 42 rfl (by omega) (by decide) rfl (by decide) (xG_done rfl)) (la_42 hI hr hk1 hk2 kk)
    | 43, _, e => exact xGh_l (xG_swI 1791 43 rfl (by omega) (by decide) rfl (by decide) (xG_done rfl)) (la_43 hI hr hk1 hk2 kk)
    | 44, _, e => exact xGh_l (xG_swI 1816 44 rfl (by omega) (by decide) rfl (by decide) (xG_done rfl)) (la_44 hI hr hk1 hk2 kk)
    | j + 45, hj, _ => omega
  · exact xGh_l (xG_swO 1841 rfl (by omega) (by decide) (xG_done rfl)) (kk M a5 a6 a7 k1 k2 hI (by omega) (by omega))
set_option maxRecDepth 8000 in
theorem la_loop {κ : xKK} {b N : Nat} {xs : Nat → Int32} {YS : xX → Prop} (hl : κ.1.stackTraces = false) (hN : N ≤ 384) (hY : ∀ Y : xX, Y.1 = 1848 → Y.2.2.1 = [.int 1] → YS Y) : ∀ (f t : Nat) (M : xM) (a5 a6 a7 : Option Value) (k1 k2 : Nat), t + f = 65 → 6 * t ≤ N → IV M → k1 ≤ 200 + t → k2 ≤ 20000 + 6 * t → xGh κ (Zl κ b N xs) mL_law rL (23, LL b (nI (6 * t)) a5 a6 a7, [], M, 182, false, k1, k2) YS
  | 0, t, _, _, _, _, _, _, h1, h2, _, _, _ => by omega
  | f + 1, t, M, a5, a6, a7, k1, k2, h1, h2, hI, hk1, hk2 => by
    have eN : (Int32.ofNat N).toInt = (N : Int) := nI_ti (j := N) (by omega)
    have e6 : (6 : Int32).toInt = 6 := by decide
    have eS : (Int32.ofNat N - 6).toInt = (N : Int) - 6 := by
      rw [fb_subI (by rw [eN, e6]; omega) (by rw [eN, e6]; omega), eN, e6]
    have ei : (nI (6 * t)).toInt = ((6 * t : Nat) : Int) := nI_ti (by omega)
    refine xGh_run 1 rfl trivial ?_
    refine xGh_lda rfl rfl ?_
    refine xGh_sln rfl zl_s ?_
    refine xGh_run 2 rfl trivial ?_
    by_cases hg : 6 * t + 6 ≤ N
    · have hr : raI N (nI (6 * t)) := ⟨hN, by omega, by omega⟩
      refine xGh_brF rfl (fun q => by have := Int32.lt_iff_toInt_lt.mp q; omega) ?_
      refine xGh_arg0 rfl rfl rfl trivial rfl zl_s (ra_0 hr) ?_
      refine xGh_run 2 rfl trivial ?_
      refine la_sw hl hI hr (by omega) (by omega) ?_
      intro M' b5 b6 b7 k1' k2' hI' q1 q2
      refine xGh_run 2 rfl trivial ?_
      show xGh κ (Zl κ b N xs) mL_law rL (23, LL b (nI (6 * t) + 6) b5 b6 b7, [], M', 182, false, k1', k2') YS
      rw [n6_s]
      exact la_loop hl hN hY f (t + 1) M' b5 b6 b7 k1' k2' (by omega) (by omega) hI' (by omega) (by omega)
    · refine xGh_brT rfl (Int32.lt_iff_toInt_lt.mpr (by omega)) ?_
      refine xGh_run 1 rfl trivial ?_
      exact xGh_done (hY _ rfl rfl)
theorem gwl_c8 : Cond.classLink mL_law.1.1 8 "MastWind" ∈ GW := xw1 (by decide +kernel)
theorem gwl_c25 : Cond.classLink mL_law.1.1 25 "MastWindModel" ∈ GW := xw1 (by decide +kernel)
theorem gwl_m24 : Cond.methodLink mL_law.1.1 24 mX11_init.1.2.1 ∈ GW := xw1 (by decide +kernel)
theorem gwl_m27 : Cond.methodLink mL_law.1.1 27 mX12_init.1.2.1 ∈ GW := xw1 (by decide +kernel)
theorem gwl_n11 : Cond.instantiable "MastWind" 14 ∈ GW := xw1 (by decide +kernel)
theorem gwl_i11 : Cond.initialized "MastWind" ∈ GW := xw1 (by decide +kernel)
theorem gwl_n12 : Cond.instantiable "MastWindModel" 32 ∈ GW := xw1 (by decide +kernel)
theorem gwl_i12 : Cond.initialized "MastWindModel" ∈ GW := xw1 (by decide +kernel)
theorem pl_181 : pl 181 = [] := by decide +kernel
set_option maxRecDepth 8000 in
theorem la_start {κ : xKK} {b N : Nat} {xs : Nat → Int32} {YS : xX → Prop} {M : xM} (hl : κ.1.stackTraces = false) (hN : N ≤ 384) (hY : ∀ Y : xX, Y.1 = 1848 → Y.2.2.1 = [.int 1] → YS Y) : xGh κ (Zl κ b N xs) mL_law rL (0, [some (.retAddr b), none, none, none, none, none, none, none], [], M, 0, true, 0, 0) YS := by
  refine xGh_new (n' := 1) (k1' := 1) (k2' := 14) (cid := 11) rfl rfl rfl rfl rfl gwl_c8 gwl_n11 gwl_i11 rfl (by decide) (by decide) ?_
  refine xGh_run 1 rfl trivial ?_
  refine xGh_init (my := mX11_init) (r' := (2, 165, 5496)) rfl rfl rfl rfl rfl cw_X11_init gwl_m24 rfl (k_X11_0 (bl_z _ _)) (fun _ h => h.1) ⟨by decide, by decide, by decide⟩ (fun v M' n' h => h.2.1) ?_
  rintro v M1 n' ⟨rfl, rfl, sm1, fn1⟩
  dsimp only [Option.toList, List.nil_append, Nat.reduceAdd]
  refine xGh_run 1 rfl trivial ?_
  try dsimp only [xsto1, xsto2, xkill, xget, xset, gd_0, gd_s]
  refine xGh_new (n' := 167) (k1' := 167) (k2' := 5542) (cid := 12) rfl rfl rfl rfl rfl gwl_c25 gwl_n12 gwl_i12 rfl (by decide) (by decide) ?_
  refine xGh_run 1 rfl trivial ?_
  refine xGh_init (my := mX12_init) (r' := (0, 14, 5991)) rfl rfl rfl rfl rfl cw_X12_init gwl_m27 rfl (k_X12_166 (bl_z _ _)) (fun _ h => h.1) ⟨by decide, by decide, by decide⟩ (fun v M' n' h => h.2.1) ?_
  rintro v M2 n' ⟨rfl, rfl, sm2, fn2⟩
  dsimp only [Option.toList, List.nil_append, Nat.reduceAdd]
  refine xGh_run 2 rfl trivial ?_
  try dsimp only [xsto1, xsto2, xkill, xget, xset, gd_0, gd_s]
  refine xGh_l (xG_na (kd := 1) (len := 1) (ty := .long) rfl rfl rfl (Or.inr (Or.inl ⟨rfl, rfl⟩)) (by decide) rfl (by decide) (by decide) (by decide) (xG_done rfl)) ?_
  refine xGh_run 1 rfl trivial ?_
  try dsimp only [xsto1, xsto2, xkill, xget, xset, gd_0, gd_s]
  have fa : ∀ x, x < 181 → fin' (zN M2 181) x := fun x hx => by
    have f2 : fin' M2 x := by
      by_cases h6 : x < 166
      · exact fin_eq (fn1 x (Nat.zero_le _) h6) (fun k => sm_at sm2 x k h6)
      · exact fn2 x (by omega) hx
    exact fin_eq f2 (fun k => zN_same x hx k)
  refine xGh_sw (fun x hx k hk => ?_) ?_
  · by_cases h : x = 181
    · subst h
      rw [pl_181] at hk
      exact absurd hk List.not_mem_nil
    · exact (fa x (by omega)).2.2 k hk
  refine xGh_run 2 rfl trivial ?_
  show xGh κ (Zl κ b N xs) mL_law rL (23, LL b (nI (6 * 0)) none none none, [], zN M2 181, 182, false, 182, 11534) YS
  exact la_loop hl hN hY 65 0 _ none none none 182 11534 (by omega) (by omega) (IV_0 (fun x k hx => (fa x hx).1 k) ((fa 166 (by omega)).2.1 18)) (by omega) (by omega)
