/-! ===== uneven ===== -/
def icN (ice : Nat → Int32) : Nat → Nat
  | 0 => 0
  | n + 1 => if 0 < ice n ∧ icN ice n < 6 then icN ice n + 1 else icN ice n
abbrev icT (ice : Nat → Int32) (i : Nat) : Prop := 0 < ice i ∧ icN ice i < 6
def icS (ice : Nat → Int32) : Nat → Nat
  | 0 => 0
  | n + 1 => if icT ice n then 2 ^ n + icS ice n else icS ice n
def mlI (ice : Nat → Int32) (s i : Nat) : Int32 := if icT ice i ∧ s.testBit (icN ice i) = true then 0 else ice i
def ab (x : Int32) : Int32 := if 0 ≤ x then x else 0 - x
def uwS (F : Nat → Int32) : Nat → Int32 × Int32
  | 0 => (-1, 0)
  | s + 1 => if (uwS F s).1 < ab (F s) then (ab (F s), nI s) else uwS F s
def meR (R : xM) (np : Nat) (s : Nat) : xM := (fun x k => if x = 167 ∧ k % 7 = 5 ∧ k / 7 < np then mlI (fun i => rs R i 5) s (k / 7) else gI R x k, R.2.1, R.2.2)
def mcM (C : xM) (m np : Nat) (ice : Nat → Int32) (s : Nat) : xM := (fun x k => if k = 6 ∧ m + 5 ≤ x ∧ x < m + 5 + np then mlI ice s (x - (m + 5)) else gI C x k, C.2.1, C.2.2)
def unV (R : xM) (np nr : Nat) : Int32 := (uwS (fun s => rSt (meR R np s) np nr) (2 ^ icN (fun i => rs R i 5) np)).2
section UN
variable {ice : Nat → Int32} {np nr ng m s : Nat} {C R : xM}
theorem bt_nI {S i : Nat} (hi : i < 32) : bt (nI S) i = S.testBit i := by
  unfold bt
  show (BitVec.ofNat 32 S).getLsbD i = _
  rw [BitVec.getLsbD_ofNat, decide_eq_true hi, Bool.true_and]
theorem xbd_nI {S i : Nat} (hi : i < 32) : (nI S >>> (nI i &&& 31) &&& 1 = 1) ↔ S.testBit i = true := by
  have e := xbd_bt (nI S) hi
  rw [bt_nI hi] at e
  rw [← e]
  unfold xbd
  exact (decide_eq_true_iff).symm
theorem icN_le : ∀ n, icN ice n ≤ n ∧ icN ice n ≤ 6
  | 0 => ⟨Nat.le_refl _, Nat.zero_le _⟩
  | n + 1 => by
    have h := icN_le n
    rw [icN]
    split
    · omega
    · omega
theorem icS_lt : ∀ n, icS ice n < 2 ^ n
  | 0 => Nat.one_pos
  | n + 1 => by
    have h := icS_lt n
    rw [icS, Nat.pow_succ]
    split <;> omega
theorem icS_bit : ∀ n i, i < n → ((icS ice n).testBit i = true ↔ icT ice i)
  | 0, _, h => absurd h (Nat.not_lt_zero _)
  | n + 1, i, h => by
    rw [icS]
    by_cases e : i = n
    · subst e
      have z : (icS ice i).testBit i = false := Nat.testBit_lt_two_pow (icS_lt i)
      by_cases c : icT ice i
      · rw [if_pos c, Nat.testBit_two_pow_add_eq, z]; exact ⟨fun _ => c, fun _ => rfl⟩
      · rw [if_neg c, z]; exact ⟨fun q => (by cases q), fun q => absurd q c⟩
    · have ih := icS_bit n i (by omega)
      by_cases c : icT ice n
      · rw [if_pos c, Nat.testBit_two_pow_add_gt (by omega)]; exact ih
      · rw [if_neg c]; exact ih
theorem bN_add : ∀ n, n < 10 → ∀ x, x < 2 ^ n → bN (2 ^ n + x) = bN x + 1 := by decide +kernel
theorem or_add : ∀ n, n < 10 → ∀ x, x < 2 ^ n → nI x ||| ((1 : Int32) <<< (nI n &&& 31)) = nI (2 ^ n + x) := by decide +kernel
theorem shl_p : ∀ n, n < 13 → (1 : Int32) <<< (nI n &&& 31) = nI (2 ^ n) := by decide +kernel
theorem icS_bN : ∀ n, n ≤ 10 → bN (icS ice n) = icN ice n
  | 0, _ => by show bN 0 = 0; decide +kernel
  | n + 1, h => by
    have ih := icS_bN n (by omega)
    rw [icS, icN]
    by_cases c : icT ice n
    · rw [if_pos c, if_pos c, bN_add n (by omega) _ (icS_lt n), ih]
    · rw [if_neg c, if_neg c, ih]
theorem p2_le {n : Nat} (h : n ≤ 10) : 2 ^ n ≤ 1024 := Nat.pow_le_pow_right (by decide) h
theorem cIc_eq {M : xM} (hi : ∀ i, i < np → gI M (6 + i) 6 = ice i) : ∀ n, n ≤ np → np ≤ 10 → cIc M n = nI (icS ice n)
  | 0, _, _ => rfl
  | n + 1, h, hn => by
    have ih := cIc_eq hi n (by omega) hn
    have hl := icS_lt (ice := ice) n
    have hp := p2_le (n := n) (by omega)
    have hN := icN_le (ice := ice) n
    rw [cIc, ih, hi n (by omega), bC_n (by omega), icS_bN n (by omega), icS]
    have e : (nI (icN ice n) < 6) ↔ icN ice n < 6 := nI_ltI (a := icN ice n) (b := 6) (by omega) (by omega)
    by_cases c : icT ice n
    · rw [if_pos c, if_pos ⟨c.1, e.mpr c.2⟩, or_add n (by omega) _ hl]
    · rw [if_neg c, if_neg (fun q => c ⟨q.1, e.mp q.2⟩)]
theorem icy_bit (hn : np ≤ 10) {i : Nat} (hi : i < np) : (nI (icS ice np) >>> (nI i &&& 31) &&& 1 = 1) ↔ icT ice i := (xbd_nI (by omega)).trans (icS_bit np i hi)
theorem me_g {x k : Nat} : gI (meR R np s) x k = if x = 167 ∧ k % 7 = 5 ∧ k / 7 < np then mlI (fun i => rs R i 5) s (k / 7) else gI R x k := rfl
theorem me_o {k : Nat} (h : ¬ (k % 7 = 5 ∧ k / 7 < np)) : gI (meR R np s) 167 k = gI R 167 k := by rw [me_g, if_neg (fun q => h q.2)]
theorem me_i {p : Nat} (h : p < np) : gI (meR R np s) 167 (7 * p + 5) = mlI (fun i => rs R i 5) s p := by
  rw [me_g, if_pos ⟨rfl, by omega, by omega⟩, show (7 * p + 5) / 7 = p by omega]
theorem mc_g {x k : Nat} : gI (mcM C m np ice s) x k = if k = 6 ∧ m + 5 ≤ x ∧ x < m + 5 + np then mlI ice s (x - (m + 5)) else gI C x k := rfl
theorem mc_o {x k : Nat} (h : ¬ (k = 6 ∧ m + 5 ≤ x ∧ x < m + 5 + np)) : gI (mcM C m np ice s) x k = gI C x k := by rw [mc_g, if_neg h]
theorem mlI_b (h : nr3 0 20 (ice m)) : nr3 0 20 (mlI ice s m) := by
  unfold mlI
  split
  · exact ⟨by decide, by decide⟩
  · exact h
theorem mR_me (h : mR C m R 167 np nr ng) (hm : m + 27 ≤ 167) : mR (mcM C m np (fun i => rs R i 5) s) m (meR R np s) 167 np nr ng := by
  obtain ⟨a0, a1, a2, a3, a4, a5, a6, a7, a8, a9, a10⟩ := h
  refine ⟨a0, ⟨(mc_o (by omega)).trans a1.1, (me_o (by omega)).trans a1.2⟩, ⟨(mc_o (by omega)).trans a2.1, (me_o (by omega)).trans a2.2⟩, ⟨(mc_o (by omega)).trans a3.1, (me_o (by omega)).trans a3.2⟩, ⟨?_, ?_⟩, ⟨?_, ?_⟩, ⟨?_, ?_⟩, fun j hj => ⟨?_, ?_⟩, fun j hj => ⟨?_, ?_⟩, fun p hp => ?_, fun r hr => ?_⟩
  · rw [mc_o (by omega), me_o (by omega)]; exact a4.1
  · rw [me_o (by omega)]; exact a4.2
  · rw [mc_o (by omega), me_o (by omega)]; exact a5.1
  · rw [me_o (by omega)]; exact a5.2
  · rw [mc_o (by omega), me_o (by omega)]; exact a6.1
  · rw [me_o (by omega)]; exact a6.2
  · rw [mc_o (by omega), me_o (by omega)]; exact (a7 j hj).1
  · rw [me_o (by omega)]; exact (a7 j hj).2
  · rw [mc_o (by omega), me_o (by omega)]; exact (a8 j hj).1
  · rw [me_o (by omega)]; exact (a8 j hj).2
  · obtain ⟨⟨b1, b2⟩, b3, b4, b5, b6, b7, b8, b9⟩ := a9 p hp
    refine ⟨⟨(mc_o (by omega)).trans b1, fun j hj => ?_⟩, ?_, ?_, ?_, ?_, ?_, ?_, ?_⟩
    · by_cases c : j = 5
      · subst c
        rw [me_i hp, mc_g, if_pos (by omega), show m + 5 + p - (m + 5) = p by omega]
      · rw [mc_o (by omega), me_o (by omega)]; exact b2 j hj
    · rw [me_o (by omega)]; exact b3
    · rw [me_o (by omega)]; exact b4
    · rw [me_o (by omega)]; exact b5
    · rw [me_o (by omega)]; exact b6
    · rw [me_o (by omega)]; exact b7
    · rw [me_i hp]; exact mlI_b (ice := fun i => rs R i 5) b8
    · rw [me_o (by omega)]; exact b9
  · refine ⟨qR_R (a10 r hr).2 a0.1 (fun j hj => me_o (by omega)) (fun p hp => me_o (by omega)) ⟨fun j hj => (mc_o (by omega)).trans ((a10 r hr).1.1 j hj), (mc_o (by omega)).trans (a10 r hr).1.2⟩, qB_c (fun j hj => me_o (by omega)) (by omega) (a10 r hr).2⟩
end UN
/-- what melt writes, below j -/
def mlM (M : xM) (ice : Nat → Int32) (s j : Nat) : xM := (fun x k => if k = 6 ∧ 33 ≤ x ∧ x < 33 + j ∧ icT ice (x - 33) then mlI ice s (x - 33) else gI M x k, M.2.1, M.2.2)
theorem mlM_g {M : xM} {ice : Nat → Int32} {s j x k : Nat} : gI (mlM M ice s j) x k = if k = 6 ∧ 33 ≤ x ∧ x < 33 + j ∧ icT ice (x - 33) then mlI ice s (x - 33) else gI M x k := rfl
theorem mlM_o {M : xM} {ice : Nat → Int32} {s j x k : Nat} (h : ¬ (k = 6 ∧ 33 ≤ x ∧ x < 33 + j ∧ icT ice (x - 33))) : gI (mlM M ice s j) x k = gI M x k := by rw [mlM_g, if_neg h]
theorem kFr_ml {M : xM} {ice : Nat → Int32} {s np : Nat} (hn : np ≤ 10) : kFr M (mlM M ice s np) := ⟨fun x k q => mlM_o (by omega), fun _ _ _ => rfl, fun _ _ _ => rfl⟩
theorem mlM_0 {M : xM} {ice : Nat → Int32} {s : Nat} : M = mlM M ice s 0 := xM_ext (fun x k => by rw [mlM_g, if_neg (by omega)]) (fun _ _ => rfl) (fun _ _ => rfl)
theorem mlM_y {M : xM} {ice : Nat → Int32} {s j : Nat} {V : Int32} (h : icT ice j) (hV : V = mlI ice s j) : sI (mlM M ice s j) (33 + j) 6 V = mlM M ice s (j + 1) := by
  refine xM_ext (fun x k => ?_) (fun _ _ => rfl) (fun _ _ => rfl)
  rw [gIsI, mlM_g, mlM_g]
  by_cases c : x = 33 + j ∧ k = 6
  · have e : x - 33 = j := by omega
    rw [if_pos c, if_pos ⟨c.2, by omega, by omega, by rw [e]; exact h⟩, e, hV]
  · rw [if_neg c]
    by_cases c2 : k = 6 ∧ 33 ≤ x ∧ x < 33 + j ∧ icT ice (x - 33)
    · rw [if_pos c2, if_pos ⟨c2.1, c2.2.1, by omega, c2.2.2.2⟩]
    · rw [if_neg c2, if_neg (fun q => c2 ⟨q.1, q.2.1, by omega, q.2.2.2⟩)]
theorem mlM_n {M : xM} {ice : Nat → Int32} {s j : Nat} (h : ¬ icT ice j) : mlM M ice s j = mlM M ice s (j + 1) := by
  refine xM_ext (fun x k => ?_) (fun _ _ => rfl) (fun _ _ => rfl)
  rw [mlM_g, mlM_g]
  by_cases c2 : k = 6 ∧ 33 ≤ x ∧ x < 33 + j ∧ icT ice (x - 33)
  · rw [if_pos c2, if_pos ⟨c2.1, c2.2.1, by omega, c2.2.2.2⟩]
  · rw [if_neg c2, if_neg (fun q => by
      by_cases e : x = 33 + j
      · exact h (by have := q.2.2.2; rwa [e, show 33 + j - 33 = j by omega] at this)
      · exact c2 ⟨q.1, q.2.1, by omega, q.2.2.2⟩)]
set_option maxRecDepth 4000 in
theorem e_melt {κ : xKK} {d : Nat} {M : xM} {np S s : Nat} {ice : Nat → Int32} (hn : gI M 28 1 = nI np) (hn2 : np ≤ 10) (hi : ∀ i, i < np → gI M (6 + i) 6 = ice i) (hS : S = icS ice np) : xE2 κ mX1_melt d [.ref 28, .ref 1, .int (nI S), .int (nI s)] M (fun v M' => v = none ∧ M' = mlM M ice s np) := by
  refine xE2_of ci_X1_melt cl_X1_melt cw_X1_melt rfl (L := [some (.ref 28), some (.ref 1), some (.int (nI S)), some (.int (nI s)), none, none]) rfl ?_
  refine xG_run 4 rfl (by repeat' (first | exact trivial | assumption | exact xob_b rfl | exact xal_b rfl | (apply And.intro) | decide)) ?_
  try dsimp only [xsto1, xsto2, xkill, xget, xset, gd_0, gd_s]
  have e0 : M = mlM M ice s 0 := mlM_0
  show xG κ mX1_melt _ (6, [some (.ref 28), some (.ref 1), some (.int (nI S)), some (.int (nI s)), some (.int (nI (icN ice 0))), some (.int (nI 0))], [], M, z2) _
  conv => arg 4; rw [e0]
  refine xG_up (fun j => (6, [some (.ref 28), some (.ref 1), some (.int (nI S)), some (.int (nI s)), some (.int (nI (icN ice j))), some (.int (nI j))], [], mlM M ice s j, z2)) np ?_ ?_ 0 (Nat.zero_le _)
  · intro j hj ih
    have hj1 : (nI j).toNatClampNeg = j := nI_cl (by omega)
    have hxa : xob (33 + (nI j).toNatClampNeg) 3 182 := by rw [hj1]; exact xob_p28 (by omega)
    have hxb : xob (6 + (nI j).toNatClampNeg) 3 182 := by rw [hj1]; exact xob_p1 (by omega)
    have hqa : xqr 29 182 (nI j) := xqr_n rfl 10 rfl (by omega) (by omega)
    have hqb : xqr 2 182 (nI j) := xqr_n rfl 10 rfl (by omega) (by omega)
    have hnJ : gI (mlM M ice s j) 28 1 = nI np := (mlM_o (by omega)).trans hn
    have hsj : gI (mlM M ice s j) (6 + (nI j).toNatClampNeg) 6 = ice j := by rw [hj1]; exact (mlM_o (by omega)).trans (hi j hj)
    have hbit := icy_bit (ice := ice) hn2 hj
    have hb2 := xbd_nI (S := s) (i := icN ice j) (by have := icN_le (ice := ice) j; omega)
    subst hS
    refine xG_run 3 rfl (by repeat' (first | exact trivial | assumption | exact xob_b rfl | exact xal_b rfl | (apply And.intro) | decide)) ?_
    try dsimp only [xsto1, xsto2, xkill, xget, xset, gd_0, gd_s]
    refine xG_brF rfl (by rw [hnJ]; exact nI_ge hj (by omega)) ?_
    refine xG_run 6 rfl (by repeat' (first | exact trivial | assumption | exact xob_b rfl | exact xal_b rfl | (apply And.intro) | decide)) ?_
    try dsimp only [xsto1, xsto2, xkill, xget, xset, gd_0, gd_s]
    refine xG_br rfl (fun h22 => ?_) (fun h22 => ?_)
    · refine xG_run 2 rfl (by repeat' (first | exact trivial | assumption | exact xob_b rfl | exact xal_b rfl | (apply And.intro) | decide)) ?_
      try dsimp only [xsto1, xsto2, xkill, xget, xset, gd_0, gd_s]
      rw [nI_1]
      first
        | (have c : icT ice j := hbit.mp (Decidable.not_not.mp h22)
           have hml : mlI ice s j = 0 := by
             unfold mlI
             exact if_pos ⟨c, hb2.mp (Decidable.not_not.mp h39)⟩
           rw [nI_1]
           (try rw [hsj])
           rw [hj1, mlM_y c hml.symm]
           rw [show icN ice j + 1 = icN ice (j + 1) from (if_pos c).symm]
           exact ih)
        | (have c : icT ice j := hbit.mp (Decidable.not_not.mp h22)
           have hml : mlI ice s j = ice j := by
             unfold mlI
             exact if_neg (fun q => h39 (hb2.mpr q.2))
           rw [nI_1]
           (try rw [hsj])
           rw [hj1, mlM_y c hml.symm]
           rw [show icN ice j + 1 = icN ice (j + 1) from (if_pos c).symm]
           exact ih)
        | (have c : ¬ icT ice j := fun q => h22 (hbit.mpr q)
           rw [mlM_n c, show icN ice j = icN ice (j + 1) from (if_neg c).symm]
           exact ih)
    · refine xG_run 8 rfl (by repeat' (first | exact trivial | assumption | exact xob_b rfl | exact xal_b rfl | (apply And.intro) | decide)) ?_
      try dsimp only [xsto1, xsto2, xkill, xget, xset, gd_0, gd_s]
      refine xG_run 2 rfl (by repeat' (first | exact trivial | assumption | exact xob_b rfl | exact xal_b rfl | (apply And.intro) | decide)) ?_
      try dsimp only [xsto1, xsto2, xkill, xget, xset, gd_0, gd_s]
      refine xG_br rfl (fun h39 => ?_) (fun h39 => ?_)
      · refine xG_run 8 rfl (by repeat' (first | exact trivial | assumption | exact xob_b rfl | exact xal_b rfl | (apply And.intro) | decide)) ?_
        try dsimp only [xsto1, xsto2, xkill, xget, xset, gd_0, gd_s]
        refine xG_run 1 rfl (by repeat' (first | exact trivial | assumption | exact xob_b rfl | exact xal_b rfl | (apply And.intro) | decide)) ?_
        try dsimp only [xsto1, xsto2, xkill, xget, xset, gd_0, gd_s]
        rw [nI_1]
        first
          | (have c : icT ice j := hbit.mp (Decidable.not_not.mp h22)
             have hml : mlI ice s j = 0 := by
               unfold mlI
               exact if_pos ⟨c, hb2.mp (Decidable.not_not.mp h39)⟩
             rw [nI_1]
             (try rw [hsj])
             rw [hj1, mlM_y c hml.symm]
             rw [show icN ice j + 1 = icN ice (j + 1) from (if_pos c).symm]
             exact ih)
          | (have c : icT ice j := hbit.mp (Decidable.not_not.mp h22)
             have hml : mlI ice s j = ice j := by
               unfold mlI
               exact if_neg (fun q => h39 (hb2.mpr q.2))
             rw [nI_1]
             (try rw [hsj])
             rw [hj1, mlM_y c hml.symm]
             rw [show icN ice j + 1 = icN ice (j + 1) from (if_pos c).symm]
             exact ih)
          | (have c : ¬ icT ice j := fun q => h22 (hbit.mpr q)
             rw [mlM_n c, show icN ice j = icN ice (j + 1) from (if_neg c).symm]
             exact ih)
      · refine xG_run 6 rfl (by repeat' (first | exact trivial | assumption | exact xob_b rfl | exact xal_b rfl | (apply And.intro) | decide)) ?_
        try dsimp only [xsto1, xsto2, xkill, xget, xset, gd_0, gd_s]
        rw [nI_1]
        first
          | (have c : icT ice j := hbit.mp (Decidable.not_not.mp h22)
             have hml : mlI ice s j = 0 := by
               unfold mlI
               exact if_pos ⟨c, hb2.mp (Decidable.not_not.mp h39)⟩
             rw [nI_1]
             (try rw [hsj])
             rw [hj1, mlM_y c hml.symm]
             rw [show icN ice j + 1 = icN ice (j + 1) from (if_pos c).symm]
             exact ih)
          | (have c : icT ice j := hbit.mp (Decidable.not_not.mp h22)
             have hml : mlI ice s j = ice j := by
               unfold mlI
               exact if_neg (fun q => h39 (hb2.mpr q.2))
             rw [nI_1]
             (try rw [hsj])
             rw [hj1, mlM_y c hml.symm]
             rw [show icN ice j + 1 = icN ice (j + 1) from (if_pos c).symm]
             exact ih)
          | (have c : ¬ icT ice j := fun q => h22 (hbit.mpr q)
             rw [mlM_n c, show icN ice j = icN ice (j + 1) from (if_neg c).symm]
             exact ih)
  · refine xG_run 3 rfl (by repeat' (first | exact trivial | assumption | exact xob_b rfl | exact xal_b rfl | (apply And.intro) | decide)) ?_
    try dsimp only [xsto1, xsto2, xkill, xget, xset, gd_0, gd_s]
    refine xG_brT rfl (by rw [show gI (mlM M ice s np) 28 1 = nI np from (mlM_o (by omega)).trans hn]; exact Int32.le_refl _) ?_
    refine r2_v rfl rfl ?_
    exact ⟨rfl, rfl⟩
set_option maxRecDepth 4000 in
theorem e_x_uneven {κ : xKK} {d : Nat} {M : xM} {np nr ng : Nat} {R : xM} (hm : mR M 1 R 167 np nr ng) (hj0 : gJ R 166 18 = 0) (hd : 6 ≤ d) : xE2 κ mX11_uneven d [.ref 0] M (fun v M' => v = some (.int (unV R np nr)) ∧ kFr M M') := by
  refine xE2_of ci_X11_uneven cl_X11_uneven cw_X11_uneven rfl (L := [some (.ref 0), none, none, none, none, none, none]) rfl ?_
  have hn := hm.2.1.1
  have hn2 := hm.1.1
  have hr := hm.2.2.1.1
  have hr2 := hm.1.2.1
  have hsh : ∀ i, i < np → 0 ≤ (cSh M 1 (6 + i)).toInt ∧ (cSh M 1 (6 + i)).toInt < 5 := fun i hi => r_sh hm hi
  have hL : stN (cAll M 1 np nr) 300 = rSt R np nr := q_St hm hj0 (by omega)
  have hm2 : mR (tkM M 28 1) 28 R 167 np nr ng := mR_tk (by omega) hm
  have hn1 : gI (tkM M 28 1) 1 1 = nI np := (tk_out (by omega) (by omega)).trans hn
  have hic : cIc (tkM M 28 1) np = nI (icS (fun i => rs R i 5) np) := cIc_eq (fun i hi => (tk_out (by omega) (by omega)).trans ((r_p hm hi).1 5 (by omega))) np (Nat.le_refl _) hn2
  have hl := icS_lt (ice := (fun i => rs R i 5)) np
  have hp9 := p2_le (n := np) hn2
  have hbc : bC (nI (icS (fun i => rs R i 5) np)) = nI (icN (fun i => rs R i 5) np) := by rw [bC_n (by omega), icS_bN np hn2]
  have hsh1 := shl_p (icN (fun i => rs R i 5) np) (by have := icN_le (ice := (fun i => rs R i 5)) np; omega)
  refine xG_run 4 rfl (by repeat' (first | exact trivial | assumption | exact xob_b rfl | exact xal_b rfl | (apply And.intro) | decide)) ?_
  try dsimp only [xsto1, xsto2, xkill, xget, xset, gd_0, gd_s]
  try rw [hsh1]
  refine xG_c2 1 rfl (by repeat' (first | exact trivial | assumption | exact xob_b rfl | exact xal_b rfl | (apply And.intro) | decide)) rfl rfl (by decide) cw_X1_takeFrom (d' := d - 1) (e_take28_1 (by omega)) (by omega) ?_
  rintro v M9 ⟨rfl, hM9⟩
  subst M9
  dsimp only [Option.toList, List.cons_append, List.nil_append]
  refine xG_run 2 rfl (by repeat' (first | exact trivial | assumption | exact xob_b rfl | exact xal_b rfl | (apply And.intro) | decide)) ?_
  try dsimp only [xsto1, xsto2, xkill, xget, xset, gd_0, gd_s]
  try rw [hsh1]
  refine xG_c2 0 rfl (by repeat' (first | exact trivial | assumption | exact xob_b rfl | exact xal_b rfl | (apply And.intro) | decide)) rfl rfl (by decide) cw_X1_icySet (d' := d - 1) (e_icySet hn1 hn2 (by omega)) (by omega) ?_
  rintro v M' ⟨rfl, hM⟩
  subst M'
  dsimp only [Option.toList, List.cons_append, List.nil_append]
  rw [hic]
  refine xG_run 7 rfl (by repeat' (first | exact trivial | assumption | exact xob_b rfl | exact xal_b rfl | (apply And.intro) | decide)) ?_
  try dsimp only [xsto1, xsto2, xkill, xget, xset, gd_0, gd_s]
  try rw [hsh1]
  refine xG_c2 3 rfl (by repeat' (first | exact trivial | assumption | exact xob_b rfl | exact xal_b rfl | (apply And.intro) | decide)) rfl rfl (by decide) cw_X0_load (d' := d - 1) (e_load28 (np := np) (nr := nr) hm2.2.1.1 hn2 hm2.2.2.1.1 hr2 (fun i hi => r_sh hm2 hi) (by omega)) (by omega) ?_
  rintro v M4 ⟨pl, rl, c, e, rfl, hg, -, -, hs, ht, hB4, hp4, hB5⟩
  have hBL := BL_ld hn2 hr2 hg hs ht hB4 hB5
  dsimp only [Option.toList, List.cons_append, List.nil_append]
  refine xG_run 2 rfl (by repeat' (first | exact trivial | assumption | exact xob_b rfl | exact xal_b rfl | (apply And.intro) | decide)) ?_
  try dsimp only [xsto1, xsto2, xkill, xget, xset, gd_0, gd_s]
  try rw [hsh1]
  refine xG_c2 1 rfl (by repeat' (first | exact trivial | assumption | exact xob_b rfl | exact xal_b rfl | (apply And.intro) | decide)) rfl rfl (by decide) cw_J6_bitCount_0f7a4 (d' := d - 1) e_bitCount (by omega) ?_
  rintro v M' ⟨rfl, hM⟩
  subst M'
  dsimp only [Option.toList, List.cons_append, List.nil_append]
  rw [hbc]
  refine xG_run 8 rfl (by repeat' (first | exact trivial | assumption | exact xob_b rfl | exact xal_b rfl | (apply And.intro) | decide)) ?_
  try dsimp only [xsto1, xsto2, xkill, xget, xset, gd_0, gd_s]
  try rw [hsh1]
  have hm4 : mR M4 28 R 167 np nr ng := mR_C hm2 (fun k hk => hB4.1 _ _ (by omega)) (fun k => hB4.1 _ _ (by omega)) (fun k => hB4.1 _ _ (by omega)) (fun p k hp => hB4.1 _ _ (by omega)) (fun r k hr => hB4.1 _ _ (by omega))
  have hkF4 : kFr M M4 := kFr_t kFr_tk (kFr_b hB4)
  have h9 := icN_le (ice := (fun i => rs R i 5)) np
  have hpw := p2_le (n := icN (fun i => rs R i 5) np) (by omega)
  have lp := xG_upP (κ := κ) (m := mX11_uneven) (r := (d, 0, 0)) (YS := xRet mX11_uneven false (fun v M' n' => n' = 182 ∧ (v = some (.int (unV R np nr)) ∧ kFr M M'))) (fun s X => ∃ (M2 : xM) (x6 : Option Value), X = (47, [some (.ref 0), some (.int (nI (icS (fun i => rs R i 5) np))), some (.int (nI (2 ^ icN (fun i => rs R i 5) np))), some (.int (uwS (fun s => rSt (meR R np s) np nr) s).1), some (.int (uwS (fun s => rSt (meR R np s) np nr) s).2), some (.int (nI s)), x6], [], M2, z2) ∧ (∀ x k, ¬ (k = 6 ∧ 33 ≤ x ∧ x < 33 + np ∧ icT (fun i => rs R i 5) (x - 33)) → gI M2 x k = gI M4 x k) ∧ (∀ t, gJ M2 124 t = gJ M4 124 t) ∧ (∀ a k, gP M2 a k = gP M4 a k) ∧ kFr M M2) (2 ^ icN (fun i => rs R i 5) np) ?_ ?_ 0 (Nat.zero_le _)
  · exact lp _ ⟨M4, none, rfl, fun _ _ _ => rfl, fun _ => rfl, fun _ _ => rfl, hkF4⟩
  · rintro s X hs9 ⟨M2, x6, rfl, hI, hJ, hPp, hkF⟩ ih
    have hn28 : gI M2 28 1 = nI np := (hI _ _ (by omega)).trans hm4.2.1.1
    have hice : ∀ i, i < np → gI M2 (6 + i) 6 = rs R i 5 := fun i hi => (hkF.1 _ _ (by omega)).trans ((r_p hm hi).1 5 (by omega))
    have hm3 : mR (mlM M2 (fun i => rs R i 5) s np) 28 (meR R np s) 167 np nr ng := by
      have h0 := mR_me (s := s) hm4 (by omega)
      refine mR_C h0 (fun k hk => ?_) (fun k => ?_) (fun k => ?_) (fun p k hp => ?_) (fun r k hr => ?_)
      · rw [mlM_o (by omega), mc_o (by omega)]; exact hI _ _ (by omega)
      · rw [mlM_o (by omega), mc_o (by omega)]; exact hI _ _ (by omega)
      · rw [mlM_o (by omega), mc_o (by omega)]; exact hI _ _ (by omega)
      · rw [mlM_g, mc_g]
        by_cases c6 : k = 6
        · by_cases cy : icT (fun i => rs R i 5) p
          · rw [if_pos (show _ ∧ _ ∧ _ ∧ _ from ⟨c6, by omega, by omega, by rw [show 28 + 5 + p - 33 = p by omega]; exact cy⟩), if_pos (by omega), show 28 + 5 + p - 33 = 28 + 5 + p - (28 + 5) by omega]
          · rw [if_neg (fun q => cy (by have := q.2.2.2; rwa [show 28 + 5 + p - 33 = p by omega] at this)), if_pos (by omega), show 28 + 5 + p - (28 + 5) = p by omega, hI _ _ (fun q => cy (by have := q.2.2.2; rwa [show 28 + 5 + p - 33 = p by omega] at this)), c6]
            unfold mlI
            rw [if_neg (fun q => cy q.1)]
            exact (r_p hm4 hp).1 5 (by omega)
        · rw [if_neg (fun q => c6 q.1), if_neg (fun q => c6 q.1)]; exact hI _ _ (fun q => c6 q.1)
      · rw [mlM_o (by omega), mc_o (by omega)]; exact hI _ _ (by omega)
    have hBs : ∀ J, BL (sJ (mlM M2 (fun i => rs R i 5) s np) 123 5 J) (nI (icS (fun i => rs R i 5) np)) 0 np nr := fun J => BL_u hBL hn2 hr2 (fun i k hi hx => by
        have hx9 : ¬ icT (fun i => rs R i 5) i := fun q => by
          have := (icy_bit (ice := (fun i => rs R i 5)) hn2 hi).mpr q
          unfold xbd at hx
          exact absurd this (of_decide_eq_false hx)
        show gI (mlM M2 (fun i => rs R i 5) s np) (33 + i) k = _
        rw [mlM_o (fun q => hx9 (by have := q.2.2.2; rwa [show 33 + i - 33 = i by omega] at this))]
        exact hI _ _ (fun q => hx9 (by have := q.2.2.2; rwa [show 33 + i - 33 = i by omega] at this))) (fun i k hi _ => by
        show gI (mlM M2 (fun i => rs R i 5) s np) (43 + i) k = _
        rw [mlM_o (by omega)]; exact hI _ _ (by omega)) (by show gI (mlM M2 (fun i => rs R i 5) s np) 28 4 = _; rw [mlM_o (by omega)]; exact hI _ _ (by omega))
        ⟨by show gI (mlM M2 (fun i => rs R i 5) s np) 123 2 = _; rw [mlM_o (by omega)]; exact hI _ _ (by omega), by show gI (mlM M2 (fun i => rs R i 5) s np) 123 4 = _; rw [mlM_o (by omega)]; exact hI _ _ (by omega)⟩ (fun t => (gJ_ne (Or.inl (by decide))).trans (hJ t)) (fun k => ⟨hPp 125 k, hPp 126 k⟩)
    have hm5 : mR (sJ (mlM M2 (fun i => rs R i 5) s np) 123 5 (cPs (mlM M2 (fun i => rs R i 5) s np) np)) 28 (meR R np s) 167 np nr ng := mR_C hm3 (fun _ _ => rfl) (fun _ => rfl) (fun _ => rfl) (fun _ _ _ => rfl) (fun _ _ _ => rfl)
    have hp5 : gJ (sJ (mlM M2 (fun i => rs R i 5) s np) 123 5 (cPs (mlM M2 (fun i => rs R i 5) s np) np)) 123 5 = cPs (sJ (mlM M2 (fun i => rs R i 5) s np) 123 5 (cPs (mlM M2 (fun i => rs R i 5) s np) np)) np - 0 := by
      rw [gJ_self, Int64.sub_zero]
      rfl
    have eS : stN (fun l => cAll (sJ (mlM M2 (fun i => rs R i 5) s np) 123 5 (cPs (mlM M2 (fun i => rs R i 5) s np) np)) 28 np nr l - 0) 300 = rSt (meR R np s) np nr := stN_x hm5 hj0 (by omega)
    refine xG_run 2 rfl (by repeat' (first | exact trivial | assumption | exact xob_b rfl | exact xal_b rfl | (apply And.intro) | decide)) ?_
    try dsimp only [xsto1, xsto2, xkill, xget, xset, gd_0, gd_s]
    refine xG_brF rfl (nI_ge hs9 (by omega)) ?_
    refine xG_run 6 rfl (by repeat' (first | exact trivial | assumption | exact xob_b rfl | exact xal_b rfl | (apply And.intro) | decide)) ?_
    try dsimp only [xsto1, xsto2, xkill, xget, xset, gd_0, gd_s]
    refine xG_c2 3 rfl (by repeat' (first | exact trivial | assumption | exact xob_b rfl | exact xal_b rfl | (apply And.intro) | decide)) rfl rfl (by decide) cw_X1_melt (d' := d - 1) (e_melt (ice := (fun i => rs R i 5)) (s := s) hn28 hn2 hice rfl) (by omega) ?_
    rintro v M' ⟨rfl, hM⟩
    subst M'
    dsimp only [Option.toList, List.cons_append, List.nil_append]
    refine xG_run 4 rfl (by repeat' (first | exact trivial | assumption | exact xob_b rfl | exact xal_b rfl | (apply And.intro) | decide)) ?_
    try dsimp only [xsto1, xsto2, xkill, xget, xset, gd_0, gd_s]
    refine xG_c2 0 rfl (by repeat' (first | exact trivial | assumption | exact xob_b rfl | exact xal_b rfl | (apply And.intro) | decide)) rfl rfl (by decide) cw_X1_pushMoment (d' := d - 1) (e_pushMoment28 hm3.2.1.1 hn2 (fun i hi => r_sh hm3 hi) (by omega)) (by omega) ?_
    rintro v M' ⟨rfl, hM⟩
    subst M'
    dsimp only [Option.toList, List.cons_append, List.nil_append]
    rw [show (lSum (fun i => cPu (mlM M2 (fun i => rs R i 5) s np) 28 (33 + i) * (gI (mlM M2 (fun i => rs R i 5) s np) (33 + i) 2).toInt64) np) = cPs (mlM M2 (fun i => rs R i 5) s np) np from rfl]
    refine xG_run 4 rfl (by repeat' (first | exact trivial | assumption | exact xob_b rfl | exact xal_b rfl | (apply And.intro) | decide)) ?_
    try dsimp only [xsto1, xsto2, xkill, xget, xset, gd_0, gd_s]
    refine xG_c2 1 rfl (by repeat' (first | exact trivial | assumption | exact xob_b rfl | exact xal_b rfl | (apply And.intro) | decide)) rfl rfl (by decide) cw_X0_lean (d' := d - 1) (e_leanB (mo := 300) (x := 0) (hBs _) hn2 hr2 hp5 (by omega) (by omega)) (by omega) ?_
    rintro v M' ⟨rfl, hM⟩
    subst M'
    dsimp only [Option.toList, List.cons_append, List.nil_append]
    rw [eS]
    refine xG_run 4 rfl (by repeat' (first | exact trivial | assumption | exact xob_b rfl | exact xal_b rfl | (apply And.intro) | decide)) ?_
    try dsimp only [xsto1, xsto2, xkill, xget, xset, gd_0, gd_s]
    refine xG_br rfl (fun h99 => ?_) (fun h99 => ?_)
    · refine xG_run 2 rfl (by repeat' (first | exact trivial | assumption | exact xob_b rfl | exact xal_b rfl | (apply And.intro) | decide)) ?_
      try dsimp only [xsto1, xsto2, xkill, xget, xset, gd_0, gd_s]
      rw [nI_1]
      refine ih _ ⟨sJ (mlM M2 (fun i => rs R i 5) s np) 123 5 (cPs (mlM M2 (fun i => rs R i 5) s np) np), some (.int (ab (rSt (meR R np s) np nr))), ?_, ?_, ?_, ?_, ?_⟩
      · first
          | (rw [show uwS (fun s => rSt (meR R np s) np nr) (s + 1) = (ab (rSt (meR R np s) np nr), nI s) from if_pos (Int32.not_le.mp h99)]; rfl)
          | (rw [show uwS (fun s => rSt (meR R np s) np nr) (s + 1) = uwS (fun s => rSt (meR R np s) np nr) s from if_neg (i_nlt h99)]; rfl)
      · exact fun x k q => (mlM_o q).trans (hI x k q)
      · exact fun t => (gJ_ne (Or.inl (by decide))).trans (hJ t)
      · exact fun a k => hPp a k
      · exact kFr_t hkF (kFr_t (kFr_ml hn2) (kFr_j (by decide)))
    · refine xG_run 6 rfl (by repeat' (first | exact trivial | assumption | exact xob_b rfl | exact xal_b rfl | (apply And.intro) | decide)) ?_
      try dsimp only [xsto1, xsto2, xkill, xget, xset, gd_0, gd_s]
      rw [nI_1]
      refine ih _ ⟨sJ (mlM M2 (fun i => rs R i 5) s np) 123 5 (cPs (mlM M2 (fun i => rs R i 5) s np) np), some (.int (ab (rSt (meR R np s) np nr))), ?_, ?_, ?_, ?_, ?_⟩
      · first
          | (rw [show uwS (fun s => rSt (meR R np s) np nr) (s + 1) = (ab (rSt (meR R np s) np nr), nI s) from if_pos (Int32.not_le.mp h99)]; rfl)
          | (rw [show uwS (fun s => rSt (meR R np s) np nr) (s + 1) = uwS (fun s => rSt (meR R np s) np nr) s from if_neg (i_nlt h99)]; rfl)
      · exact fun x k q => (mlM_o q).trans (hI x k q)
      · exact fun t => (gJ_ne (Or.inl (by decide))).trans (hJ t)
      · exact fun a k => hPp a k
      · exact kFr_t hkF (kFr_t (kFr_ml hn2) (kFr_j (by decide)))
  · rintro X ⟨M2, x6, rfl, hI, hJ, hPp, hkF⟩
    refine xG_run 2 rfl (by repeat' (first | exact trivial | assumption | exact xob_b rfl | exact xal_b rfl | (apply And.intro) | decide)) ?_
    try dsimp only [xsto1, xsto2, xkill, xget, xset, gd_0, gd_s]
    refine xG_brT rfl (Int32.le_refl _) ?_
    refine xG_run 1 rfl (by repeat' (first | exact trivial | assumption | exact xob_b rfl | exact xal_b rfl | (apply And.intro) | decide)) ?_
    try dsimp only [xsto1, xsto2, xkill, xget, xset, gd_0, gd_s]
    refine r2_i rfl rfl ?_
    exact ⟨rfl, hkF⟩
