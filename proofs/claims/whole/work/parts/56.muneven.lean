/-! ===== uneven, the reference ===== -/
section IN
variable {ice : Nat → Int32}
theorem icN_m {p : Nat} : ∀ {n : Nat}, p ≤ n → icN ice p ≤ icN ice n
  | 0, h => by
    have : p = 0 := by omega
    subst this
    exact Nat.le_refl _
  | n + 1, h => by
    by_cases e : p = n + 1
    · subst e; exact Nat.le_refl _
    · have ih := icN_m (p := p) (n := n) (by omega)
      rw [icN]
      split <;> omega
theorem icN_t {i : Nat} (h : icT ice i) : icN ice (i + 1) = icN ice i + 1 := if_pos h
theorem icN_inj {i j : Nat} (hi : icT ice i) (hj : icT ice j) (e : icN ice i = icN ice j) : i = j := by
  have a := icN_t hi
  have b := icN_t hj
  rcases Nat.lt_trichotomy i j with h | h | h
  · have := icN_m (ice := ice) (p := i + 1) (n := j) h; omega
  · exact h
  · have := icN_m (ice := ice) (p := j + 1) (n := i) h; omega
theorem icN_inv : ∀ {n k : Nat}, k < icN ice n → ∃ i, i < n ∧ icT ice i ∧ icN ice i = k
  | 0, _, h => absurd h (Nat.not_lt_zero _)
  | n + 1, k, h => by
    rw [icN] at h
    by_cases c : icT ice n
    · rw [if_pos c] at h
      by_cases e : k = icN ice n
      · exact ⟨n, Nat.lt_succ_self n, c, e.symm⟩
      · obtain ⟨i, h1, h2⟩ := icN_inv (n := n) (k := k) (by omega)
        exact ⟨i, by omega, h2⟩
    · rw [if_neg c] at h
      obtain ⟨i, h1, h2⟩ := icN_inv (n := n) (k := k) h
      exact ⟨i, by omega, h2⟩
theorem icN_lt {i n : Nat} (h : icT ice i) (hi : i < n) : icN ice i < icN ice n := by
  have a := icN_t h
  have b := icN_m (ice := ice) (p := i + 1) (n := n) hi
  omega
end IN
theorem rSt_c {M M' : xM} {np nr : Nat} (h : ∀ k, gI M' 167 k = gI M 167 k) (hj : gJ M' 166 18 = gJ M 166 18) : rSt M' np nr = rSt M np nr := by
  unfold rSt
  rw [show rAll M' np nr = rAll M np nr from funext (fun l => rAll_c h hj)]
set_option maxRecDepth 4000 in
theorem e_amount {κ : xKK} {d : Nat} {M : xM} {x : Int32} : xE2 κ mX12_amount d [.int x] M (fun v M' => v = some (.int (ab x)) ∧ M' = M) := by
  refine xE2_of ci_X12_amount cl_X12_amount cw_X12_amount rfl (L := [some (.int x)]) rfl ?_
  refine xG_run 1 rfl (by repeat' (first | exact trivial | assumption | exact xob_b rfl | exact xal_b rfl | (apply And.intro) | decide)) ?_
  try dsimp only [xsto1, xsto2, xkill, xget, xset, gd_0, gd_s]
  refine xG_br rfl (fun h1 => ?_) (fun h1 => ?_)
  · refine xG_run 1 rfl (by repeat' (first | exact trivial | assumption | exact xob_b rfl | exact xal_b rfl | (apply And.intro) | decide)) ?_
    try dsimp only [xsto1, xsto2, xkill, xget, xset, gd_0, gd_s]
    refine r2_i rfl rfl ?_
    refine ⟨?_, rfl⟩
    unfold ab
    first
      | (rw [if_pos h1]; done)
      | (rw [if_neg h1, Int32.zero_sub]; done)
  · refine xG_run 3 rfl (by repeat' (first | exact trivial | assumption | exact xob_b rfl | exact xal_b rfl | (apply And.intro) | decide)) ?_
    try dsimp only [xsto1, xsto2, xkill, xget, xset, gd_0, gd_s]
    refine r2_i rfl rfl ?_
    refine ⟨?_, rfl⟩
    unfold ab
    first
      | (rw [if_pos h1]; done)
      | (rw [if_neg h1, Int32.zero_sub]; done)
/-- a memory in the midst of uneven: the icy numbers may differ -/
def unI (M : xM) (np : Nat) (ice : Nat → Int32) (M2 : xM) : Prop := (∀ y, ¬ (y % 7 = 5 ∧ y / 7 < np ∧ icT ice (y / 7)) → gI M2 167 y = gI M 167 y) ∧ (∀ x k, x ≠ 167 → x ≠ 178 → x ≠ 179 → gI M2 x k = gI M x k) ∧ (∀ x k, gJ M2 x k = gJ M x k) ∧ (∀ x k, gP M2 x k = gP M x k)
def unK (np : Nat) (ice : Nat → Int32) (M2 : xM) : Prop := ∀ i, i < np → icT ice i → gI M2 178 (icN ice i) = nI i ∧ gI M2 179 (icN ice i) = ice i
theorem unI_r {M : xM} {np : Nat} {ice : Nat → Int32} : unI M np ice M := ⟨fun _ _ => rfl, fun _ _ _ _ _ => rfl, fun _ _ => rfl, fun _ _ => rfl⟩
theorem unI_a {M M2 : xM} {np a k : Nat} {ice : Nat → Int32} {v : Int32} (h : unI M np ice M2) (ha : a = 178 ∨ a = 179) : unI M np ice (sI M2 a k v) := ⟨fun y q => (gI_ne (Or.inl (by omega))).trans (h.1 y q), fun x y q1 q2 q3 => (gI_ne (Or.inl (by omega))).trans (h.2.1 x y q1 q2 q3), h.2.2.1, h.2.2.2⟩
theorem unI_s {M M2 : xM} {np i : Nat} {ice : Nat → Int32} {v : Int32} (h : unI M np ice M2) (hi : i < np) (hc : icT ice i) : unI M np ice (sI M2 167 (7 * i + 5) v) := ⟨fun y q => (gI_ne (Or.inr (fun e => q (by subst e; exact ⟨by omega, by omega, by rw [show (7 * i + 5) / 7 = i by omega]; exact hc⟩)))).trans (h.1 y q), fun x y q1 q2 q3 => (gI_ne (Or.inl q1)).trans (h.2.1 x y q1 q2 q3), h.2.2.1, h.2.2.2⟩
theorem unI_e {M M2 : xM} {np : Nat} {ice : Nat → Int32} {f : Nat → Int32} (h : unI M np ice M2) (hv : ∀ i, i < np → icT ice i → gI M2 167 (7 * i + 5) = f i) {R : xM} (h1 : ∀ y, ¬ (y % 7 = 5 ∧ y / 7 < np ∧ icT ice (y / 7)) → gI R 167 y = gI M 167 y) (h2 : ∀ i, i < np → icT ice i → gI R 167 (7 * i + 5) = f i) : ∀ y, gI M2 167 y = gI R 167 y := fun y => by
  by_cases c : y % 7 = 5 ∧ y / 7 < np ∧ icT ice (y / 7)
  · have e : y = 7 * (y / 7) + 5 := by omega
    rw [e, hv _ c.2.1 c.2.2, h2 _ c.2.1 c.2.2]
  · rw [h.1 y c, h1 y c]
theorem nz_pos {x : Int32} (h : nr3 0 20 x) (h0 : ¬ x = 0) : 0 < x := by
  rw [Int32.lt_iff_toInt_lt, Int32.toInt_zero]
  have h1 := h.1
  have : ¬ x.toInt = 0 := fun q => h0 (Int32.toInt_inj.mp (q.trans Int32.toInt_zero.symm))
  omega
set_option maxRecDepth 4000 in
theorem e_m_uneven {κ : xKK} {d : Nat} {M : xM} {np nr ng : Nat} {C : xM} (hm : mR C 1 M 167 np nr ng) (hd : 6 ≤ d) : xE2 κ mX12_uneven d [.ref 166] M (fun v M' => v = some (.int (unV M np nr)) ∧ rkF M M') := by
  refine xE2_of ci_X12_uneven cl_X12_uneven cw_X12_uneven rfl (L := [some (.ref 166), none, none, none, none, none]) rfl ?_
  have hn := hm.2.1.2
  have hn2 := hm.1.1
  have hr := hm.2.2.1.2
  have hr2 := hm.1.2.1
  have hw := rPw hm
  have hh := rQh hm
  have hs9 : xar 167 0 182 1643 := xar_n (j := 1643) rfl 1651 rfl (by omega) (by omega)
  have hcl : (1643 : Int32).toNatClampNeg = 1643 := rfl
  have hN6 := icN_le (ice := (fun i => rs M i 5)) np
  have hsh1 := shl_p (icN (fun i => rs M i 5) np) (by omega)
  have hpw := p2_le (n := icN (fun i => rs M i 5) np) (by omega)
  have k62 : ∀ (p : Nat) (M2 : xM), p ≤ np → (p = np ∨ icN (fun i => rs M i 5) p = 6) → unI M np (fun i => rs M i 5) M2 → (∀ y, gI M2 167 y = gI M 167 y) → unK p (fun i => rs M i 5) M2 → xG κ mX12_uneven (d, 0, 0) (62, [some (.ref 166), some (.int (nI (icN (fun i => rs M i 5) p))), some (.int (nI p)), none, none, none], [], M2, z2) (xRet mX12_uneven false (fun v M' n' => n' = 182 ∧ (v = some (.int (unV M np nr)) ∧ rkF M M'))) := by
    intro p M2 hp9 hp6 hI hS hK
    have hNp : icN (fun i => rs M i 5) p = icN (fun i => rs M i 5) np := by
      rcases hp6 with rfl | h6
      · rfl
      · have a := icN_m (ice := (fun i => rs M i 5)) hp9
        have b := icN_le (ice := (fun i => rs M i 5)) np
        omega
    have hK : unK np (fun i => rs M i 5) M2 := fun i hi hc => hK i (by
      rcases hp6 with rfl | h6
      · exact hi
      · have a := icN_m (ice := (fun i => rs M i 5)) (p := p) (n := i)
        have b := hc.2
        omega) hc
    rw [hNp]
    refine xG_run 6 rfl (by repeat' (first | exact trivial | assumption | exact xob_b rfl | exact xal_b rfl | (apply And.intro) | decide)) ?_
    try dsimp only [xsto1, xsto2, xkill, xget, xset, gd_0, gd_s]
    refine xG_upP (fun s X => ∃ (M2 : xM) (x5 : Option Value), X = (69, [some (.ref 166), some (.int (nI (icN (fun i => rs M i 5) np))), some (.int (uwS (fun s => rSt (meR M np s) np nr) s).2), some (.int (uwS (fun s => rSt (meR M np s) np nr) s).1), some (.int (nI s)), x5], [], M2, z2) ∧ unI M np (fun i => rs M i 5) M2 ∧ unK np (fun i => rs M i 5) M2) (2 ^ icN (fun i => rs M i 5) np) ?_ ?_ 0 (Nat.zero_le _) _ ⟨M2, none, rfl, hI, hK⟩
    · rintro s X hs9 ⟨M2, x5, rfl, hI, hK⟩ ih
      refine xG_run 4 rfl (by repeat' (first | exact trivial | assumption | exact xob_b rfl | exact xal_b rfl | (apply And.intro) | decide)) ?_
      try dsimp only [xsto1, xsto2, xkill, xget, xset, gd_0, gd_s]
      rw [hsh1]
      refine xG_brF rfl (nI_ge hs9 (by omega)) ?_
      refine xG_run 2 rfl (by repeat' (first | exact trivial | assumption | exact xob_b rfl | exact xal_b rfl | (apply And.intro) | decide)) ?_
      try dsimp only [xsto1, xsto2, xkill, xget, xset, gd_0, gd_s]
      refine xG_upP (fun k X => ∃ M3 : xM, X = (80, [some (.ref 166), some (.int (nI (icN (fun i => rs M i 5) np))), some (.int (uwS (fun s => rSt (meR M np s) np nr) s).2), some (.int (uwS (fun s => rSt (meR M np s) np nr) s).1), some (.int (nI s)), some (.int (nI k))], [], M3, z2) ∧ unI M np (fun i => rs M i 5) M3 ∧ unK np (fun i => rs M i 5) M3 ∧ ∀ j, j < np → icT (fun i => rs M i 5) j → icN (fun i => rs M i 5) j < k → gI M3 167 (7 * j + 5) = mlI (fun i => rs M i 5) s j) (icN (fun i => rs M i 5) np) ?_ ?_ 0 (Nat.zero_le _) _ ⟨M2, rfl, hI, hK, fun j hj hcj hk7 => absurd hk7 (Nat.not_lt_zero _)⟩
      · rintro k X hk ⟨M3, rfl, hI3, hK3, hV3⟩ ih2
        have hb2 := xbd_nI (S := s) (i := k) (by omega)
        obtain ⟨i, hi, hc, hk9⟩ := icN_inv (ice := (fun i => rs M i 5)) (n := np) (k := k) hk
        obtain ⟨y1, y2⟩ := hK3 i hi hc
        rw [hk9] at y1 y2
        have hk1 : (nI k).toNatClampNeg = k := nI_cl (by omega)
        have hxa : xar 178 0 182 (nI k) := xar_n rfl 6 rfl (by omega) (by omega)
        have hxb : xar 179 0 182 (nI k) := xar_n rfl 6 rfl (by omega) (by omega)
        have y1 : gI M3 178 (nI k).toNatClampNeg = nI i := by rw [hk1]; exact y1
        have y2 : gI M3 179 (nI k).toNatClampNeg = rs M i 5 := by rw [hk1]; exact y2
        have e1 : (7 : Int32) * nI i + 5 = nI (7 * i + 5) := ix7 i 5
        have e2 : ((7 : Int32) * nI i + 5).toNatClampNeg = 7 * i + 5 := by rw [e1]; exact nI_cl (by omega)
        have hxs : xar 167 0 182 ((7 : Int32) * nI i + 5) := by rw [e1]; exact xar_n rfl 1651 rfl (by omega) (by omega)
        refine xG_run 2 rfl (by repeat' (first | exact trivial | assumption | exact xob_b rfl | exact xal_b rfl | (apply And.intro) | decide)) ?_
        try dsimp only [xsto1, xsto2, xkill, xget, xset, gd_0, gd_s]
        try rw [y1]
        try rw [y2]
        try rw [e2]
        refine xG_brF rfl (nI_ge hk (by omega)) ?_
        refine xG_run 7 rfl (by repeat' (first | exact trivial | assumption | exact xob_b rfl | exact xal_b rfl | (apply And.intro) | decide)) ?_
        try dsimp only [xsto1, xsto2, xkill, xget, xset, gd_0, gd_s]
        try rw [y1]
        try rw [y2]
        try rw [e2]
        try rw [y1]
        refine xG_run 8 rfl (by repeat' (first | exact trivial | assumption | exact xob_b rfl | exact xal_b rfl | (apply And.intro) | decide)) ?_
        try dsimp only [xsto1, xsto2, xkill, xget, xset, gd_0, gd_s]
        try rw [y1]
        try rw [y2]
        try rw [e2]
        refine xG_run 1 rfl (by repeat' (first | exact trivial | assumption | exact xob_b rfl | exact xal_b rfl | (apply And.intro) | decide)) ?_
        try dsimp only [xsto1, xsto2, xkill, xget, xset, gd_0, gd_s]
        try rw [y1]
        try rw [y2]
        try rw [e2]
        refine xG_br rfl (fun h110 => ?_) (fun h110 => ?_)
        · refine xG_run 4 rfl (by repeat' (first | exact trivial | assumption | exact xob_b rfl | exact xal_b rfl | (apply And.intro) | decide)) ?_
          try dsimp only [xsto1, xsto2, xkill, xget, xset, gd_0, gd_s]
          try rw [y1]
          try rw [y2]
          try rw [e2]
          try rw [y2]
          refine xG_run 3 rfl (by repeat' (first | exact trivial | assumption | exact xob_b rfl | exact xal_b rfl | (apply And.intro) | decide)) ?_
          try dsimp only [xsto1, xsto2, xkill, xget, xset, gd_0, gd_s]
          try rw [y1]
          try rw [y2]
          try rw [e2]
          rw [nI_1]
          first
            | (have hml : mlI (fun i => rs M i 5) s i = 0 := by
                 unfold mlI
                 exact if_pos ⟨hc, by rw [hk9]; exact hb2.mp (Decidable.not_not.mp h110)⟩
               refine ih2 _ ⟨_, rfl, unI_s hI3 hi hc, fun j hj hcj => ?_, fun j hj hcj hk7 => ?_⟩
               · exact ⟨(gI_ne (Or.inl (by decide))).trans (hK3 j hj hcj).1, (gI_ne (Or.inl (by decide))).trans (hK3 j hj hcj).2⟩
               · by_cases e : j = i
                 · subst e; rw [gI_self, hml]
                 · rw [gI_ne (Or.inr (by omega))]
                   exact hV3 j hj hcj (by
                     have : ¬ icN (fun i => rs M i 5) j = k := fun q => e (icN_inj hcj hc (q.trans hk9.symm))
                     omega))
            | (have hml : mlI (fun i => rs M i 5) s i = rs M i 5 := by
                 unfold mlI
                 exact if_neg (fun q => h110 (hb2.mpr (by rw [← hk9]; exact q.2)))
               refine ih2 _ ⟨_, rfl, unI_s hI3 hi hc, fun j hj hcj => ?_, fun j hj hcj hk7 => ?_⟩
               · exact ⟨(gI_ne (Or.inl (by decide))).trans (hK3 j hj hcj).1, (gI_ne (Or.inl (by decide))).trans (hK3 j hj hcj).2⟩
               · by_cases e : j = i
                 · subst e; rw [gI_self, hml]
                 · rw [gI_ne (Or.inr (by omega))]
                   exact hV3 j hj hcj (by
                     have : ¬ icN (fun i => rs M i 5) j = k := fun q => e (icN_inj hcj hc (q.trans hk9.symm))
                     omega))
        · refine xG_run 2 rfl (by repeat' (first | exact trivial | assumption | exact xob_b rfl | exact xal_b rfl | (apply And.intro) | decide)) ?_
          try dsimp only [xsto1, xsto2, xkill, xget, xset, gd_0, gd_s]
          try rw [y1]
          try rw [y2]
          try rw [e2]
          try rw [y2]
          refine xG_run 3 rfl (by repeat' (first | exact trivial | assumption | exact xob_b rfl | exact xal_b rfl | (apply And.intro) | decide)) ?_
          try dsimp only [xsto1, xsto2, xkill, xget, xset, gd_0, gd_s]
          try rw [y1]
          try rw [y2]
          try rw [e2]
          rw [nI_1]
          first
            | (have hml : mlI (fun i => rs M i 5) s i = 0 := by
                 unfold mlI
                 exact if_pos ⟨hc, by rw [hk9]; exact hb2.mp (Decidable.not_not.mp h110)⟩
               refine ih2 _ ⟨_, rfl, unI_s hI3 hi hc, fun j hj hcj => ?_, fun j hj hcj hk7 => ?_⟩
               · exact ⟨(gI_ne (Or.inl (by decide))).trans (hK3 j hj hcj).1, (gI_ne (Or.inl (by decide))).trans (hK3 j hj hcj).2⟩
               · by_cases e : j = i
                 · subst e; rw [gI_self, hml]
                 · rw [gI_ne (Or.inr (by omega))]
                   exact hV3 j hj hcj (by
                     have : ¬ icN (fun i => rs M i 5) j = k := fun q => e (icN_inj hcj hc (q.trans hk9.symm))
                     omega))
            | (have hml : mlI (fun i => rs M i 5) s i = rs M i 5 := by
                 unfold mlI
                 exact if_neg (fun q => h110 (hb2.mpr (by rw [← hk9]; exact q.2)))
               refine ih2 _ ⟨_, rfl, unI_s hI3 hi hc, fun j hj hcj => ?_, fun j hj hcj hk7 => ?_⟩
               · exact ⟨(gI_ne (Or.inl (by decide))).trans (hK3 j hj hcj).1, (gI_ne (Or.inl (by decide))).trans (hK3 j hj hcj).2⟩
               · by_cases e : j = i
                 · subst e; rw [gI_self, hml]
                 · rw [gI_ne (Or.inr (by omega))]
                   exact hV3 j hj hcj (by
                     have : ¬ icN (fun i => rs M i 5) j = k := fun q => e (icN_inj hcj hc (q.trans hk9.symm))
                     omega))
      · rintro X ⟨M3, rfl, hI3, hK3, hV3⟩
        have hE3 : ∀ y, gI M3 167 y = gI (meR M np s) 167 y := unI_e hI3 (fun i hi hc => hV3 i hi hc (icN_lt hc hi)) (fun y q => by
          rw [me_g]
          by_cases c : y % 7 = 5 ∧ y / 7 < np
          · rw [if_pos ⟨rfl, c⟩]
            unfold mlI
            rw [if_neg (fun z => q ⟨c.1, c.2, z.1⟩)]
            show gI M 167 (7 * (y / 7) + 5) = _
            rw [show 7 * (y / 7) + 5 = y by omega]
          · rw [if_neg (fun z => c z.2)]) (fun i hi _ => me_i hi)
        have hm3 : mR (mcM C 1 np (fun i => rs M i 5) s) 1 M3 167 np nr ng := mR_R (mR_me (s := s) hm (by omega)) hE3
        refine xG_run 2 rfl (by repeat' (first | exact trivial | assumption | exact xob_b rfl | exact xal_b rfl | (apply And.intro) | decide)) ?_
        try dsimp only [xsto1, xsto2, xkill, xget, xset, gd_0, gd_s]
        refine xG_brT rfl (Int32.le_refl _) ?_
        refine xG_run 1 rfl (by repeat' (first | exact trivial | assumption | exact xob_b rfl | exact xal_b rfl | (apply And.intro) | decide)) ?_
        try dsimp only [xsto1, xsto2, xkill, xget, xset, gd_0, gd_s]
        refine xG_c2 0 rfl (by repeat' (first | exact trivial | assumption | exact xob_b rfl | exact xal_b rfl | (apply And.intro) | decide)) rfl rfl (by decide) cw_X12_standing (d' := d - 1) (e_rstanding hm3.2.1.2 hm3.1.1 hm3.2.2.1.2 hm3.1.2.1 (rPw hm3) (rQh hm3) (by omega)) (by omega) ?_
        rintro v M' ⟨rfl, hM⟩
        subst M'
        dsimp only [Option.toList, List.cons_append, List.nil_append]
        rw [show stN (rAll M3 np nr) 300 = rSt (meR M np s) np nr from rSt_c hE3 (hI3.2.2.1 _ _)]
        refine xG_c2 1 rfl (by repeat' (first | exact trivial | assumption | exact xob_b rfl | exact xal_b rfl | (apply And.intro) | decide)) rfl rfl (by decide) cw_X12_amount (d' := d - 1) e_amount (by omega) ?_
        rintro v M' ⟨rfl, hM⟩
        subst M'
        dsimp only [Option.toList, List.cons_append, List.nil_append]
        refine xG_run 3 rfl (by repeat' (first | exact trivial | assumption | exact xob_b rfl | exact xal_b rfl | (apply And.intro) | decide)) ?_
        try dsimp only [xsto1, xsto2, xkill, xget, xset, gd_0, gd_s]
        refine xG_br rfl (fun h143 => ?_) (fun h143 => ?_)
        · refine xG_run 6 rfl (by repeat' (first | exact trivial | assumption | exact xob_b rfl | exact xal_b rfl | (apply And.intro) | decide)) ?_
          try dsimp only [xsto1, xsto2, xkill, xget, xset, gd_0, gd_s]
          rw [nI_1]
          first
            | (refine ih _ ⟨M3, some (.int (ab (rSt (meR M np s) np nr))), ?_, hI3, hK3⟩
               rw [show uwS (fun s => rSt (meR M np s) np nr) (s + 1) = (ab (rSt (meR M np s) np nr), nI s) from if_pos h143]; done)
            | (refine ih _ ⟨M3, some (.int (ab (rSt (meR M np s) np nr))), ?_, hI3, hK3⟩
               rw [show uwS (fun s => rSt (meR M np s) np nr) (s + 1) = uwS (fun s => rSt (meR M np s) np nr) s from if_neg h143]; done)
        · refine xG_run 3 rfl (by repeat' (first | exact trivial | assumption | exact xob_b rfl | exact xal_b rfl | (apply And.intro) | decide)) ?_
          try dsimp only [xsto1, xsto2, xkill, xget, xset, gd_0, gd_s]
          rw [nI_1]
          first
            | (refine ih _ ⟨M3, some (.int (ab (rSt (meR M np s) np nr))), ?_, hI3, hK3⟩
               rw [show uwS (fun s => rSt (meR M np s) np nr) (s + 1) = (ab (rSt (meR M np s) np nr), nI s) from if_pos h143]; done)
            | (refine ih _ ⟨M3, some (.int (ab (rSt (meR M np s) np nr))), ?_, hI3, hK3⟩
               rw [show uwS (fun s => rSt (meR M np s) np nr) (s + 1) = uwS (fun s => rSt (meR M np s) np nr) s from if_neg h143]; done)
    · rintro X ⟨M2, x5, rfl, hI, hK⟩
      refine xG_run 4 rfl (by repeat' (first | exact trivial | assumption | exact xob_b rfl | exact xal_b rfl | (apply And.intro) | decide)) ?_
      try dsimp only [xsto1, xsto2, xkill, xget, xset, gd_0, gd_s]
      rw [hsh1]
      refine xG_brT rfl (Int32.le_refl _) ?_
      refine xG_run 2 rfl (by repeat' (first | exact trivial | assumption | exact xob_b rfl | exact xal_b rfl | (apply And.intro) | decide)) ?_
      try dsimp only [xsto1, xsto2, xkill, xget, xset, gd_0, gd_s]
      refine xG_upP (fun k X => ∃ M3 : xM, X = (164, [some (.ref 166), some (.int (nI (icN (fun i => rs M i 5) np))), some (.int (uwS (fun s => rSt (meR M np s) np nr) (2 ^ icN (fun i => rs M i 5) np)).2), some (.int (uwS (fun s => rSt (meR M np s) np nr) (2 ^ icN (fun i => rs M i 5) np)).1), some (.int (nI k)), x5], [], M3, z2) ∧ unI M np (fun i => rs M i 5) M3 ∧ unK np (fun i => rs M i 5) M3 ∧ ∀ j, j < np → icT (fun i => rs M i 5) j → icN (fun i => rs M i 5) j < k → gI M3 167 (7 * j + 5) = rs M j 5) (icN (fun i => rs M i 5) np) ?_ ?_ 0 (Nat.zero_le _) _ ⟨M2, rfl, hI, hK, fun j hj hcj hk7 => absurd hk7 (Nat.not_lt_zero _)⟩
      · rintro k X hk ⟨M3, rfl, hI3, hK3, hV3⟩ ih2
        obtain ⟨i, hi, hc, hk9⟩ := icN_inv (ice := (fun i => rs M i 5)) (n := np) (k := k) hk
        obtain ⟨y1, y2⟩ := hK3 i hi hc
        rw [hk9] at y1 y2
        have hk1 : (nI k).toNatClampNeg = k := nI_cl (by omega)
        have hxa : xar 178 0 182 (nI k) := xar_n rfl 6 rfl (by omega) (by omega)
        have hxb : xar 179 0 182 (nI k) := xar_n rfl 6 rfl (by omega) (by omega)
        have y1 : gI M3 178 (nI k).toNatClampNeg = nI i := by rw [hk1]; exact y1
        have y2 : gI M3 179 (nI k).toNatClampNeg = rs M i 5 := by rw [hk1]; exact y2
        have e1 : (7 : Int32) * nI i + 5 = nI (7 * i + 5) := ix7 i 5
        have e2 : ((7 : Int32) * nI i + 5).toNatClampNeg = 7 * i + 5 := by rw [e1]; exact nI_cl (by omega)
        have hxs : xar 167 0 182 ((7 : Int32) * nI i + 5) := by rw [e1]; exact xar_n rfl 1651 rfl (by omega) (by omega)
        refine xG_run 2 rfl (by repeat' (first | exact trivial | assumption | exact xob_b rfl | exact xal_b rfl | (apply And.intro) | decide)) ?_
        try dsimp only [xsto1, xsto2, xkill, xget, xset, gd_0, gd_s]
        try rw [y1]
        try rw [y2]
        try rw [e2]
        refine xG_brF rfl (nI_ge hk (by omega)) ?_
        refine xG_run 7 rfl (by repeat' (first | exact trivial | assumption | exact xob_b rfl | exact xal_b rfl | (apply And.intro) | decide)) ?_
        try dsimp only [xsto1, xsto2, xkill, xget, xset, gd_0, gd_s]
        try rw [y1]
        try rw [y2]
        try rw [e2]
        try rw [y1]
        refine xG_run 7 rfl (by repeat' (first | exact trivial | assumption | exact xob_b rfl | exact xal_b rfl | (apply And.intro) | decide)) ?_
        try dsimp only [xsto1, xsto2, xkill, xget, xset, gd_0, gd_s]
        try rw [y1]
        try rw [y2]
        try rw [e2]
        try rw [y2]
        refine xG_run 3 rfl (by repeat' (first | exact trivial | assumption | exact xob_b rfl | exact xal_b rfl | (apply And.intro) | decide)) ?_
        try dsimp only [xsto1, xsto2, xkill, xget, xset, gd_0, gd_s]
        try rw [y1]
        try rw [y2]
        try rw [e2]
        rw [nI_1]
        refine ih2 _ ⟨_, rfl, unI_s hI3 hi hc, fun j hj hcj => ?_, fun j hj hcj hk7 => ?_⟩
        · exact ⟨(gI_ne (Or.inl (by decide))).trans (hK3 j hj hcj).1, (gI_ne (Or.inl (by decide))).trans (hK3 j hj hcj).2⟩
        · by_cases e : j = i
          · subst e; rw [gI_self]
          · rw [gI_ne (Or.inr (by omega))]
            exact hV3 j hj hcj (by
              have : ¬ icN (fun i => rs M i 5) j = k := fun q => e (icN_inj hcj hc (q.trans hk9.symm))
              omega)
      · rintro X ⟨M3, rfl, hI3, hK3, hV3⟩
        refine xG_run 2 rfl (by repeat' (first | exact trivial | assumption | exact xob_b rfl | exact xal_b rfl | (apply And.intro) | decide)) ?_
        try dsimp only [xsto1, xsto2, xkill, xget, xset, gd_0, gd_s]
        refine xG_brT rfl (Int32.le_refl _) ?_
        refine xG_run 1 rfl (by repeat' (first | exact trivial | assumption | exact xob_b rfl | exact xal_b rfl | (apply And.intro) | decide)) ?_
        try dsimp only [xsto1, xsto2, xkill, xget, xset, gd_0, gd_s]
        refine r2_i rfl rfl ?_
        have hE3 : ∀ y, gI M3 167 y = gI M 167 y := unI_e hI3 (fun i hi hc => hV3 i hi hc (icN_lt hc hi)) (R := M) (fun _ _ => rfl) (fun _ _ _ => rfl)
        refine ⟨rfl, ⟨fun x k q => ?_, hI3.2.1 _ _ (by decide) (by decide) (by decide), hI3.2.2.1 _ _, fun x k q => ⟨hI3.2.2.1 _ _, hI3.2.2.2 _ _⟩⟩⟩
        by_cases c : x = 167
        · subst c; exact hE3 k
        · exact hI3.2.1 _ _ c (by omega) (by omega)
  refine xG_run 4 rfl (by repeat' (first | exact trivial | assumption | exact xob_b rfl | exact xal_b rfl | (apply And.intro) | decide)) ?_
  try dsimp only [xsto1, xsto2, xkill, xget, xset, gd_0, gd_s]
  refine xG_upP (fun p X => ∃ M2 : xM, X = (4, [some (.ref 166), some (.int (nI (icN (fun i => rs M i 5) p))), some (.int (nI p)), none, none, none], [], M2, z2) ∧ unI M np (fun i => rs M i 5) M2 ∧ (∀ y, gI M2 167 y = gI M 167 y) ∧ unK p (fun i => rs M i 5) M2) np ?_ ?_ 0 (Nat.zero_le _) _ ⟨M, rfl, unI_r, fun _ => rfl, fun i hi => absurd hi (Nat.not_lt_zero _)⟩
  · rintro p X hp ⟨M2, rfl, hI, hS, hK⟩ ih
    have hN9 := icN_le (ice := (fun i => rs M i 5)) p
    have hnp : gI M2 167 1643 = nI np := (hS _).trans hn
    have h5 : rs M2 p 5 = rs M p 5 := hS _
    have h5b : nr3 0 20 (rs M p 5) := (r_pB hm hp).2.2.2.2.2.1
    have hN1 : (nI (icN (fun i => rs M i 5) p)).toNatClampNeg = icN (fun i => rs M i 5) p := nI_cl (by omega)
    refine xG_run 5 rfl (by repeat' (first | exact trivial | assumption | exact xob_b rfl | exact xal_b rfl | (apply And.intro) | decide)) ?_
    try dsimp only [xsto1, xsto2, xkill, xget, xset, gd_0, gd_s]
    try rw [hj1]
    try rw [hN1]
    refine xG_brF rfl (by rw [hcl, hnp]; exact nI_ge hp (by omega)) ?_
    refine xG_run 2 rfl (by repeat' (first | exact trivial | assumption | exact xob_b rfl | exact xal_b rfl | (apply And.intro) | decide)) ?_
    try dsimp only [xsto1, xsto2, xkill, xget, xset, gd_0, gd_s]
    try rw [hj1]
    try rw [hN1]
    refine xG_br rfl (fun h19 => ?_) (fun h19 => ?_)
    · have h6 : icN (fun i => rs M i 5) p = 6 := by have a := (nI_leI (a := 6) (b := icN (fun i => rs M i 5) p) (by omega) (by omega)).mp (show nI 6 ≤ _ from h19); omega
      exact k62 p M2 (by omega) (Or.inr h6) hI hS hK
    · have h6 : icN (fun i => rs M i 5) p < 6 := nI_lt9 (n := 6) (by omega) (by omega) (show ¬ nI 6 ≤ _ from h19)
      have hxa : xar 178 0 182 (nI (icN (fun i => rs M i 5) p)) := xar_n rfl 6 rfl h6 (by omega)
      have hxb : xar 179 0 182 (nI (icN (fun i => rs M i 5) p)) := xar_n rfl 6 rfl h6 (by omega)
      refine xG_run 3 rfl (by repeat' (first | exact trivial | assumption | exact xob_b rfl | exact xal_b rfl | (apply And.intro) | decide)) ?_
      try dsimp only [xsto1, xsto2, xkill, xget, xset, gd_0, gd_s]
      try rw [hj1]
      try rw [hN1]
      refine xG_c2 2 rfl (by repeat' (first | exact trivial | assumption | exact xob_b rfl | exact xal_b rfl | (apply And.intro) | decide)) rfl rfl (by decide) cw_X12_of (d' := d - 1) (e_of (p := p) (k := 5) rfl rfl (by omega)) (by omega) ?_
      rintro v M' ⟨rfl, hM⟩
      subst M'
      dsimp only [Option.toList, List.cons_append, List.nil_append]
      rw [h5]
      refine xG_br rfl (fun h28 => ?_) (fun h28 => ?_)
      · refine xG_run 8 rfl (by repeat' (first | exact trivial | assumption | exact xob_b rfl | exact xal_b rfl | (apply And.intro) | decide)) ?_
        try dsimp only [xsto1, xsto2, xkill, xget, xset, gd_0, gd_s]
        try rw [hj1]
        try rw [hN1]
        refine xG_run 3 rfl (by repeat' (first | exact trivial | assumption | exact xob_b rfl | exact xal_b rfl | (apply And.intro) | decide)) ?_
        try dsimp only [xsto1, xsto2, xkill, xget, xset, gd_0, gd_s]
        try rw [hj1]
        try rw [hN1]
        refine xG_c2 2 rfl (by repeat' (first | exact trivial | assumption | exact xob_b rfl | exact xal_b rfl | (apply And.intro) | decide)) rfl rfl (by decide) cw_X12_of (d' := d - 1) (e_of (p := p) (k := 5) rfl rfl (by omega)) (by omega) ?_
        rintro v M' ⟨rfl, hM⟩
        subst M'
        dsimp only [Option.toList, List.cons_append, List.nil_append]
        rw [show rs (sI M2 178 (icN (fun i => rs M i 5) p) (nI p)) p 5 = rs M p 5 from (gI_ne (Or.inl (by decide))).trans h5]
        refine xG_run 4 rfl (by repeat' (first | exact trivial | assumption | exact xob_b rfl | exact xal_b rfl | (apply And.intro) | decide)) ?_
        try dsimp only [xsto1, xsto2, xkill, xget, xset, gd_0, gd_s]
        try rw [hj1]
        try rw [hN1]
        rw [nI_1]
        first
          | (have c : ¬ icT (fun i => rs M i 5) p := fun q => by have z := Decidable.not_not.mp h28; have y : 0 < rs M p 5 := q.1; rw [z] at y; exact absurd y (by decide)
             rw [show icN (fun i => rs M i 5) p = icN (fun i => rs M i 5) (p + 1) from (if_neg c).symm]
             exact ih _ ⟨_, rfl, hI, hS, fun i hi hc => hK i (by
               by_cases e : i = p
               · subst e; exact absurd hc c
               · omega) hc⟩)
          | (have c : icT (fun i => rs M i 5) p := ⟨nz_pos h5b h28, h6⟩
             (try rw [nI_1])
             (try rw [nI_1])
             rw [show icN (fun i => rs M i 5) p + 1 = icN (fun i => rs M i 5) (p + 1) from (if_pos c).symm]
             refine ih _ ⟨_, rfl, unI_a (unI_a hI (Or.inl rfl)) (Or.inr rfl), fun y => (gI_ne (Or.inl (by decide))).trans ((gI_ne (Or.inl (by decide))).trans (hS y)), fun i hi hc => ?_⟩
             by_cases e : i = p
             · subst e
               exact ⟨(gI_ne (Or.inl (by decide))).trans (gI_self _ _ _ _), gI_self _ _ _ _⟩
             · have e2 := icN_lt hc (show i < p by omega)
               obtain ⟨y1, y2⟩ := hK i (by omega) hc
               exact ⟨(gI_ne (Or.inl (by decide))).trans ((gI_ne (Or.inr (by omega))).trans y1), (gI_ne (Or.inr (by omega))).trans ((gI_ne (Or.inl (by decide))).trans y2)⟩)
      · refine xG_run 3 rfl (by repeat' (first | exact trivial | assumption | exact xob_b rfl | exact xal_b rfl | (apply And.intro) | decide)) ?_
        try dsimp only [xsto1, xsto2, xkill, xget, xset, gd_0, gd_s]
        try rw [hj1]
        try rw [hN1]
        rw [nI_1]
        first
          | (have c : ¬ icT (fun i => rs M i 5) p := fun q => by have z := Decidable.not_not.mp h28; have y : 0 < rs M p 5 := q.1; rw [z] at y; exact absurd y (by decide)
             rw [show icN (fun i => rs M i 5) p = icN (fun i => rs M i 5) (p + 1) from (if_neg c).symm]
             exact ih _ ⟨_, rfl, hI, hS, fun i hi hc => hK i (by
               by_cases e : i = p
               · subst e; exact absurd hc c
               · omega) hc⟩)
          | (have c : icT (fun i => rs M i 5) p := ⟨nz_pos h5b h28, h6⟩
             (try rw [nI_1])
             (try rw [nI_1])
             rw [show icN (fun i => rs M i 5) p + 1 = icN (fun i => rs M i 5) (p + 1) from (if_pos c).symm]
             refine ih _ ⟨_, rfl, unI_a (unI_a hI (Or.inl rfl)) (Or.inr rfl), fun y => (gI_ne (Or.inl (by decide))).trans ((gI_ne (Or.inl (by decide))).trans (hS y)), fun i hi hc => ?_⟩
             by_cases e : i = p
             · subst e
               exact ⟨(gI_ne (Or.inl (by decide))).trans (gI_self _ _ _ _), gI_self _ _ _ _⟩
             · have e2 := icN_lt hc (show i < p by omega)
               obtain ⟨y1, y2⟩ := hK i (by omega) hc
               exact ⟨(gI_ne (Or.inl (by decide))).trans ((gI_ne (Or.inr (by omega))).trans y1), (gI_ne (Or.inr (by omega))).trans ((gI_ne (Or.inl (by decide))).trans y2)⟩)
  · rintro X ⟨M2, rfl, hI, hS, hK⟩
    have hnp : gI M2 167 1643 = nI np := (hS _).trans hn
    refine xG_run 5 rfl (by repeat' (first | exact trivial | assumption | exact xob_b rfl | exact xal_b rfl | (apply And.intro) | decide)) ?_
    try dsimp only [xsto1, xsto2, xkill, xget, xset, gd_0, gd_s]
    refine xG_brT rfl (by rw [hcl, hnp]; exact Int32.le_refl _) ?_
    exact k62 np M2 (Nat.le_refl _) (Or.inl rfl) hI hS hK
