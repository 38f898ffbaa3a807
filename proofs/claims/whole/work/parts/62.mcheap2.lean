/-! cheapest of the reference -/
abbrev isSt (nr k : Nat) : Prop := 70 ≤ k ∧ (k - 70) % 6 = 3 ∧ (k - 70) / 6 < nr
def dFr (nr : Nat) (M M' : xM) : Prop := (∀ x k, ¬ (x = 180 ∨ (x = 167 ∧ (k = 1648 ∨ k = 1649 ∨ isSt nr k))) → gI M' x k = gI M x k) ∧ (∀ x k, gJ M' x k = gJ M x k) ∧ ∀ x k, gP M' x k = gP M x k
theorem dFr_r {nr : Nat} {M : xM} : dFr nr M M := ⟨fun _ _ _ => rfl, fun _ _ => rfl, fun _ _ => rfl⟩
theorem dFr_t {nr : Nat} {M M' M2 : xM} (h : dFr nr M M') (h2 : dFr nr M' M2) : dFr nr M M2 := ⟨fun x k q => (h2.1 x k q).trans (h.1 x k q), fun x k => (h2.2.1 x k).trans (h.2.1 x k), fun x k => (h2.2.2 x k).trans (h.2.2 x k)⟩
theorem dFr_8 {nr k : Nat} {M : xM} {v : Int32} : dFr nr M (sI M 180 k v) := ⟨fun x y q => gI_ne (by omega), fun _ _ => rfl, fun _ _ => rfl⟩
theorem dFr_q {nr q : Nat} {M : xM} {v : Int32} (h : q < nr) : dFr nr M (sI M 167 (70 + 6 * q + 3) v) := ⟨fun x y z => gI_ne (by
  unfold isSt at z
  by_cases c : x = 167 ∧ y = 70 + 6 * q + 3
  · exfalso
    obtain ⟨rfl, rfl⟩ := c
    exact z (Or.inr ⟨rfl, Or.inr (Or.inr ⟨by omega, by omega, by omega⟩)⟩)
  · omega), fun _ _ => rfl, fun _ _ => rfl⟩
theorem dFr_v {nr : Nat} {M M' : xM} (h : vFr M M') : dFr nr M M' := ⟨fun x k q => h.1 x k (fun z => q (Or.inr ⟨z.1, z.2.elim Or.inl (fun y => Or.inr (Or.inl y))⟩)), h.2.1, h.2.2⟩
theorem prV_b {C R : xM} {a sa nr no s : Nat} (h : oR C a R 167 nr no) : ∀ k, k ≤ no → nr3 0 (999 * k) (prV R k s)
  | 0, _ => ⟨by rw [show prV R 0 s = 0 from rfl]; decide, by rw [show prV R 0 s = 0 from rfl]; decide⟩
  | k + 1, hk => by
    have ih := prV_b (s := s) (sa := sa) h k (by omega)
    have hp := (h.2.2 k (by omega)).2.2.2
    have h8 := h.1
    have e0 : prV R (k + 1) s = prV R k s + (if s.testBit k = true then oP R k else 0) := rfl
    have hx : 0 ≤ (if s.testBit k = true then oP R k else 0).toInt ∧ (if s.testBit k = true then oP R k else 0).toInt ≤ 999 := by
      by_cases c : s.testBit k = true
      · rw [if_pos c]
        have h1 := hp.1; have h2 := hp.2
        unfold oP
        exact ⟨by omega, by omega⟩
      · rw [if_neg c]; exact ⟨by decide, by decide⟩
    have i1 := ih.1; have i2 := ih.2
    have e : (prV R (k + 1) s).toInt = (prV R k s).toInt + (if s.testBit k = true then oP R k else 0).toInt := by
      rw [e0, Int32.toInt_add]
      exact Int.bmod_eq_of_le (by omega) (by omega)
    exact ⟨by omega, by omega⟩
theorem chF_i {P : Nat → Int32} {OK : Nat → Prop} [∀ s, Decidable (OK s)] (hP : ∀ s, ¬ P s = -4) : ∀ {s : Nat}, s ≤ 1024 → ((chF P OK s).1 = -4 ↔ (chF P OK s).2 < 0)
  | 0, _ => ⟨fun _ => by show (-4 : Int32) < 0; decide, fun _ => rfl⟩
  | s + 1, hs => by
    have ih := chF_i hP (OK := OK) (s := s) (by omega)
    unfold chF
    by_cases c1 : ¬ (chF P OK s).1 = -4 ∧ (chF P OK s).1 ≤ P s
    · rw [if_pos c1]; exact ih
    · rw [if_neg c1]
      by_cases c2 : OK s
      · rw [if_pos c2]
        exact ⟨fun q => absurd q (hP s), fun q => absurd (nI_pos' (n := s) (by omega)) (Int32.not_le.mpr q)⟩
      · rw [if_neg c2]; exact ih
theorem in01 {w : Int32} : (w = 0 ∨ w = 1) ↔ (0 : Int64) ≤ w.toInt64 ∧ w.toInt64 ≤ 1 := by
  rw [Int64.le_iff_toInt_le, Int64.le_iff_toInt_le, Int32.toInt_toInt64, show (0 : Int64).toInt = 0 by decide, show (1 : Int64).toInt = 1 by decide]
  constructor
  · rintro (rfl | rfl) <;> decide
  · intro h
    by_cases c : w.toInt = 0
    · exact Or.inl (Int32.toInt_inj.mp (c.trans Int32.toInt_zero.symm))
    · exact Or.inr (Int32.toInt_inj.mp ((show w.toInt = 1 by omega).trans (show (1 : Int32).toInt = 1 by decide).symm))
theorem a1_or (y : Int32) : y &&& 1 = 0 ∨ y &&& 1 = 1 := by
  cases h : bt y 0 with
  | false =>
    refine Or.inl (b_ext (fun i hi => ?_))
    rw [b_and, b_1 i hi, b_0]
    by_cases c : i = 0
    · rw [c, h]; rfl
    · rw [decide_eq_false c, Bool.and_false]
  | true =>
    refine Or.inr (b_ext (fun i hi => ?_))
    rw [b_and, b_1 i hi]
    by_cases c : i = 0
    · rw [c, h]; rfl
    · rw [decide_eq_false c, Bool.and_false]
theorem ix155 (k : Nat) : (155 : Int32) + 3 * nI k = nI (155 + 3 * k) := by show nI 155 + nI 3 * nI k = _; rw [pk_mul, nI_add]
theorem ix155b (k i : Nat) : (155 : Int32) + 3 * nI k + nI i = nI (155 + 3 * k + i) := by rw [ix155, nI_add]
def cheM (M : xM) (np nr no j : Nat) (mk w : Int32) : Int32 := if ¬ wspV M j (fun k => gI M 173 (120 * j + k)) (gI M 172 j).toNatClampNeg = 0 then wspV M j (fun k => gI M 173 (120 * j + k)) (gI M 172 j).toNatClampNeg else cheV M np nr no (fun k => gI M 173 (120 * j + k)) (gI M 172 j).toNatClampNeg mk.toNatClampNeg w
set_option maxRecDepth 4000 in
theorem e_m_cheapest {κ : xKK} {d : Nat} {M : xM} {np nr ng : Nat} {C : xM} (hm : mR C 1 M 167 np nr ng) {no : Nat} (ho : oR C 71 M 167 nr no) (hz : ∀ j, j < 8 → ∃ z, z ≤ 120 ∧ gI M 172 j = nI z) {i mk w : Int32} (hd : 8 ≤ d) : xE2 κ mX12_cheapest d [.ref 166, .int i, .int mk, .int w] M (fun v M' => ((∃ j, j < 8 ∧ i = nI j ∧ knC mk w ∧ v = some (.int (cheM M np nr no j mk w))) ∨ (¬ ((∃ j, j < 8 ∧ i = nI j) ∧ knC mk w) ∧ v = some (.int (-1)))) ∧ rkF M M') := by
  refine xE2_of ci_X12_cheapest cl_X12_cheapest cw_X12_cheapest rfl (L := [some (.ref 166), some (.int i), some (.int mk), some (.int w), none, none, none, none, none, none, none, none, none]) rfl ?_
  have hn := hm.2.1.2
  have hn2 := hm.1.1
  have hr := hm.2.2.1.2
  have hr2 := hm.1.2.1
  have hw := rPw hm
  have hh := rQh hm
  have ho8 := ho.1
  have hc44 : (1644 : Int32).toNatClampNeg = 1644 := rfl
  have hc47 : (1647 : Int32).toNatClampNeg = 1647 := rfl
  have hc48 : (1648 : Int32).toNatClampNeg = 1648 := rfl
  have hc49 : (1649 : Int32).toNatClampNeg = 1649 := rfl
  have hs44 : xar 167 0 182 1644 := xar_n (j := 1644) rfl 1651 rfl (by omega) (by omega)
  have hs47 : xar 167 0 182 1647 := xar_n (j := 1647) rfl 1651 rfl (by omega) (by omega)
  have hs48 : xar 167 0 182 1648 := xar_n (j := 1648) rfl 1651 rfl (by omega) (by omega)
  have hs49 : xar 167 0 182 1649 := xar_n (j := 1649) rfl 1651 rfl (by omega) (by omega)
  have hsh1 := shl_p no (by omega)
  have hpw := p2_le (n := no) (by omega)
  refine xG_run 1 rfl (by repeat' (first | exact trivial | assumption | exact xob_b rfl | exact xal_b rfl | (apply And.intro) | decide)) ?_
  try dsimp only [xsto1, xsto2, xkill, xget, xset, gd_0, gd_s]
  try rw [hc44]
  try rw [hc47]
  try rw [hc48]
  try rw [hc49]
  refine xG_c2 1 rfl (by repeat' (first | exact trivial | assumption | exact xob_b rfl | exact xal_b rfl | (apply And.intro) | decide)) rfl rfl (by decide) cw_X12_isShelf (d' := d - 1) (e_isShelf (by omega)) (by omega) ?_
  rintro v M' ⟨rfl, hM⟩
  subst M'
  dsimp only [Option.toList, List.cons_append, List.nil_append]
  refine xG_br rfl (fun h4 => ?_) (fun h4 => ?_)
  · have b4 := z0.mp h4
    refine xG_run 1 rfl (by repeat' (first | exact trivial | assumption | exact xob_b rfl | exact xal_b rfl | (apply And.intro) | decide)) ?_
    try dsimp only [xsto1, xsto2, xkill, xget, xset, gd_0, gd_s]
    try rw [hc44]
    try rw [hc47]
    try rw [hc48]
    try rw [hc49]
    refine r2_i rfl rfl ?_
    refine ⟨?_, rkF_r⟩
    first
      | exact Or.inr ⟨fun q => no8 b4 q.1, rfl⟩
      | exact Or.inr ⟨fun q => b16 q.2.1, rfl⟩
      | exact Or.inr ⟨fun q => b26 q.2.2, rfl⟩
      | (refine Or.inl ⟨j, hj, rfl, ⟨b16, b26⟩, ?_⟩
         unfold cheM
         rw [hzc, if_pos h40])
  · have b4 := z1.mp h4
    refine xG_run 4 rfl (by repeat' (first | exact trivial | assumption | exact xob_b rfl | exact xal_b rfl | (apply And.intro) | decide)) ?_
    try dsimp only [xsto1, xsto2, xkill, xget, xset, gd_0, gd_s]
    try rw [hc44]
    try rw [hc47]
    try rw [hc48]
    try rw [hc49]
    refine xG_c2 3 rfl (by repeat' (first | exact trivial | assumption | exact xob_b rfl | exact xal_b rfl | (apply And.intro) | decide)) rfl rfl (by decide) cw_X12_isIn (d' := d - 1) (e_isIn (c := 0 ≤ mk ∧ mk ≤ 300) (in32 rfl rfl)) (by omega) ?_
    rintro v M' ⟨rfl, hM⟩
    subst M'
    dsimp only [Option.toList, List.cons_append, List.nil_append]
    refine xG_br rfl (fun h16 => ?_) (fun h16 => ?_)
    · have b16 := z0.mp h16
      refine xG_run 1 rfl (by repeat' (first | exact trivial | assumption | exact xob_b rfl | exact xal_b rfl | (apply And.intro) | decide)) ?_
      try dsimp only [xsto1, xsto2, xkill, xget, xset, gd_0, gd_s]
      try rw [hc44]
      try rw [hc47]
      try rw [hc48]
      try rw [hc49]
      refine r2_i rfl rfl ?_
      refine ⟨?_, rkF_r⟩
      first
        | exact Or.inr ⟨fun q => no8 b4 q.1, rfl⟩
        | exact Or.inr ⟨fun q => b16 q.2.1, rfl⟩
        | exact Or.inr ⟨fun q => b26 q.2.2, rfl⟩
        | (refine Or.inl ⟨j, hj, rfl, ⟨b16, b26⟩, ?_⟩
           unfold cheM
           rw [hzc, if_pos h40])
    · have b16 := z1.mp h16
      refine xG_run 4 rfl (by repeat' (first | exact trivial | assumption | exact xob_b rfl | exact xal_b rfl | (apply And.intro) | decide)) ?_
      try dsimp only [xsto1, xsto2, xkill, xget, xset, gd_0, gd_s]
      try rw [hc44]
      try rw [hc47]
      try rw [hc48]
      try rw [hc49]
      refine xG_c2 3 rfl (by repeat' (first | exact trivial | assumption | exact xob_b rfl | exact xal_b rfl | (apply And.intro) | decide)) rfl rfl (by decide) cw_X12_isIn (d' := d - 1) (e_isIn (c := w = 0 ∨ w = 1) in01) (by omega) ?_
      rintro v M' ⟨rfl, hM⟩
      subst M'
      dsimp only [Option.toList, List.cons_append, List.nil_append]
      refine xG_br rfl (fun h26 => ?_) (fun h26 => ?_)
      · have b26 := z1.mp h26
        obtain ⟨j, hj, rfl⟩ := inI_of (n := 8) (show _ ∧ _ < nI 8 from b4) (by omega)
        obtain ⟨z, hz1, hz2⟩ := hz j hj
        have hzc : (gI M 172 j).toNatClampNeg = z := by rw [hz2]; exact nI_cl (by omega)
        refine xG_run 2 rfl (by repeat' (first | exact trivial | assumption | exact xob_b rfl | exact xal_b rfl | (apply And.intro) | decide)) ?_
        try dsimp only [xsto1, xsto2, xkill, xget, xset, gd_0, gd_s]
        try rw [hc44]
        try rw [hc47]
        try rw [hc48]
        try rw [hc49]
        refine xG_c2 1 rfl (by repeat' (first | exact trivial | assumption | exact xob_b rfl | exact xal_b rfl | (apply And.intro) | decide)) rfl rfl (by decide) cw_X12_wrongSpeeds (d' := d - 1) (e_wrongSpeeds (z := z) (E := (fun k => gI M 173 (120 * j + k))) hj hz2 hz1 (fun _ _ => rfl) (by omega)) (by omega) ?_
        rintro v M' ⟨rfl, hM⟩
        subst M'
        dsimp only [Option.toList, List.cons_append, List.nil_append]
        refine xG_run 2 rfl (by repeat' (first | exact trivial | assumption | exact xob_b rfl | exact xal_b rfl | (apply And.intro) | decide)) ?_
        try dsimp only [xsto1, xsto2, xkill, xget, xset, gd_0, gd_s]
        try rw [hc44]
        try rw [hc47]
        try rw [hc48]
        try rw [hc49]
        refine xG_br rfl (fun h40 => ?_) (fun h40 => ?_)
        · refine xG_run 8 rfl (by repeat' (first | exact trivial | assumption | exact xob_b rfl | exact xal_b rfl | (apply And.intro) | decide)) ?_
          try dsimp only [xsto1, xsto2, xkill, xget, xset, gd_0, gd_s]
          try rw [hc44]
          try rw [hc47]
          try rw [hc48]
          try rw [hc49]
          refine xG_run 4 rfl (by repeat' (first | exact trivial | assumption | exact xob_b rfl | exact xal_b rfl | (apply And.intro) | decide)) ?_
          try dsimp only [xsto1, xsto2, xkill, xget, xset, gd_0, gd_s]
          try rw [hc44]
          try rw [hc47]
          try rw [hc48]
          try rw [hc49]
          have hww : w = 0 ∨ w = 1 := b26
          obtain ⟨hmk1, hmk2⟩ := b16
          obtain ⟨mo, hmo3, rfl⟩ := nI_of3 (n := 300) hmk1 hmk2 (by omega)
          have hsp : spOK (fun k => gI M 173 (120 * j + k)) z := by
            by_cases c : spOK (fun k => gI M 173 (120 * j + k)) z
            · exact c
            · exfalso
              have h9 := h40
              unfold wspV at h9
              by_cases c0 : rWR M j 0 = 0
              · rw [if_neg (fun q => q c0), if_neg c] at h9; exact absurd h9 (by decide)
              · rw [if_pos c0] at h9; exact c0 h9
          have hPn : ∀ s, ¬ prV M no s = -4 := fun s q => by
            have h1 := (prV_b (sa := 0) (s := s) ho no (Nat.le_refl _)).1
            rw [q] at h1
            exact absurd h1 (by decide)
          have lp1 := xG_upP (κ := κ) (m := mX12_cheapest) (r := (d, 0, 0)) (YS := (xRet mX12_cheapest false (fun v M' n' => n' = 182 ∧ (((∃ j', j' < 8 ∧ nI j = nI j' ∧ knC (nI mo) w ∧ v = some (.int (cheM M np nr no j' (nI mo) w))) ∨ (¬ ((∃ j', j' < 8 ∧ nI j = nI j') ∧ knC (nI mo) w) ∧ v = some (.int (-1)))) ∧ rkF M M')))) (fun k X => ∃ M2 : xM, X = (69, [some (.ref 166), some (.int (nI j)), some (.int (nI mo)), some (.int w), some (.int (wspV M j (fun k => gI M 173 (120 * j + k)) z)), some (.int (gI M 167 1648)), some (.int (gI M 167 1649)), some (.int (nI k)), none, none, none, none, none], [], M2, z2) ∧ dFr nr M M2 ∧ (∀ q, q < k → gI M2 180 q = rr M q 3) ∧ ∀ y, gI M2 167 y = gI M 167 y) (nr) ?_ ?_ 0 (Nat.zero_le _)
          · exact lp1 _ ⟨M, rfl, dFr_r, fun q hq => absurd hq (Nat.not_lt_zero _), fun _ => rfl⟩
          · rintro k X hk ⟨M2, rfl, hd2, hI, hS⟩ ih
            have hnr3 : gI M2 167 1644 = nI nr := (hd2.1 _ _ (by omega)).trans hr
            have hno3 : gI M2 167 1647 = nI no := (hd2.1 _ _ (by omega)).trans ho.2.1.2
            have hk1 : (nI k).toNatClampNeg = k := nI_cl (by omega)
            have hsk : xar 180 0 182 (nI k) := xar_n rfl 12 rfl (by omega) (by omega)
            refine xG_run 5 rfl (by repeat' (first | exact trivial | assumption | exact xob_b rfl | exact xal_b rfl | (apply And.intro) | decide)) ?_
            try dsimp only [xsto1, xsto2, xkill, xget, xset, gd_0, gd_s]
            try rw [hc44]
            try rw [hc47]
            refine xG_brF rfl (by rw [hnr3]; exact nI_ge hk (by omega)) ?_
            refine xG_run 6 rfl (by repeat' (first | exact trivial | assumption | exact xob_b rfl | exact xal_b rfl | (apply And.intro) | decide)) ?_
            try dsimp only [xsto1, xsto2, xkill, xget, xset, gd_0, gd_s]
            try rw [hc44]
            try rw [hc47]
            refine xG_c2 2 rfl (by repeat' (first | exact trivial | assumption | exact xob_b rfl | exact xal_b rfl | (apply And.intro) | decide)) rfl rfl (by decide) cw_X12_rope0 (d' := d - 1) (e_rope0 (p := k) (k := 3) rfl rfl (by omega)) (by omega) ?_
            rintro v M' ⟨rfl, hM⟩
            subst M'
            dsimp only [Option.toList, List.cons_append, List.nil_append]
            refine xG_run 3 rfl (by repeat' (first | exact trivial | assumption | exact xob_b rfl | exact xal_b rfl | (apply And.intro) | decide)) ?_
            try dsimp only [xsto1, xsto2, xkill, xget, xset, gd_0, gd_s]
            try rw [hc44]
            try rw [hc47]
            rw [nI_1, hk1]
            refine ih _ ⟨_, rfl, dFr_t hd2 dFr_8, fun q hq => ?_, fun y => (gI_ne (Or.inl (by decide))).trans (hS y)⟩
            by_cases c : q = k
            · subst c; exact (gI_self _ _ _ _).trans (hS _)
            · exact (gI_ne (by omega)).trans (hI q (by omega))
          · rintro X ⟨M2, rfl, hd2, hI, hS⟩
            have hnr3 : gI M2 167 1644 = nI nr := (hd2.1 _ _ (by omega)).trans hr
            have hno3 : gI M2 167 1647 = nI no := (hd2.1 _ _ (by omega)).trans ho.2.1.2
            refine xG_run 5 rfl (by repeat' (first | exact trivial | assumption | exact xob_b rfl | exact xal_b rfl | (apply And.intro) | decide)) ?_
            try dsimp only [xsto1, xsto2, xkill, xget, xset, gd_0, gd_s]
            try rw [hc44]
            try rw [hc47]
            refine xG_brT rfl (by rw [hnr3]; exact Int32.le_refl _) ?_
            refine xG_run 6 rfl (by repeat' (first | exact trivial | assumption | exact xob_b rfl | exact xal_b rfl | (apply And.intro) | decide)) ?_
            try dsimp only [xsto1, xsto2, xkill, xget, xset, gd_0, gd_s]
            try rw [hc44]
            try rw [hc47]
            have ht := hI
            have lp2 := xG_upP (κ := κ) (m := mX12_cheapest) (r := (d, 0, 0)) (YS := (xRet mX12_cheapest false (fun v M' n' => n' = 182 ∧ (((∃ j', j' < 8 ∧ nI j = nI j' ∧ knC (nI mo) w ∧ v = some (.int (cheM M np nr no j' (nI mo) w))) ∨ (¬ ((∃ j', j' < 8 ∧ nI j = nI j') ∧ knC (nI mo) w) ∧ v = some (.int (-1)))) ∧ rkF M M')))) (fun s X => ∃ (M2 : xM) (x10 x11 x12 : Option Value), X = (113, [some (.ref 166), some (.int (nI j)), some (.int (nI mo)), some (.int w), some (.int (wspV M j (fun k => gI M 173 (120 * j + k)) z)), some (.int (gI M 167 1648)), some (.int (gI M 167 1649)), some (.int (chF (prV M no) (fun s => enP (chR M nr no s) np nr (fun k => gI M 173 (120 * j + k)) z mo) s).2), some (.int (chF (prV M no) (fun s => enP (chR M nr no s) np nr (fun k => gI M 173 (120 * j + k)) z mo) s).1), some (.int (nI s)), x10, x11, x12], [], M2, z2) ∧ dFr nr M M2 ∧ (∀ q, q < nr → gI M2 180 q = rr M q 3)) (2 ^ no) ?_ ?_ 0 (Nat.zero_le _)
            · exact lp2 _ ⟨M2, none, none, none, rfl, hd2, ht⟩
            · rintro s X hs9 ⟨M2, x10, x11, x12, rfl, hd2, ht⟩ ih
              have hnr3 : gI M2 167 1644 = nI nr := (hd2.1 _ _ (by omega)).trans hr
              have hno3 : gI M2 167 1647 = nI no := (hd2.1 _ _ (by omega)).trans ho.2.1.2
              refine xG_run 6 rfl (by repeat' (first | exact trivial | assumption | exact xob_b rfl | exact xal_b rfl | (apply And.intro) | decide)) ?_
              try dsimp only [xsto1, xsto2, xkill, xget, xset, gd_0, gd_s]
              try rw [hc44]
              try rw [hc47]
              rw [hno3]
              refine xG_run 1 rfl (by repeat' (first | exact trivial | assumption | exact xob_b rfl | exact xal_b rfl | (apply And.intro) | decide)) ?_
              try dsimp only [xsto1, xsto2, xkill, xget, xset, gd_0, gd_s]
              try rw [hc44]
              try rw [hc47]
              rw [hsh1]
              refine xG_brF rfl (nI_ge hs9 (by omega)) ?_
              refine xG_run 4 rfl (by repeat' (first | exact trivial | assumption | exact xob_b rfl | exact xal_b rfl | (apply And.intro) | decide)) ?_
              try dsimp only [xsto1, xsto2, xkill, xget, xset, gd_0, gd_s]
              try rw [hc44]
              try rw [hc47]
              have lp3 := xG_upP (κ := κ) (m := mX12_cheapest) (r := (d, 0, 0)) (YS := (xRet mX12_cheapest false (fun v M' n' => n' = 182 ∧ (((∃ j', j' < 8 ∧ nI j = nI j' ∧ knC (nI mo) w ∧ v = some (.int (cheM M np nr no j' (nI mo) w))) ∨ (¬ ((∃ j', j' < 8 ∧ nI j = nI j') ∧ knC (nI mo) w) ∧ v = some (.int (-1)))) ∧ rkF M M')))) (fun k X => ∃ (M2 : xM) (x12 : Option Value), X = (134, [some (.ref 166), some (.int (nI j)), some (.int (nI mo)), some (.int w), some (.int (wspV M j (fun k => gI M 173 (120 * j + k)) z)), some (.int (gI M 167 1648)), some (.int (gI M 167 1649)), some (.int (chF (prV M no) (fun s => enP (chR M nr no s) np nr (fun k => gI M 173 (120 * j + k)) z mo) s).2), some (.int (chF (prV M no) (fun s => enP (chR M nr no s) np nr (fun k => gI M 173 (120 * j + k)) z mo) s).1), some (.int (nI s)), some (.int 0), some (.int (nI k)), x12], [], M2, z2) ∧ dFr nr M M2 ∧ (∀ q, q < nr → gI M2 180 q = rr M q 3) ∧ ∀ q, q < k → gI M2 167 (70 + 6 * q + 3) = rr M q 3) (nr) ?_ ?_ 0 (Nat.zero_le _)
              · exact lp3 _ ⟨M2, x12, rfl, hd2, ht, fun q hq => absurd hq (Nat.not_lt_zero _)⟩
              · rintro k X hk ⟨M2, x12, rfl, hd2, ht, hI⟩ ih3
                have hnr3 : gI M2 167 1644 = nI nr := (hd2.1 _ _ (by omega)).trans hr
                have hno3 : gI M2 167 1647 = nI no := (hd2.1 _ _ (by omega)).trans ho.2.1.2
                have hk1 : (nI k).toNatClampNeg = k := nI_cl (by omega)
                have hsk : xar 180 0 182 (nI k) := xar_n rfl 12 rfl (by omega) (by omega)
                have hi3 : (70 : Int32) + 6 * nI k + 3 = nI (70 + 6 * k + 3) := ix6 k 3
                have hc3 : (nI (70 + 6 * k + 3)).toNatClampNeg = 70 + 6 * k + 3 := nI_cl (by omega)
                have hs3 : xar 167 0 182 (nI (70 + 6 * k + 3)) := xar_n rfl 1651 rfl (by omega) (by omega)
                refine xG_run 5 rfl (by repeat' (first | exact trivial | assumption | exact xob_b rfl | exact xal_b rfl | (apply And.intro) | decide)) ?_
                try dsimp only [xsto1, xsto2, xkill, xget, xset, gd_0, gd_s]
                try rw [hc44]
                try rw [hc47]
                refine xG_brF rfl (by rw [hnr3]; exact nI_ge hk (by omega)) ?_
                refine xG_run 8 rfl (by repeat' (first | exact trivial | assumption | exact xob_b rfl | exact xal_b rfl | (apply And.intro) | decide)) ?_
                try dsimp only [xsto1, xsto2, xkill, xget, xset, gd_0, gd_s]
                try rw [hc44]
                try rw [hc47]
                refine xG_run 1 rfl (by repeat' (first | exact trivial | assumption | exact xob_b rfl | exact xal_b rfl | (apply And.intro) | decide)) ?_
                try dsimp only [xsto1, xsto2, xkill, xget, xset, gd_0, gd_s]
                try rw [hc44]
                try rw [hc47]
                rw [hi3]
                refine xG_run 4 rfl (by repeat' (first | exact trivial | assumption | exact xob_b rfl | exact xal_b rfl | (apply And.intro) | decide)) ?_
                try dsimp only [xsto1, xsto2, xkill, xget, xset, gd_0, gd_s]
                try rw [hc44]
                try rw [hc47]
                rw [hk1, ht k hk]
                refine xG_run 3 rfl (by repeat' (first | exact trivial | assumption | exact xob_b rfl | exact xal_b rfl | (apply And.intro) | decide)) ?_
                try dsimp only [xsto1, xsto2, xkill, xget, xset, gd_0, gd_s]
                try rw [hc44]
                try rw [hc47]
                rw [nI_1, hc3]
                refine ih3 _ ⟨_, _, rfl, dFr_t hd2 (dFr_q hk), fun q hq => (gI_ne (by omega)).trans (ht q hq), fun q hq => ?_⟩
                by_cases c : q = k
                · subst c; exact gI_self _ _ _ _
                · exact (gI_ne (by omega)).trans (hI q (by omega))
              · rintro X ⟨M2, x12, rfl, hd2, ht, hI⟩
                have hnr3 : gI M2 167 1644 = nI nr := (hd2.1 _ _ (by omega)).trans hr
                have hno3 : gI M2 167 1647 = nI no := (hd2.1 _ _ (by omega)).trans ho.2.1.2
                refine xG_run 5 rfl (by repeat' (first | exact trivial | assumption | exact xob_b rfl | exact xal_b rfl | (apply And.intro) | decide)) ?_
                try dsimp only [xsto1, xsto2, xkill, xget, xset, gd_0, gd_s]
                try rw [hc44]
                try rw [hc47]
                refine xG_brT rfl (by rw [hnr3]; exact Int32.le_refl _) ?_
                refine xG_run 2 rfl (by repeat' (first | exact trivial | assumption | exact xob_b rfl | exact xal_b rfl | (apply And.intro) | decide)) ?_
                try dsimp only [xsto1, xsto2, xkill, xget, xset, gd_0, gd_s]
                try rw [hc44]
                try rw [hc47]
                have lp4 := xG_upP (κ := κ) (m := mX12_cheapest) (r := (d, 0, 0)) (YS := (xRet mX12_cheapest false (fun v M' n' => n' = 182 ∧ (((∃ j', j' < 8 ∧ nI j = nI j' ∧ knC (nI mo) w ∧ v = some (.int (cheM M np nr no j' (nI mo) w))) ∨ (¬ ((∃ j', j' < 8 ∧ nI j = nI j') ∧ knC (nI mo) w) ∧ v = some (.int (-1)))) ∧ rkF M M')))) (fun k X => ∃ (M2 : xM) (x13 : Option Value), X = (178, [some (.ref 166), some (.int (nI j)), some (.int (nI mo)), some (.int w), some (.int (wspV M j (fun k => gI M 173 (120 * j + k)) z)), some (.int (gI M 167 1648)), some (.int (gI M 167 1649)), some (.int (chF (prV M no) (fun s => enP (chR M nr no s) np nr (fun k => gI M 173 (120 * j + k)) z mo) s).2), some (.int (chF (prV M no) (fun s => enP (chR M nr no s) np nr (fun k => gI M 173 (120 * j + k)) z mo) s).1), some (.int (nI s)), some (.int (prV M k s)), some (.int (nI k)), x13], [], M2, z2) ∧ dFr nr M M2 ∧ (∀ q, q < nr → gI M2 180 q = rr M q 3) ∧ ∀ q, q < nr → gI M2 167 (70 + 6 * q + 3) = stF M s k q) (no) ?_ ?_ 0 (Nat.zero_le _)
                · exact lp4 _ ⟨M2, x12, rfl, hd2, ht, hI⟩
                · rintro k X hk ⟨M2, x13, rfl, hd2, ht, hI⟩ ih4
                  have hnr3 : gI M2 167 1644 = nI nr := (hd2.1 _ _ (by omega)).trans hr
                  have hno3 : gI M2 167 1647 = nI no := (hd2.1 _ _ (by omega)).trans ho.2.1.2
                  have hk1 : (nI k).toNatClampNeg = k := nI_cl (by omega)
                  obtain ⟨q, hq, hqe⟩ := (ho.2.2 k hk).2.1
                  have hbt := xbd_nI (S := s) (i := k) (by omega)
                  have hsa : xar 167 0 182 (nI (155 + 3 * k)) := xar_n rfl 1651 rfl (by omega) (by omega)
                  have hsb : xar 167 0 182 (nI (155 + 3 * k + 1)) := xar_n rfl 1651 rfl (by omega) (by omega)
                  have hsc : xar 167 0 182 (nI (155 + 3 * k + 2)) := xar_n rfl 1651 rfl (by omega) (by omega)
                  have hsq : xar 167 0 182 (nI (70 + 6 * q + 3)) := xar_n rfl 1651 rfl (by omega) (by omega)
                  have ha0 : gI M2 167 (nI (155 + 3 * k)).toNatClampNeg = nI q := by rw [nI_cl (by omega), hd2.1 _ _ (by omega)]; exact hqe
                  have ha1 : gI M2 167 (nI (155 + 3 * k + 1)).toNatClampNeg = oM M k := by rw [nI_cl (by omega)]; exact hd2.1 _ _ (by omega)
                  have hcq : (nI (70 + 6 * q + 3)).toNatClampNeg = 70 + 6 * q + 3 := nI_cl (by omega)
                  have haq : gI M2 167 (nI (70 + 6 * q + 3)).toNatClampNeg = stF M s k q := by rw [hcq]; exact hI q hq
                  have ha2 : ∀ v, gI (sI M2 167 (nI (70 + 6 * q + 3)).toNatClampNeg v) 167 (nI (155 + 3 * k + 2)).toNatClampNeg = oP M k := fun v => by rw [hcq, nI_cl (by omega)]; exact (gI_ne (by omega)).trans (hd2.1 _ _ (by omega))
                  have ir3 : (70 : Int32) + 6 * nI q + 3 = nI (70 + 6 * q + 3) := ix6 q 3
                  have ib1 := ix155b k 1
                  have ib2 := ix155b k 2
                  refine xG_run 5 rfl (by repeat' (first | exact trivial | assumption | exact xob_b rfl | exact xal_b rfl | (apply And.intro) | decide)) ?_
                  try dsimp only [xsto1, xsto2, xkill, xget, xset, gd_0, gd_s]
                  try rw [hc44]
                  try rw [hc47]
                  refine xG_brF rfl (by rw [hno3]; exact nI_ge hk (by omega)) ?_
                  refine xG_run 5 rfl (by repeat' (first | exact trivial | assumption | exact xob_b rfl | exact xal_b rfl | (apply And.intro) | decide)) ?_
                  try dsimp only [xsto1, xsto2, xkill, xget, xset, gd_0, gd_s]
                  try rw [hc44]
                  try rw [hc47]
                  refine xG_br rfl (fun h198 => ?_) (fun h198 => ?_)
                  · refine xG_run 8 rfl (by repeat' (first | exact trivial | assumption | exact xob_b rfl | exact xal_b rfl | (apply And.intro) | decide)) ?_
                    try dsimp only [xsto1, xsto2, xkill, xget, xset, gd_0, gd_s]
                    try rw [hc44]
                    try rw [hc47]
                    refine xG_run 1 rfl (by repeat' (first | exact trivial | assumption | exact xob_b rfl | exact xal_b rfl | (apply And.intro) | decide)) ?_
                    try dsimp only [xsto1, xsto2, xkill, xget, xset, gd_0, gd_s]
                    try rw [hc44]
                    try rw [hc47]
                    rw [ix155]
                    refine xG_run 1 rfl (by repeat' (first | exact trivial | assumption | exact xob_b rfl | exact xal_b rfl | (apply And.intro) | decide)) ?_
                    try dsimp only [xsto1, xsto2, xkill, xget, xset, gd_0, gd_s]
                    try rw [hc44]
                    try rw [hc47]
                    rw [ha0]
                    refine xG_run 4 rfl (by repeat' (first | exact trivial | assumption | exact xob_b rfl | exact xal_b rfl | (apply And.intro) | decide)) ?_
                    try dsimp only [xsto1, xsto2, xkill, xget, xset, gd_0, gd_s]
                    try rw [hc44]
                    try rw [hc47]
                    rw [ir3]
                    refine xG_run 8 rfl (by repeat' (first | exact trivial | assumption | exact xob_b rfl | exact xal_b rfl | (apply And.intro) | decide)) ?_
                    try dsimp only [xsto1, xsto2, xkill, xget, xset, gd_0, gd_s]
                    try rw [hc44]
                    try rw [hc47]
                    rw [haq]
                    refine xG_run 8 rfl (by repeat' (first | exact trivial | assumption | exact xob_b rfl | exact xal_b rfl | (apply And.intro) | decide)) ?_
                    try dsimp only [xsto1, xsto2, xkill, xget, xset, gd_0, gd_s]
                    try rw [hc44]
                    try rw [hc47]
                    refine xG_run 1 rfl (by repeat' (first | exact trivial | assumption | exact xob_b rfl | exact xal_b rfl | (apply And.intro) | decide)) ?_
                    try dsimp only [xsto1, xsto2, xkill, xget, xset, gd_0, gd_s]
                    try rw [hc44]
                    try rw [hc47]
                    rw [show (155 : Int32) + 3 * nI k + 1 = nI (155 + 3 * k + 1) from ib1]
                    refine xG_run 1 rfl (by repeat' (first | exact trivial | assumption | exact xob_b rfl | exact xal_b rfl | (apply And.intro) | decide)) ?_
                    try dsimp only [xsto1, xsto2, xkill, xget, xset, gd_0, gd_s]
                    try rw [hc44]
                    try rw [hc47]
                    rw [ha1]
                    refine xG_run 2 rfl (by repeat' (first | exact trivial | assumption | exact xob_b rfl | exact xal_b rfl | (apply And.intro) | decide)) ?_
                    try dsimp only [xsto1, xsto2, xkill, xget, xset, gd_0, gd_s]
                    try rw [hc44]
                    try rw [hc47]
                    refine xG_br rfl (fun h258 => ?_) (fun h258 => ?_)
                    · refine xG_run 4 rfl (by repeat' (first | exact trivial | assumption | exact xob_b rfl | exact xal_b rfl | (apply And.intro) | decide)) ?_
                      try dsimp only [xsto1, xsto2, xkill, xget, xset, gd_0, gd_s]
                      try rw [hc44]
                      try rw [hc47]
                      rw [haq]
                      refine xG_run 8 rfl (by repeat' (first | exact trivial | assumption | exact xob_b rfl | exact xal_b rfl | (apply And.intro) | decide)) ?_
                      try dsimp only [xsto1, xsto2, xkill, xget, xset, gd_0, gd_s]
                      try rw [hc44]
                      try rw [hc47]
                      refine xG_run 1 rfl (by repeat' (first | exact trivial | assumption | exact xob_b rfl | exact xal_b rfl | (apply And.intro) | decide)) ?_
                      try dsimp only [xsto1, xsto2, xkill, xget, xset, gd_0, gd_s]
                      try rw [hc44]
                      try rw [hc47]
                      rw [show (155 : Int32) + 3 * nI k + 1 = nI (155 + 3 * k + 1) from ib1]
                      refine xG_run 1 rfl (by repeat' (first | exact trivial | assumption | exact xob_b rfl | exact xal_b rfl | (apply And.intro) | decide)) ?_
                      try dsimp only [xsto1, xsto2, xkill, xget, xset, gd_0, gd_s]
                      try rw [hc44]
                      try rw [hc47]
                      rw [ha1]
                      refine xG_run 8 rfl (by repeat' (first | exact trivial | assumption | exact xob_b rfl | exact xal_b rfl | (apply And.intro) | decide)) ?_
                      try dsimp only [xsto1, xsto2, xkill, xget, xset, gd_0, gd_s]
                      try rw [hc44]
                      try rw [hc47]
                      refine xG_run 4 rfl (by repeat' (first | exact trivial | assumption | exact xob_b rfl | exact xal_b rfl | (apply And.intro) | decide)) ?_
                      try dsimp only [xsto1, xsto2, xkill, xget, xset, gd_0, gd_s]
                      try rw [hc44]
                      try rw [hc47]
                      rw [show (155 : Int32) + 3 * nI k + 2 = nI (155 + 3 * k + 2) from ib2]
                      refine xG_run 1 rfl (by repeat' (first | exact trivial | assumption | exact xob_b rfl | exact xal_b rfl | (apply And.intro) | decide)) ?_
                      try dsimp only [xsto1, xsto2, xkill, xget, xset, gd_0, gd_s]
                      try rw [hc44]
                      try rw [hc47]
                      rw [ha2]
                      refine xG_run 4 rfl (by repeat' (first | exact trivial | assumption | exact xob_b rfl | exact xal_b rfl | (apply And.intro) | decide)) ?_
                      try dsimp only [xsto1, xsto2, xkill, xget, xset, gd_0, gd_s]
                      try rw [hc44]
                      try rw [hc47]
                      rw [nI_1, hcq]
                      have hc : s.testBit k = true := hbt.mp ((a1_or _).resolve_left h198)
                      have hst : stF M s k q + oM M k = stM (stF M s k q) (oM M k) := by unfold stM; first | exact (if_neg (Int32.not_lt.mpr h258)).symm | exact (if_pos (Int32.not_le.mp h258)).symm
                      rw [hst, show prV M k s + oP M k = prV M (k + 1) s from iSum_s (if_pos hc)]
                      refine ih4 _ ⟨_, _, rfl, dFr_t hd2 (dFr_q hq), fun p hp => (gI_ne (by omega)).trans (ht p hp), fun p hp => ?_⟩
                      by_cases c : p = q
                      · subst c
                        rw [show stF M s (k + 1) p = stM (stF M s k p) (oM M k) from if_pos ⟨hc, hqe⟩]
                        exact gI_self _ _ _ _
                      · rw [show stF M s (k + 1) p = stF M s k p from if_neg (fun z => c (nI_inj12 (by omega) (by omega) (z.2.symm.trans hqe)))]
                        exact (gI_ne (by omega)).trans (hI p hp)
                    · refine xG_run 8 rfl (by repeat' (first | exact trivial | assumption | exact xob_b rfl | exact xal_b rfl | (apply And.intro) | decide)) ?_
                      try dsimp only [xsto1, xsto2, xkill, xget, xset, gd_0, gd_s]
                      try rw [hc44]
                      try rw [hc47]
                      refine xG_run 5 rfl (by repeat' (first | exact trivial | assumption | exact xob_b rfl | exact xal_b rfl | (apply And.intro) | decide)) ?_
                      try dsimp only [xsto1, xsto2, xkill, xget, xset, gd_0, gd_s]
                      try rw [hc44]
                      try rw [hc47]
                      rw [show (155 : Int32) + 3 * nI k + 2 = nI (155 + 3 * k + 2) from ib2]
                      refine xG_run 1 rfl (by repeat' (first | exact trivial | assumption | exact xob_b rfl | exact xal_b rfl | (apply And.intro) | decide)) ?_
                      try dsimp only [xsto1, xsto2, xkill, xget, xset, gd_0, gd_s]
                      try rw [hc44]
                      try rw [hc47]
                      rw [ha2]
                      refine xG_run 4 rfl (by repeat' (first | exact trivial | assumption | exact xob_b rfl | exact xal_b rfl | (apply And.intro) | decide)) ?_
                      try dsimp only [xsto1, xsto2, xkill, xget, xset, gd_0, gd_s]
                      try rw [hc44]
                      try rw [hc47]
                      rw [nI_1, hcq]
                      have hc : s.testBit k = true := hbt.mp ((a1_or _).resolve_left h198)
                      have hst : (99 : Int32) = stM (stF M s k q) (oM M k) := by unfold stM; first | exact (if_neg (Int32.not_lt.mpr h258)).symm | exact (if_pos (Int32.not_le.mp h258)).symm
                      rw [hst, show prV M k s + oP M k = prV M (k + 1) s from iSum_s (if_pos hc)]
                      refine ih4 _ ⟨_, _, rfl, dFr_t hd2 (dFr_q hq), fun p hp => (gI_ne (by omega)).trans (ht p hp), fun p hp => ?_⟩
                      by_cases c : p = q
                      · subst c
                        rw [show stF M s (k + 1) p = stM (stF M s k p) (oM M k) from if_pos ⟨hc, hqe⟩]
                        exact gI_self _ _ _ _
                      · rw [show stF M s (k + 1) p = stF M s k p from if_neg (fun z => c (nI_inj12 (by omega) (by omega) (z.2.symm.trans hqe)))]
                        exact (gI_ne (by omega)).trans (hI p hp)
                  · refine xG_run 3 rfl (by repeat' (first | exact trivial | assumption | exact xob_b rfl | exact xal_b rfl | (apply And.intro) | decide)) ?_
                    try dsimp only [xsto1, xsto2, xkill, xget, xset, gd_0, gd_s]
                    try rw [hc44]
                    try rw [hc47]
                    rw [nI_1]
                    have hc : ¬ s.testBit k = true := fun z => absurd ((hbt.mpr z).symm.trans (Decidable.not_not.mp h198)) (by decide)
                    rw [show prV M k s = prV M (k + 1) s from (by show _ = iSum _ (k + 1); rw [iSum, if_neg hc, Int32.add_zero]; rfl)]
                    exact ih4 _ ⟨M2, _, rfl, hd2, ht, fun p hp => (hI p hp).trans (if_neg (fun z => hc z.1)).symm⟩
                · rintro X ⟨M2, x13, rfl, hd2, ht, hI⟩
                  have hnr3 : gI M2 167 1644 = nI nr := (hd2.1 _ _ (by omega)).trans hr
                  have hno3 : gI M2 167 1647 = nI no := (hd2.1 _ _ (by omega)).trans ho.2.1.2
                  have hmX : mR (fun x k => if k = 3 ∧ 16 ≤ x ∧ x < 16 + nr then stF M s no (x - 16) else gI C x k, C.2.1, C.2.2) 1 (chR M nr no s) 167 np nr ng := mR_st hm (fun q hq => stF_b (r_qB hm hq).2.2.2.1 (fun i hi => (ho.2.2 i hi).2.2.1)) (fun x k q => if_neg (fun z => q ⟨z.1, by omega, by omega⟩)) (fun q hq => by
                    show (if 3 = 3 ∧ 16 ≤ 1 + 15 + q ∧ 1 + 15 + q < 16 + nr then stF M s no (1 + 15 + q - 16) else gI C (1 + 15 + q) 3) = _
                    rw [if_pos ⟨rfl, by omega, by omega⟩, show 1 + 15 + q - 16 = q by omega])
                  have hRX : (∀ k, ¬ (k = 1648 ∨ k = 1649) → gI M2 167 k = gI (chR M nr no s) 167 k) ∧ gJ M2 166 18 = gJ (chR M nr no s) 166 18 := by
                    refine ⟨fun k hk => ?_, hd2.2.1 _ _⟩
                    by_cases c : isSt nr k
                    · obtain ⟨c2, c3, c4⟩ := c
                      have e : k = 70 + 6 * ((k - 70) / 6) + 3 := by omega
                      rw [e]
                      exact (hI _ c4).trans (st_i c4).symm
                    · exact (hd2.1 _ _ (fun z => z.elim (fun y => by omega) (fun y => y.2.elim (fun b => hk (Or.inl b)) (fun b => b.elim (fun b => hk (Or.inr b)) c)))).trans (st_o c).symm
                  have hz5 : gI M2 172 j = nI z := (hd2.1 _ _ (by omega)).trans hz2
                  have hE5 : ∀ k, k < 120 → gI M2 173 (120 * j + k) = (fun k => gI M 173 (120 * j + k)) k := fun k _ => hd2.1 _ _ (by omega)
                  have hchi := chF_i (P := prV M no) (OK := fun s => enP (chR M nr no s) np nr (fun k => gI M 173 (120 * j + k)) z mo) hPn (s := s) (by omega)
                  refine xG_run 5 rfl (by repeat' (first | exact trivial | assumption | exact xob_b rfl | exact xal_b rfl | (apply And.intro) | decide)) ?_
                  try dsimp only [xsto1, xsto2, xkill, xget, xset, gd_0, gd_s]
                  try rw [hc44]
                  try rw [hc47]
                  refine xG_brT rfl (by rw [hno3]; exact Int32.le_refl _) ?_
                  refine xG_run 1 rfl (by repeat' (first | exact trivial | assumption | exact xob_b rfl | exact xal_b rfl | (apply And.intro) | decide)) ?_
                  try dsimp only [xsto1, xsto2, xkill, xget, xset, gd_0, gd_s]
                  try rw [hc44]
                  try rw [hc47]
                  refine xG_br rfl (fun h318 => ?_) (fun h318 => ?_)
                  · refine xG_run 3 rfl (by repeat' (first | exact trivial | assumption | exact xob_b rfl | exact xal_b rfl | (apply And.intro) | decide)) ?_
                    try dsimp only [xsto1, xsto2, xkill, xget, xset, gd_0, gd_s]
                    try rw [hc44]
                    try rw [hc47]
                    refine xG_c2 2 rfl (by repeat' (first | exact trivial | assumption | exact xob_b rfl | exact xal_b rfl | (apply And.intro) | decide)) rfl rfl (by decide) cw_X12_isEnough (d' := d - 1) (e_isEnough (mo := mo) hmX hRX hj hz5 hz1 hE5 hsp hmo3 (by omega)) (by omega) ?_
                    rintro v M5 ⟨rfl, hv5⟩
                    dsimp only [Option.toList, List.cons_append, List.nil_append]
                    refine xG_br rfl (fun h334 => ?_) (fun h334 => ?_)
                    · have b334 := z1.mp h334
                      refine xG_run 6 rfl (by repeat' (first | exact trivial | assumption | exact xob_b rfl | exact xal_b rfl | (apply And.intro) | decide)) ?_
                      try dsimp only [xsto1, xsto2, xkill, xget, xset, gd_0, gd_s]
                      try rw [hc44]
                      try rw [hc47]
                      rw [nI_1]
                      have hne : ¬ (¬ (chF (prV M no) (fun s => enP (chR M nr no s) np nr (fun k => gI M 173 (120 * j + k)) z mo) s).1 = -4 ∧ (chF (prV M no) (fun s => enP (chR M nr no s) np nr (fun k => gI M 173 (120 * j + k)) z mo) s).1 ≤ prV M no s) := fun z => z.1 (hchi.mpr h318)
                      refine ih _ ⟨M5, some (.int (prV M no s)), some (.int (nI no)), x13, ?_, dFr_t hd2 (dFr_v hv5), fun q hq => (hv5.1 _ _ (by omega)).trans (ht q hq)⟩
                      rw [show (chF (prV M no) (fun s => enP (chR M nr no s) np nr (fun k => gI M 173 (120 * j + k)) z mo) (s + 1)) = (prV M no s, nI s) from (if_neg hne).trans (if_pos b334)]
                    · have b334 := z0.mp (Decidable.not_not.mp h334)
                      refine xG_run 3 rfl (by repeat' (first | exact trivial | assumption | exact xob_b rfl | exact xal_b rfl | (apply And.intro) | decide)) ?_
                      try dsimp only [xsto1, xsto2, xkill, xget, xset, gd_0, gd_s]
                      try rw [hc44]
                      try rw [hc47]
                      rw [nI_1]
                      have hne : ¬ (¬ (chF (prV M no) (fun s => enP (chR M nr no s) np nr (fun k => gI M 173 (120 * j + k)) z mo) s).1 = -4 ∧ (chF (prV M no) (fun s => enP (chR M nr no s) np nr (fun k => gI M 173 (120 * j + k)) z mo) s).1 ≤ prV M no s) := fun z => z.1 (hchi.mpr h318)
                      refine ih _ ⟨M5, some (.int (prV M no s)), some (.int (nI no)), x13, ?_, dFr_t hd2 (dFr_v hv5), fun q hq => (hv5.1 _ _ (by omega)).trans (ht q hq)⟩
                      rw [show (chF (prV M no) (fun s => enP (chR M nr no s) np nr (fun k => gI M 173 (120 * j + k)) z mo) (s + 1)) = (chF (prV M no) (fun s => enP (chR M nr no s) np nr (fun k => gI M 173 (120 * j + k)) z mo) s) from (if_neg hne).trans (if_neg b334)]
                  · refine xG_run 2 rfl (by repeat' (first | exact trivial | assumption | exact xob_b rfl | exact xal_b rfl | (apply And.intro) | decide)) ?_
                    try dsimp only [xsto1, xsto2, xkill, xget, xset, gd_0, gd_s]
                    try rw [hc44]
                    try rw [hc47]
                    refine xG_br rfl (fun h325 => ?_) (fun h325 => ?_)
                    · refine xG_run 2 rfl (by repeat' (first | exact trivial | assumption | exact xob_b rfl | exact xal_b rfl | (apply And.intro) | decide)) ?_
                      try dsimp only [xsto1, xsto2, xkill, xget, xset, gd_0, gd_s]
                      try rw [hc44]
                      try rw [hc47]
                      rw [nI_1]
                      have hne : ¬ (chF (prV M no) (fun s => enP (chR M nr no s) np nr (fun k => gI M 173 (120 * j + k)) z mo) s).1 = -4 ∧ (chF (prV M no) (fun s => enP (chR M nr no s) np nr (fun k => gI M 173 (120 * j + k)) z mo) s).1 ≤ prV M no s := ⟨fun z => h318 (hchi.mp z), h325⟩
                      refine ih _ ⟨M2, some (.int (prV M no s)), some (.int (nI no)), x13, ?_, hd2, ht⟩
                      rw [show (chF (prV M no) (fun s => enP (chR M nr no s) np nr (fun k => gI M 173 (120 * j + k)) z mo) (s + 1)) = (chF (prV M no) (fun s => enP (chR M nr no s) np nr (fun k => gI M 173 (120 * j + k)) z mo) s) from if_pos hne]
                    · refine xG_run 3 rfl (by repeat' (first | exact trivial | assumption | exact xob_b rfl | exact xal_b rfl | (apply And.intro) | decide)) ?_
                      try dsimp only [xsto1, xsto2, xkill, xget, xset, gd_0, gd_s]
                      try rw [hc44]
                      try rw [hc47]
                      refine xG_c2 2 rfl (by repeat' (first | exact trivial | assumption | exact xob_b rfl | exact xal_b rfl | (apply And.intro) | decide)) rfl rfl (by decide) cw_X12_isEnough (d' := d - 1) (e_isEnough (mo := mo) hmX hRX hj hz5 hz1 hE5 hsp hmo3 (by omega)) (by omega) ?_
                      rintro v M5 ⟨rfl, hv5⟩
                      dsimp only [Option.toList, List.cons_append, List.nil_append]
                      refine xG_br rfl (fun h334 => ?_) (fun h334 => ?_)
                      · have b334 := z1.mp h334
                        refine xG_run 6 rfl (by repeat' (first | exact trivial | assumption | exact xob_b rfl | exact xal_b rfl | (apply And.intro) | decide)) ?_
                        try dsimp only [xsto1, xsto2, xkill, xget, xset, gd_0, gd_s]
                        try rw [hc44]
                        try rw [hc47]
                        rw [nI_1]
                        have hne : ¬ (¬ (chF (prV M no) (fun s => enP (chR M nr no s) np nr (fun k => gI M 173 (120 * j + k)) z mo) s).1 = -4 ∧ (chF (prV M no) (fun s => enP (chR M nr no s) np nr (fun k => gI M 173 (120 * j + k)) z mo) s).1 ≤ prV M no s) := fun z => h325 z.2
                        refine ih _ ⟨M5, some (.int (prV M no s)), some (.int (nI no)), x13, ?_, dFr_t hd2 (dFr_v hv5), fun q hq => (hv5.1 _ _ (by omega)).trans (ht q hq)⟩
                        rw [show (chF (prV M no) (fun s => enP (chR M nr no s) np nr (fun k => gI M 173 (120 * j + k)) z mo) (s + 1)) = (prV M no s, nI s) from (if_neg hne).trans (if_pos b334)]
                      · have b334 := z0.mp (Decidable.not_not.mp h334)
                        refine xG_run 3 rfl (by repeat' (first | exact trivial | assumption | exact xob_b rfl | exact xal_b rfl | (apply And.intro) | decide)) ?_
                        try dsimp only [xsto1, xsto2, xkill, xget, xset, gd_0, gd_s]
                        try rw [hc44]
                        try rw [hc47]
                        rw [nI_1]
                        have hne : ¬ (¬ (chF (prV M no) (fun s => enP (chR M nr no s) np nr (fun k => gI M 173 (120 * j + k)) z mo) s).1 = -4 ∧ (chF (prV M no) (fun s => enP (chR M nr no s) np nr (fun k => gI M 173 (120 * j + k)) z mo) s).1 ≤ prV M no s) := fun z => h325 z.2
                        refine ih _ ⟨M5, some (.int (prV M no s)), some (.int (nI no)), x13, ?_, dFr_t hd2 (dFr_v hv5), fun q hq => (hv5.1 _ _ (by omega)).trans (ht q hq)⟩
                        rw [show (chF (prV M no) (fun s => enP (chR M nr no s) np nr (fun k => gI M 173 (120 * j + k)) z mo) (s + 1)) = (chF (prV M no) (fun s => enP (chR M nr no s) np nr (fun k => gI M 173 (120 * j + k)) z mo) s) from (if_neg hne).trans (if_neg b334)]
            · rintro X ⟨M2, x10, x11, x12, rfl, hd2, ht⟩
              have hnr3 : gI M2 167 1644 = nI nr := (hd2.1 _ _ (by omega)).trans hr
              have hno3 : gI M2 167 1647 = nI no := (hd2.1 _ _ (by omega)).trans ho.2.1.2
              refine xG_run 6 rfl (by repeat' (first | exact trivial | assumption | exact xob_b rfl | exact xal_b rfl | (apply And.intro) | decide)) ?_
              try dsimp only [xsto1, xsto2, xkill, xget, xset, gd_0, gd_s]
              try rw [hc44]
              try rw [hc47]
              rw [hno3]
              refine xG_run 1 rfl (by repeat' (first | exact trivial | assumption | exact xob_b rfl | exact xal_b rfl | (apply And.intro) | decide)) ?_
              try dsimp only [xsto1, xsto2, xkill, xget, xset, gd_0, gd_s]
              try rw [hc44]
              try rw [hc47]
              rw [hsh1]
              refine xG_brT rfl (Int32.le_refl _) ?_
              refine xG_run 2 rfl (by repeat' (first | exact trivial | assumption | exact xob_b rfl | exact xal_b rfl | (apply And.intro) | decide)) ?_
              try dsimp only [xsto1, xsto2, xkill, xget, xset, gd_0, gd_s]
              try rw [hc44]
              try rw [hc47]
              have lp5 := xG_upP (κ := κ) (m := mX12_cheapest) (r := (d, 0, 0)) (YS := (xRet mX12_cheapest false (fun v M' n' => n' = 182 ∧ (((∃ j', j' < 8 ∧ nI j = nI j' ∧ knC (nI mo) w ∧ v = some (.int (cheM M np nr no j' (nI mo) w))) ∨ (¬ ((∃ j', j' < 8 ∧ nI j = nI j') ∧ knC (nI mo) w) ∧ v = some (.int (-1)))) ∧ rkF M M')))) (fun k X => ∃ (M2 : xM) (x10 x11 x12 : Option Value), X = (357, [some (.ref 166), some (.int (nI j)), some (.int (nI mo)), some (.int w), some (.int (wspV M j (fun k => gI M 173 (120 * j + k)) z)), some (.int (gI M 167 1648)), some (.int (gI M 167 1649)), some (.int (chF (prV M no) (fun s => enP (chR M nr no s) np nr (fun k => gI M 173 (120 * j + k)) z mo) (2 ^ no)).2), some (.int (chF (prV M no) (fun s => enP (chR M nr no s) np nr (fun k => gI M 173 (120 * j + k)) z mo) (2 ^ no)).1), some (.int (nI k)), x10, x11, x12], [], M2, z2) ∧ dFr nr M M2 ∧ (∀ q, q < nr → gI M2 180 q = rr M q 3) ∧ ∀ q, q < k → gI M2 167 (70 + 6 * q + 3) = rr M q 3) (nr) ?_ ?_ 0 (Nat.zero_le _)
              · exact lp5 _ ⟨M2, x10, x11, x12, rfl, hd2, ht, fun q hq => absurd hq (Nat.not_lt_zero _)⟩
              · rintro k X hk ⟨M2, x10, x11, x12, rfl, hd2, ht, hI⟩ ih
                have hnr3 : gI M2 167 1644 = nI nr := (hd2.1 _ _ (by omega)).trans hr
                have hno3 : gI M2 167 1647 = nI no := (hd2.1 _ _ (by omega)).trans ho.2.1.2
                have hk1 : (nI k).toNatClampNeg = k := nI_cl (by omega)
                have hsk : xar 180 0 182 (nI k) := xar_n rfl 12 rfl (by omega) (by omega)
                have hi3 : (70 : Int32) + 6 * nI k + 3 = nI (70 + 6 * k + 3) := ix6 k 3
                have hc3 : (nI (70 + 6 * k + 3)).toNatClampNeg = 70 + 6 * k + 3 := nI_cl (by omega)
                have hs3 : xar 167 0 182 (nI (70 + 6 * k + 3)) := xar_n rfl 1651 rfl (by omega) (by omega)
                refine xG_run 5 rfl (by repeat' (first | exact trivial | assumption | exact xob_b rfl | exact xal_b rfl | (apply And.intro) | decide)) ?_
                try dsimp only [xsto1, xsto2, xkill, xget, xset, gd_0, gd_s]
                try rw [hc44]
                try rw [hc47]
                refine xG_brF rfl (by rw [hnr3]; exact nI_ge hk (by omega)) ?_
                refine xG_run 8 rfl (by repeat' (first | exact trivial | assumption | exact xob_b rfl | exact xal_b rfl | (apply And.intro) | decide)) ?_
                try dsimp only [xsto1, xsto2, xkill, xget, xset, gd_0, gd_s]
                try rw [hc44]
                try rw [hc47]
                refine xG_run 1 rfl (by repeat' (first | exact trivial | assumption | exact xob_b rfl | exact xal_b rfl | (apply And.intro) | decide)) ?_
                try dsimp only [xsto1, xsto2, xkill, xget, xset, gd_0, gd_s]
                try rw [hc44]
                try rw [hc47]
                rw [hi3]
                refine xG_run 4 rfl (by repeat' (first | exact trivial | assumption | exact xob_b rfl | exact xal_b rfl | (apply And.intro) | decide)) ?_
                try dsimp only [xsto1, xsto2, xkill, xget, xset, gd_0, gd_s]
                try rw [hc44]
                try rw [hc47]
                rw [hk1, ht k hk]
                refine xG_run 3 rfl (by repeat' (first | exact trivial | assumption | exact xob_b rfl | exact xal_b rfl | (apply And.intro) | decide)) ?_
                try dsimp only [xsto1, xsto2, xkill, xget, xset, gd_0, gd_s]
                try rw [hc44]
                try rw [hc47]
                rw [nI_1, hc3]
                refine ih _ ⟨_, _, _, _, rfl, dFr_t hd2 (dFr_q hk), fun q hq => (gI_ne (by omega)).trans (ht q hq), fun q hq => ?_⟩
                by_cases c : q = k
                · subst c; exact gI_self _ _ _ _
                · exact (gI_ne (by omega)).trans (hI q (by omega))
              · rintro X ⟨M2, x10, x11, x12, rfl, hd2, ht, hI⟩
                have hnr3 : gI M2 167 1644 = nI nr := (hd2.1 _ _ (by omega)).trans hr
                have hno3 : gI M2 167 1647 = nI no := (hd2.1 _ _ (by omega)).trans ho.2.1.2
                refine xG_run 5 rfl (by repeat' (first | exact trivial | assumption | exact xob_b rfl | exact xal_b rfl | (apply And.intro) | decide)) ?_
                try dsimp only [xsto1, xsto2, xkill, xget, xset, gd_0, gd_s]
                try rw [hc44]
                try rw [hc47]
                try rw [hc48]
                try rw [hc49]
                refine xG_brT rfl (by rw [hnr3]; exact Int32.le_refl _) ?_
                refine xG_run 8 rfl (by repeat' (first | exact trivial | assumption | exact xob_b rfl | exact xal_b rfl | (apply And.intro) | decide)) ?_
                try dsimp only [xsto1, xsto2, xkill, xget, xset, gd_0, gd_s]
                try rw [hc44]
                try rw [hc47]
                try rw [hc48]
                try rw [hc49]
                refine xG_run 3 rfl (by repeat' (first | exact trivial | assumption | exact xob_b rfl | exact xal_b rfl | (apply And.intro) | decide)) ?_
                try dsimp only [xsto1, xsto2, xkill, xget, xset, gd_0, gd_s]
                try rw [hc44]
                try rw [hc47]
                try rw [hc48]
                try rw [hc49]
                refine xG_br rfl (fun h419 => ?_) (fun h419 => ?_)
                · refine xG_run 1 rfl (by repeat' (first | exact trivial | assumption | exact xob_b rfl | exact xal_b rfl | (apply And.intro) | decide)) ?_
                  try dsimp only [xsto1, xsto2, xkill, xget, xset, gd_0, gd_s]
                  try rw [hc44]
                  try rw [hc47]
                  try rw [hc48]
                  try rw [hc49]
                  refine r2_i rfl rfl ?_
                  refine ⟨Or.inl ⟨j, hj, rfl, ⟨⟨hmk1, hmk2⟩, hww⟩, ?_⟩, ⟨fun x k q => ?_, ?_, ?_, fun x k q => ⟨?_, ?_⟩⟩⟩
                  · unfold cheM cheV
                    rw [hzc, if_neg (fun q => q h40), nI_cl (by omega)]
                    first
                      | (rw [if_pos (Decidable.not_not.mp h419)]; done)
                      | (rw [if_neg h419]; done)
                  · by_cases c9 : x = 167 ∧ k = 1649
                    · rw [c9.1, c9.2]; exact gI_self _ _ _ _
                    · by_cases c8 : x = 167 ∧ k = 1648
                      · rw [c8.1, c8.2]; exact (gI_ne (Or.inr (by decide))).trans (gI_self _ _ _ _)
                      · rw [gI_ne (by omega), gI_ne (by omega)]
                        by_cases c : x = 167 ∧ isSt nr k
                        · obtain ⟨c1, c2, c3, c4⟩ := c
                          have e : k = 70 + 6 * ((k - 70) / 6) + 3 := by omega
                          rw [c1, e]
                          exact hI _ c4
                        · exact hd2.1 _ _ (fun z => z.elim (fun y => by omega) (fun y => y.2.elim (fun b => c8 ⟨y.1, b⟩) (fun b => b.elim (fun b => c9 ⟨y.1, b⟩) (fun b => c ⟨y.1, b⟩))))
                  · exact (gI_ne (Or.inl (by decide))).trans ((gI_ne (Or.inl (by decide))).trans (hd2.1 _ _ (by omega)))
                  · exact hd2.2.1 _ _
                  · exact hd2.2.1 _ _
                  · exact hd2.2.2 _ _
                · refine xG_run 2 rfl (by repeat' (first | exact trivial | assumption | exact xob_b rfl | exact xal_b rfl | (apply And.intro) | decide)) ?_
                  try dsimp only [xsto1, xsto2, xkill, xget, xset, gd_0, gd_s]
                  try rw [hc44]
                  try rw [hc47]
                  try rw [hc48]
                  try rw [hc49]
                  refine r2_i rfl rfl ?_
                  refine ⟨Or.inl ⟨j, hj, rfl, ⟨⟨hmk1, hmk2⟩, hww⟩, ?_⟩, ⟨fun x k q => ?_, ?_, ?_, fun x k q => ⟨?_, ?_⟩⟩⟩
                  · unfold cheM cheV
                    rw [hzc, if_neg (fun q => q h40), nI_cl (by omega)]
                    first
                      | (rw [if_pos (Decidable.not_not.mp h419)]; done)
                      | (rw [if_neg h419]; done)
                  · by_cases c9 : x = 167 ∧ k = 1649
                    · rw [c9.1, c9.2]; exact gI_self _ _ _ _
                    · by_cases c8 : x = 167 ∧ k = 1648
                      · rw [c8.1, c8.2]; exact (gI_ne (Or.inr (by decide))).trans (gI_self _ _ _ _)
                      · rw [gI_ne (by omega), gI_ne (by omega)]
                        by_cases c : x = 167 ∧ isSt nr k
                        · obtain ⟨c1, c2, c3, c4⟩ := c
                          have e : k = 70 + 6 * ((k - 70) / 6) + 3 := by omega
                          rw [c1, e]
                          exact hI _ c4
                        · exact hd2.1 _ _ (fun z => z.elim (fun y => by omega) (fun y => y.2.elim (fun b => c8 ⟨y.1, b⟩) (fun b => b.elim (fun b => c9 ⟨y.1, b⟩) (fun b => c ⟨y.1, b⟩))))
                  · exact (gI_ne (Or.inl (by decide))).trans ((gI_ne (Or.inl (by decide))).trans (hd2.1 _ _ (by omega)))
                  · exact hd2.2.1 _ _
                  · exact hd2.2.1 _ _
                  · exact hd2.2.2 _ _
        · refine xG_run 1 rfl (by repeat' (first | exact trivial | assumption | exact xob_b rfl | exact xal_b rfl | (apply And.intro) | decide)) ?_
          try dsimp only [xsto1, xsto2, xkill, xget, xset, gd_0, gd_s]
          try rw [hc44]
          try rw [hc47]
          try rw [hc48]
          try rw [hc49]
          refine r2_i rfl rfl ?_
          refine ⟨?_, rkF_r⟩
          first
            | exact Or.inr ⟨fun q => no8 b4 q.1, rfl⟩
            | exact Or.inr ⟨fun q => b16 q.2.1, rfl⟩
            | exact Or.inr ⟨fun q => b26 q.2.2, rfl⟩
            | (refine Or.inl ⟨j, hj, rfl, ⟨b16, b26⟩, ?_⟩
               unfold cheM
               rw [hzc, if_pos h40])
      · have b26 := z0.mp (Decidable.not_not.mp h26)
        refine xG_run 1 rfl (by repeat' (first | exact trivial | assumption | exact xob_b rfl | exact xal_b rfl | (apply And.intro) | decide)) ?_
        try dsimp only [xsto1, xsto2, xkill, xget, xset, gd_0, gd_s]
        try rw [hc44]
        try rw [hc47]
        try rw [hc48]
        try rw [hc49]
        refine r2_i rfl rfl ?_
        refine ⟨?_, rkF_r⟩
        first
          | exact Or.inr ⟨fun q => no8 b4 q.1, rfl⟩
          | exact Or.inr ⟨fun q => b16 q.2.1, rfl⟩
          | exact Or.inr ⟨fun q => b26 q.2.2, rfl⟩
          | (refine Or.inl ⟨j, hj, rfl, ⟨b16, b26⟩, ?_⟩
             unfold cheM
             rw [hzc, if_pos h40])
