/-! cheapest of the reference -/
theorem half16 : ∀ k, k < 16 → nI k / 2 = nI (k / 2) ∧ nI k - nI k / 2 * 2 = nI (k % 2) := by decide +kernel
/-- only the wind may differ -/
def vFr (M M' : xM) : Prop := (∀ x k, ¬ (x = 167 ∧ (k = 1648 ∨ k = 1649)) → gI M' x k = gI M x k) ∧ (∀ x k, gJ M' x k = gJ M x k) ∧ ∀ x k, gP M' x k = gP M x k
theorem vFr_r {M : xM} : vFr M M := ⟨fun _ _ _ => rfl, fun _ _ => rfl, fun _ _ => rfl⟩
theorem vFr_t {M M' M2 : xM} (h : vFr M M') (h2 : vFr M' M2) : vFr M M2 := ⟨fun x k q => (h2.1 x k q).trans (h.1 x k q), fun x k => (h2.2.1 x k).trans (h.2.1 x k), fun x k => (h2.2.2 x k).trans (h.2.2 x k)⟩
theorem vFr_i {M : xM} {k : Nat} {v : Int32} (h : k = 1648 ∨ k = 1649) : vFr M (sI M 167 k v) := ⟨fun x y q => gI_ne (by omega), fun _ _ => rfl, fun _ _ => rfl⟩
theorem vFr_w {R M : xM} {e sd : Int32} (h : ∀ k, ¬ (k = 1648 ∨ k = 1649) → gI M 167 k = gI R 167 k) : ∀ k, gI (sI (sI M 167 1648 e) 167 1649 sd) 167 k = gI (wsR R e sd) 167 k := fun k => by
  have w1 : ∀ X : xM, gI (sI (sI X 167 1648 e) 167 1649 sd) 167 k = if k = 1649 then sd else if k = 1648 then e else gI X 167 k := fun X => by
    rw [gIsI, gIsI]
    by_cases c9 : k = 1649
    · rw [if_pos ⟨rfl, c9⟩, if_pos c9]
    · rw [if_neg (fun q => c9 q.2), if_neg c9]
      by_cases c8 : k = 1648
      · rw [if_pos ⟨rfl, c8⟩, if_pos c8]
      · rw [if_neg (fun q => c8 q.2), if_neg c8]
  unfold wsR
  rw [w1, w1]
  by_cases c9 : k = 1649
  · rw [if_pos c9, if_pos c9]
  · rw [if_neg c9, if_neg c9]
    by_cases c8 : k = 1648
    · rw [if_pos c8, if_pos c8]
    · rw [if_neg c8, if_neg c8]; exact h _ (by omega)
theorem spin {z : Nat} (h : z ≤ 120) : ((1 ≤ z ∧ z ≤ 8) ↔ (1 : Int64) ≤ (nI z).toInt64 ∧ (nI z).toInt64 ≤ 8) := by
  rw [Int64.le_iff_toInt_le, Int64.le_iff_toInt_le, Int32.toInt_toInt64, nI_ti (by omega), show (1 : Int64).toInt = 1 by decide, show (8 : Int64).toInt = 8 by decide]
  omega
def wspV (M : xM) (j : Nat) (E : Nat → Int32) (z : Nat) : Int32 := if ¬ rWR M j 0 = 0 then rWR M j 0 else if spOK E z then 0 else -13
set_option maxRecDepth 4000 in
theorem e_wrongSpeeds {κ : xKK} {d : Nat} {M : xM} {j z : Nat} {E : Nat → Int32} (hj : j < 8) (hz2 : gI M 172 j = nI z) (hz1 : z ≤ 120) (hE : ∀ k, k < 120 → gI M 173 (120 * j + k) = E k) (hd : 3 ≤ d) : xE2 κ mX12_wrongSpeeds d [.ref 166, .int (nI j)] M (fun v M' => v = some (.int (wspV M j E z)) ∧ M' = M) := by
  refine xE2_of ci_X12_wrongSpeeds cl_X12_wrongSpeeds cw_X12_wrongSpeeds rfl (L := [some (.ref 166), some (.int (nI j)), none, none]) rfl ?_
  have hs172 : xar 172 0 182 (nI j) := xar_n rfl 8 rfl hj (by omega)
  have hzz : gI M 172 (nI j).toNatClampNeg = nI z := by rw [nI_cl (by omega)]; exact hz2
  refine xG_run 3 rfl (by repeat' (first | exact trivial | assumption | exact xob_b rfl | exact xal_b rfl | (apply And.intro) | decide)) ?_
  try dsimp only [xsto1, xsto2, xkill, xget, xset, gd_0, gd_s]
  refine xG_c2 2 rfl (by repeat' (first | exact trivial | assumption | exact xob_b rfl | exact xal_b rfl | (apply And.intro) | decide)) rfl rfl (by decide) cw_X12_wrongRow (d' := d - 1) (e_wrongRow (s := 0) (by omega)) (by omega) ?_
  rintro v M' ⟨hv, hM⟩
  subst M'
  have hv2 : v = some (.int (rWR M j 0)) := by
    rcases hv with ⟨j9, hj9, hij9, e⟩ | ⟨hno, e⟩
    · rw [e, show j9 = j from (nI_inj12 (by omega) (by omega) hij9).symm]
    · exact absurd ⟨j, hj, rfl⟩ hno
  subst hv2
  dsimp only [Option.toList, List.cons_append, List.nil_append]
  refine xG_run 2 rfl (by repeat' (first | exact trivial | assumption | exact xob_b rfl | exact xal_b rfl | (apply And.intro) | decide)) ?_
  try dsimp only [xsto1, xsto2, xkill, xget, xset, gd_0, gd_s]
  refine xG_br rfl (fun h8 => ?_) (fun h8 => ?_)
  · refine xG_run 4 rfl (by repeat' (first | exact trivial | assumption | exact xob_b rfl | exact xal_b rfl | (apply And.intro) | decide)) ?_
    try dsimp only [xsto1, xsto2, xkill, xget, xset, gd_0, gd_s]
    rw [hzz]
    refine xG_run 3 rfl (by repeat' (first | exact trivial | assumption | exact xob_b rfl | exact xal_b rfl | (apply And.intro) | decide)) ?_
    try dsimp only [xsto1, xsto2, xkill, xget, xset, gd_0, gd_s]
    refine xG_c2 3 rfl (by repeat' (first | exact trivial | assumption | exact xob_b rfl | exact xal_b rfl | (apply And.intro) | decide)) rfl rfl (by decide) cw_X12_isIn (d' := d - 1) (e_isIn (c := 1 ≤ z ∧ z ≤ 8) (spin hz1)) (by omega) ?_
    rintro v M' ⟨rfl, hM⟩
    subst M'
    dsimp only [Option.toList, List.cons_append, List.nil_append]
    refine xG_br rfl (fun h27 => ?_) (fun h27 => ?_)
    · have b27 := z1.mp h27
      refine xG_run 2 rfl (by repeat' (first | exact trivial | assumption | exact xob_b rfl | exact xal_b rfl | (apply And.intro) | decide)) ?_
      try dsimp only [xsto1, xsto2, xkill, xget, xset, gd_0, gd_s]
      have lp := xG_upP (κ := κ) (m := mX12_wrongSpeeds) (r := (d, 0, 0)) (YS := xRet mX12_wrongSpeeds false (fun v M' n' => n' = 182 ∧ (v = some (.int (wspV M j E z)) ∧ M' = M))) (fun k X => X = (35, [some (.ref 166), some (.int (nI j)), some (.int (rWR M j 0)), some (.int (nI k))], [], M, z2) ∧ ∀ i, i < k → 0 ≤ E i ∧ E i ≤ 99) z ?_ ?_ 0 (by omega)
      · exact lp _ ⟨rfl, fun i hi => absurd hi (Nat.not_lt_zero _)⟩
      · rintro k X hk ⟨rfl, hok⟩ ih
        have hs3 : xar 173 0 182 (nI (120 * j + k)) := el_ar (by omega)
        have hel : gI M 173 (nI (120 * j + k)).toNatClampNeg = E k := by rw [nI_cl (by omega)]; exact hE k (by omega)
        refine xG_run 5 rfl (by repeat' (first | exact trivial | assumption | exact xob_b rfl | exact xal_b rfl | (apply And.intro) | decide)) ?_
        try dsimp only [xsto1, xsto2, xkill, xget, xset, gd_0, gd_s]
        rw [hzz]
        refine xG_brF rfl (nI_ge hk (by omega)) ?_
        refine xG_run 7 rfl (by repeat' (first | exact trivial | assumption | exact xob_b rfl | exact xal_b rfl | (apply And.intro) | decide)) ?_
        try dsimp only [xsto1, xsto2, xkill, xget, xset, gd_0, gd_s]
        rw [ix120]
        refine xG_run 1 rfl (by repeat' (first | exact trivial | assumption | exact xob_b rfl | exact xal_b rfl | (apply And.intro) | decide)) ?_
        try dsimp only [xsto1, xsto2, xkill, xget, xset, gd_0, gd_s]
        rw [hel]
        refine xG_run 3 rfl (by repeat' (first | exact trivial | assumption | exact xob_b rfl | exact xal_b rfl | (apply And.intro) | decide)) ?_
        try dsimp only [xsto1, xsto2, xkill, xget, xset, gd_0, gd_s]
        refine xG_c2 3 rfl (by repeat' (first | exact trivial | assumption | exact xob_b rfl | exact xal_b rfl | (apply And.intro) | decide)) rfl rfl (by decide) cw_X12_isIn (d' := d - 1) (e_isIn (c := 0 ≤ E k ∧ E k ≤ 99) (in32 rfl rfl)) (by omega) ?_
        rintro v M' ⟨rfl, hM⟩
        subst M'
        dsimp only [Option.toList, List.cons_append, List.nil_append]
        refine xG_br rfl (fun h64 => ?_) (fun h64 => ?_)
        · have b64 := z1.mp h64
          refine xG_run 2 rfl (by repeat' (first | exact trivial | assumption | exact xob_b rfl | exact xal_b rfl | (apply And.intro) | decide)) ?_
          try dsimp only [xsto1, xsto2, xkill, xget, xset, gd_0, gd_s]
          rw [nI_1]
          refine ih _ ⟨rfl, fun i hi => ?_⟩
          by_cases e : i = k
          · subst e; exact b64
          · exact hok i (by omega)
        · have b64 := z0.mp (Decidable.not_not.mp h64)
          refine xG_run 1 rfl (by repeat' (first | exact trivial | assumption | exact xob_b rfl | exact xal_b rfl | (apply And.intro) | decide)) ?_
          try dsimp only [xsto1, xsto2, xkill, xget, xset, gd_0, gd_s]
          refine r2_i rfl rfl ?_
          refine ⟨?_, rfl⟩
          unfold wspV
          rw [if_neg (fun q => q h8), if_neg (fun q => b64 (q.2.2 k hk))]
      · rintro X ⟨rfl, hok⟩
        refine xG_run 5 rfl (by repeat' (first | exact trivial | assumption | exact xob_b rfl | exact xal_b rfl | (apply And.intro) | decide)) ?_
        try dsimp only [xsto1, xsto2, xkill, xget, xset, gd_0, gd_s]
        rw [hzz]
        refine xG_brT rfl (Int32.le_refl _) ?_
        refine xG_run 1 rfl (by repeat' (first | exact trivial | assumption | exact xob_b rfl | exact xal_b rfl | (apply And.intro) | decide)) ?_
        try dsimp only [xsto1, xsto2, xkill, xget, xset, gd_0, gd_s]
        refine r2_i rfl rfl ?_
        refine ⟨?_, rfl⟩
        unfold wspV
        rw [if_neg (fun q => q h8), if_pos ⟨b27.1, b27.2, hok⟩]
    · have b27 := z0.mp (Decidable.not_not.mp h27)
      refine xG_run 1 rfl (by repeat' (first | exact trivial | assumption | exact xob_b rfl | exact xal_b rfl | (apply And.intro) | decide)) ?_
      try dsimp only [xsto1, xsto2, xkill, xget, xset, gd_0, gd_s]
      refine r2_i rfl rfl ?_
      refine ⟨?_, rfl⟩
      unfold wspV
      first
        | (rw [if_pos h8]; done)
        | (rw [if_neg (fun q => q (Decidable.not_not.mp h8)), if_neg (fun q => b27 ⟨q.1, q.2.1⟩)]; done)
        | (rw [if_neg (fun q => q h8), if_neg (fun q => b27 ⟨q.1, q.2.1⟩)]; done)
  · refine xG_run 1 rfl (by repeat' (first | exact trivial | assumption | exact xob_b rfl | exact xal_b rfl | (apply And.intro) | decide)) ?_
    try dsimp only [xsto1, xsto2, xkill, xget, xset, gd_0, gd_s]
    refine r2_i rfl rfl ?_
    refine ⟨?_, rfl⟩
    unfold wspV
    first
      | (rw [if_pos h8]; done)
      | (rw [if_neg (fun q => q (Decidable.not_not.mp h8)), if_neg (fun q => b27 ⟨q.1, q.2.1⟩)]; done)
      | (rw [if_neg (fun q => q h8), if_neg (fun q => b27 ⟨q.1, q.2.1⟩)]; done)
set_option maxRecDepth 4000 in
theorem e_isEnough {κ : xKK} {d : Nat} {M : xM} {np nr ng j z mo : Nat} {C R : xM} {E : Nat → Int32} (hm : mR C 1 R 167 np nr ng) (hRM : (∀ k, ¬ (k = 1648 ∨ k = 1649) → gI M 167 k = gI R 167 k) ∧ gJ M 166 18 = gJ R 166 18) (hj : j < 8) (hz2 : gI M 172 j = nI z) (hz1 : z ≤ 120) (hE : ∀ k, k < 120 → gI M 173 (120 * j + k) = E k) (hsp : spOK E z) (hmo : mo ≤ 300) (hd : 6 ≤ d) : xE2 κ mX12_isEnough d [.ref 166, .int (nI j), .int (nI mo)] M (fun v M' => v = some (.int (if enP R np nr E z mo then 1 else 0)) ∧ vFr M M') := by
  refine xE2_of ci_X12_isEnough cl_X12_isEnough cw_X12_isEnough rfl (L := [some (.ref 166), some (.int (nI j)), some (.int (nI mo)), none]) rfl ?_
  have hz8 := hsp.2.1
  have hE9 : ∀ i, i < z → nr3 0 99 (E i) := fun i hi => by
    have := hsp.2.2 i hi
    exact ⟨by have := this.1; rw [Int32.le_iff_toInt_le] at this; exact this, lI (k := 99) this.2 (by omega)⟩
  refine xG_run 2 rfl (by repeat' (first | exact trivial | assumption | exact xob_b rfl | exact xal_b rfl | (apply And.intro) | decide)) ?_
  try dsimp only [xsto1, xsto2, xkill, xget, xset, gd_0, gd_s]
  have lp := xG_upP (κ := κ) (m := mX12_isEnough) (r := (d, 0, 0)) (YS := xRet mX12_isEnough false (fun v M' n' => n' = 182 ∧ (v = some (.int (if enP R np nr E z mo then 1 else 0)) ∧ vFr M M'))) (fun k X => ∃ M2 : xM, X = (2, [some (.ref 166), some (.int (nI j)), some (.int (nI mo)), some (.int (nI k))], [], M2, z2) ∧ vFr M M2 ∧ ∀ i, i < k → okS R np nr mo (E (i / 2)) (if i % 2 = 0 then 1 else -1)) (2 * z) ?_ ?_ 0 (by omega)
  · exact lp _ ⟨M, rfl, vFr_r, fun i hi => absurd hi (Nat.not_lt_zero _)⟩
  · rintro k X hk ⟨M2, rfl, hF, hok⟩ ih
    have hs172 : xar 172 0 182 (nI j) := xar_n rfl 8 rfl hj (by omega)
    have hzz : gI M2 172 (nI j).toNatClampNeg = nI z := by rw [nI_cl (by omega)]; exact (hF.1 _ _ (by omega)).trans hz2
    have hs8 : xar 167 0 182 1648 := xar_n (j := 1648) rfl 1651 rfl (by omega) (by omega)
    have hs9 : xar 167 0 182 1649 := xar_n (j := 1649) rfl 1651 rfl (by omega) (by omega)
    have hc8 : (1648 : Int32).toNatClampNeg = 1648 := rfl
    have hc9 : (1649 : Int32).toNatClampNeg = 1649 := rfl
    have h2z : (2 : Int32) * nI z = nI (2 * z) := by show nI 2 * nI z = _; rw [pk_mul]
    have hs3 : xar 173 0 182 (nI (120 * j + k / 2)) := el_ar (by omega)
    have hel : gI M2 173 (nI (120 * j + k / 2)).toNatClampNeg = E (k / 2) := by rw [nI_cl (by omega)]; exact (hF.1 _ _ (by omega)).trans (hE (k / 2) (by omega))
    refine xG_run 6 rfl (by repeat' (first | exact trivial | assumption | exact xob_b rfl | exact xal_b rfl | (apply And.intro) | decide)) ?_
    try dsimp only [xsto1, xsto2, xkill, xget, xset, gd_0, gd_s]
    try rw [hc8]
    try rw [hc9]
    rw [hzz]
    refine xG_run 1 rfl (by repeat' (first | exact trivial | assumption | exact xob_b rfl | exact xal_b rfl | (apply And.intro) | decide)) ?_
    try dsimp only [xsto1, xsto2, xkill, xget, xset, gd_0, gd_s]
    try rw [hc8]
    try rw [hc9]
    rw [h2z]
    refine xG_brF rfl (nI_ge hk (by omega)) ?_
    refine xG_run 8 rfl (by repeat' (first | exact trivial | assumption | exact xob_b rfl | exact xal_b rfl | (apply And.intro) | decide)) ?_
    try dsimp only [xsto1, xsto2, xkill, xget, xset, gd_0, gd_s]
    try rw [hc8]
    try rw [hc9]
    refine xG_run 3 rfl (by repeat' (first | exact trivial | assumption | exact xob_b rfl | exact xal_b rfl | (apply And.intro) | decide)) ?_
    try dsimp only [xsto1, xsto2, xkill, xget, xset, gd_0, gd_s]
    try rw [hc8]
    try rw [hc9]
    rw [(half16 k (by omega)).1]
    refine xG_run 1 rfl (by repeat' (first | exact trivial | assumption | exact xob_b rfl | exact xal_b rfl | (apply And.intro) | decide)) ?_
    try dsimp only [xsto1, xsto2, xkill, xget, xset, gd_0, gd_s]
    try rw [hc8]
    try rw [hc9]
    rw [ix120]
    refine xG_run 1 rfl (by repeat' (first | exact trivial | assumption | exact xob_b rfl | exact xal_b rfl | (apply And.intro) | decide)) ?_
    try dsimp only [xsto1, xsto2, xkill, xget, xset, gd_0, gd_s]
    try rw [hc8]
    try rw [hc9]
    rw [hel]
    refine xG_run 7 rfl (by repeat' (first | exact trivial | assumption | exact xob_b rfl | exact xal_b rfl | (apply And.intro) | decide)) ?_
    try dsimp only [xsto1, xsto2, xkill, xget, xset, gd_0, gd_s]
    try rw [hc8]
    try rw [hc9]
    rw [(half16 k (by omega)).2]
    refine xG_br rfl (fun h45 => ?_) (fun h45 => ?_)
    · have hc : ¬ k % 2 = 0 := fun q => h45 (by rw [q]; rfl)
      refine xG_run 2 rfl (by repeat' (first | exact trivial | assumption | exact xob_b rfl | exact xal_b rfl | (apply And.intro) | decide)) ?_
      try dsimp only [xsto1, xsto2, xkill, xget, xset, gd_0, gd_s]
      try rw [hc8]
      try rw [hc9]
      have hv3 : vFr M (sI (sI M2 167 1648 (E (k / 2))) 167 1649 (-1)) := vFr_t hF (vFr_t (vFr_i (Or.inl rfl)) (vFr_i (Or.inr rfl)))
      have hw3 := vFr_w (M := M2) (e := E (k / 2)) (sd := -1) (fun k q => (hF.1 _ _ (fun z => q z.2)).trans (hRM.1 k q))
      have hm3 := mR_R (mR_wind hm (hE9 (k / 2) (by omega)) (Or.inr rfl)) hw3
      have es : rSt (sI (sI M2 167 1648 (E (k / 2))) 167 1649 (-1)) np nr = rSt (wsR R (E (k / 2)) (-1)) np nr := rSt_c hw3 (hv3.2.1 _ _ |>.trans hRM.2)
      generalize hM3 : (sI (sI M2 167 1648 (E (k / 2))) 167 1649 (-1) : xM) = M3 at hv3 hm3 es ⊢
      refine xG_run 1 rfl (by repeat' (first | exact trivial | assumption | exact xob_b rfl | exact xal_b rfl | (apply And.intro) | decide)) ?_
      try dsimp only [xsto1, xsto2, xkill, xget, xset, gd_0, gd_s]
      try rw [hc8]
      try rw [hc9]
      refine xG_c2 0 rfl (by repeat' (first | exact trivial | assumption | exact xob_b rfl | exact xal_b rfl | (apply And.intro) | decide)) rfl rfl (by decide) cw_X12_standing (d' := d - 1) (e_rstanding hm3.2.1.2 hm3.1.1 hm3.2.2.1.2 hm3.1.2.1 (rPw hm3) (rQh hm3) (by omega)) (by omega) ?_
      rintro v M' ⟨rfl, hM⟩
      subst M'
      dsimp only [Option.toList, List.cons_append, List.nil_append]
      rw [show stN (rAll M3 np nr) 300 = rSt M3 np nr from rfl, es]
      refine xG_c2 1 rfl (by repeat' (first | exact trivial | assumption | exact xob_b rfl | exact xal_b rfl | (apply And.intro) | decide)) rfl rfl (by decide) cw_X12_amount (d' := d - 1) e_amount (by omega) ?_
      rintro v M' ⟨rfl, hM⟩
      subst M'
      dsimp only [Option.toList, List.cons_append, List.nil_append]
      refine xG_run 1 rfl (by repeat' (first | exact trivial | assumption | exact xob_b rfl | exact xal_b rfl | (apply And.intro) | decide)) ?_
      try dsimp only [xsto1, xsto2, xkill, xget, xset, gd_0, gd_s]
      try rw [hc8]
      try rw [hc9]
      refine xG_br rfl (fun h62 => ?_) (fun h62 => ?_)
      · refine xG_run 2 rfl (by repeat' (first | exact trivial | assumption | exact xob_b rfl | exact xal_b rfl | (apply And.intro) | decide)) ?_
        try dsimp only [xsto1, xsto2, xkill, xget, xset, gd_0, gd_s]
        try rw [hc8]
        try rw [hc9]
        rw [nI_1]
        refine ih _ ⟨M3, rfl, hv3, fun i hi => ?_⟩
        by_cases e : i = k
        · subst e
          rw [if_neg hc]; exact h62
        · exact hok i (by omega)
      · refine xG_run 1 rfl (by repeat' (first | exact trivial | assumption | exact xob_b rfl | exact xal_b rfl | (apply And.intro) | decide)) ?_
        try dsimp only [xsto1, xsto2, xkill, xget, xset, gd_0, gd_s]
        try rw [hc8]
        try rw [hc9]
        refine r2_z rfl rfl (by first | decide | assumption) ?_
        refine ⟨?_, hv3⟩
        have hnn : ¬ enP R np nr E z mo := fun q => h62 (q (k / 2) (by omega)).1
        rw [if_neg hnn]
    · have hc : k % 2 = 0 := by
        have h0 := congrArg Int32.toNatClampNeg (Decidable.not_not.mp h45)
        rw [nI_cl (by omega)] at h0
        exact h0
      refine xG_run 3 rfl (by repeat' (first | exact trivial | assumption | exact xob_b rfl | exact xal_b rfl | (apply And.intro) | decide)) ?_
      try dsimp only [xsto1, xsto2, xkill, xget, xset, gd_0, gd_s]
      try rw [hc8]
      try rw [hc9]
      have hv3 : vFr M (sI (sI M2 167 1648 (E (k / 2))) 167 1649 (1)) := vFr_t hF (vFr_t (vFr_i (Or.inl rfl)) (vFr_i (Or.inr rfl)))
      have hw3 := vFr_w (M := M2) (e := E (k / 2)) (sd := 1) (fun k q => (hF.1 _ _ (fun z => q z.2)).trans (hRM.1 k q))
      have hm3 := mR_R (mR_wind hm (hE9 (k / 2) (by omega)) (Or.inl rfl)) hw3
      have es : rSt (sI (sI M2 167 1648 (E (k / 2))) 167 1649 (1)) np nr = rSt (wsR R (E (k / 2)) (1)) np nr := rSt_c hw3 (hv3.2.1 _ _ |>.trans hRM.2)
      generalize hM3 : (sI (sI M2 167 1648 (E (k / 2))) 167 1649 (1) : xM) = M3 at hv3 hm3 es ⊢
      refine xG_run 1 rfl (by repeat' (first | exact trivial | assumption | exact xob_b rfl | exact xal_b rfl | (apply And.intro) | decide)) ?_
      try dsimp only [xsto1, xsto2, xkill, xget, xset, gd_0, gd_s]
      try rw [hc8]
      try rw [hc9]
      refine xG_c2 0 rfl (by repeat' (first | exact trivial | assumption | exact xob_b rfl | exact xal_b rfl | (apply And.intro) | decide)) rfl rfl (by decide) cw_X12_standing (d' := d - 1) (e_rstanding hm3.2.1.2 hm3.1.1 hm3.2.2.1.2 hm3.1.2.1 (rPw hm3) (rQh hm3) (by omega)) (by omega) ?_
      rintro v M' ⟨rfl, hM⟩
      subst M'
      dsimp only [Option.toList, List.cons_append, List.nil_append]
      rw [show stN (rAll M3 np nr) 300 = rSt M3 np nr from rfl, es]
      refine xG_c2 1 rfl (by repeat' (first | exact trivial | assumption | exact xob_b rfl | exact xal_b rfl | (apply And.intro) | decide)) rfl rfl (by decide) cw_X12_amount (d' := d - 1) e_amount (by omega) ?_
      rintro v M' ⟨rfl, hM⟩
      subst M'
      dsimp only [Option.toList, List.cons_append, List.nil_append]
      refine xG_run 1 rfl (by repeat' (first | exact trivial | assumption | exact xob_b rfl | exact xal_b rfl | (apply And.intro) | decide)) ?_
      try dsimp only [xsto1, xsto2, xkill, xget, xset, gd_0, gd_s]
      try rw [hc8]
      try rw [hc9]
      refine xG_br rfl (fun h62 => ?_) (fun h62 => ?_)
      · refine xG_run 2 rfl (by repeat' (first | exact trivial | assumption | exact xob_b rfl | exact xal_b rfl | (apply And.intro) | decide)) ?_
        try dsimp only [xsto1, xsto2, xkill, xget, xset, gd_0, gd_s]
        try rw [hc8]
        try rw [hc9]
        rw [nI_1]
        refine ih _ ⟨M3, rfl, hv3, fun i hi => ?_⟩
        by_cases e : i = k
        · subst e
          rw [if_pos hc]; exact h62
        · exact hok i (by omega)
      · refine xG_run 1 rfl (by repeat' (first | exact trivial | assumption | exact xob_b rfl | exact xal_b rfl | (apply And.intro) | decide)) ?_
        try dsimp only [xsto1, xsto2, xkill, xget, xset, gd_0, gd_s]
        try rw [hc8]
        try rw [hc9]
        refine r2_z rfl rfl (by first | decide | assumption) ?_
        refine ⟨?_, hv3⟩
        have hnn : ¬ enP R np nr E z mo := fun q => h62 (q (k / 2) (by omega)).2
        rw [if_neg hnn]
  · rintro X ⟨M2, rfl, hF, hok⟩
    have hs172 : xar 172 0 182 (nI j) := xar_n rfl 8 rfl hj (by omega)
    have hzz : gI M2 172 (nI j).toNatClampNeg = nI z := by rw [nI_cl (by omega)]; exact (hF.1 _ _ (by omega)).trans hz2
    have hs8 : xar 167 0 182 1648 := xar_n (j := 1648) rfl 1651 rfl (by omega) (by omega)
    have hs9 : xar 167 0 182 1649 := xar_n (j := 1649) rfl 1651 rfl (by omega) (by omega)
    have hc8 : (1648 : Int32).toNatClampNeg = 1648 := rfl
    have hc9 : (1649 : Int32).toNatClampNeg = 1649 := rfl
    have h2z : (2 : Int32) * nI z = nI (2 * z) := by show nI 2 * nI z = _; rw [pk_mul]
    refine xG_run 6 rfl (by repeat' (first | exact trivial | assumption | exact xob_b rfl | exact xal_b rfl | (apply And.intro) | decide)) ?_
    try dsimp only [xsto1, xsto2, xkill, xget, xset, gd_0, gd_s]
    rw [hzz]
    refine xG_run 1 rfl (by repeat' (first | exact trivial | assumption | exact xob_b rfl | exact xal_b rfl | (apply And.intro) | decide)) ?_
    try dsimp only [xsto1, xsto2, xkill, xget, xset, gd_0, gd_s]
    rw [h2z]
    refine xG_brT rfl (Int32.le_refl _) ?_
    refine xG_run 1 rfl (by repeat' (first | exact trivial | assumption | exact xob_b rfl | exact xal_b rfl | (apply And.intro) | decide)) ?_
    try dsimp only [xsto1, xsto2, xkill, xget, xset, gd_0, gd_s]
    refine r2_z rfl rfl (by first | decide | assumption) ?_
    refine ⟨?_, hF⟩
    have hall : enP R np nr E z mo := fun i hi => by
      refine ⟨?_, ?_⟩
      · have := hok (2 * i + 1) (by omega)
        rw [if_neg (by omega), show (2 * i + 1) / 2 = i by omega] at this
        exact this
      · have := hok (2 * i) (by omega)
        rw [if_pos (by omega), show (2 * i) / 2 = i by omega] at this
        exact this
    rw [if_pos hall]
