theorem isF_c {M M' : xM} {np nr : Nat} {ml mp : Int32} (h : ∀ k, gI M' 167 k = gI M 167 k) (hj : gJ M' 166 18 = gJ M 166 18) : isF M' np nr ml mp ↔ isF M np nr ml mp := by
  unfold isF
  rw [rSt_c h hj]
  simp only [rP_c h]
theorem mR_tU {C R : xM} {np nr ng U : Nat} {t : Int32} (hm : mR C 1 R 167 np nr ng) (ht9 : nr3 0 999 t) (S : Nat) : ∃ C', mR C' 1 (tgU R nr U S t) 167 np nr ng :=
  ⟨(fun x k => if k = 4 ∧ 16 ≤ x ∧ x < 28 then (if U.testBit (x - 16) = true ∧ S.testBit (x - 16) = false then t else rr R (x - 16) 4) else gI C x k, C.2.1, C.2.2),
   mR_tt hm (f := fun q => if U.testBit q = true ∧ S.testBit q = false then t else rr R q 4) (fun q hq => by
     by_cases c : U.testBit q = true ∧ S.testBit q = false
     · show nr3 0 999 (if _ then _ else _)
       rw [if_pos c]; exact ht9
     · show nr3 0 999 (if _ then _ else _)
       rw [if_neg c]; exact (r_qB hm hq).2.2.2.2.1) (fun x k q => if_neg (fun z => q ⟨z.1, by omega, by omega⟩)) (fun q hq => by
     have := hm.1.2.1
     show (if 4 = 4 ∧ 16 ≤ 1 + 15 + q ∧ 1 + 15 + q < 28 then _ else _) = _
     rw [if_pos ⟨rfl, by omega, by omega⟩, show 1 + 15 + q - 16 = q by omega]) (fun k q => tu_o q) (fun q hq => tu_i hq)⟩
theorem tu_clr {R : xM} {nr U S k y : Nat} {t : Int32} (hb : S.testBit k = true) (h : ¬ y = 70 + 6 * k + 4) : gI (tgU R nr U (S ^^^ 2 ^ k) t) 167 y = gI (tgU R nr U S t) 167 y := by
  by_cases c : 70 ≤ y ∧ (y - 70) % 6 = 4 ∧ (y - 70) / 6 < nr
  · have e : (S ^^^ 2 ^ k).testBit ((y - 70) / 6) = S.testBit ((y - 70) / 6) := by
      rw [clr_b hb, decide_eq_false (show ¬ k = (y - 70) / 6 by omega)]
      cases S.testBit ((y - 70) / 6) <;> rfl
    rw [tu_g, tu_g, e]
  · rw [tu_o c, tu_o c]
theorem go_M {M : xM} {a b : Nat} {t : Int32} (hab : ¬ a = b) (h : gI M 167 a = 0) : sI (sI (sI (sI M 167 a 2) 167 a 0) 167 b t) 167 b (gI M 167 b) = M := by
  refine xM_ext (fun x k => ?_) (fun _ _ => rfl) (fun _ _ => rfl)
  by_cases c : x = 167 ∧ k = b
  · rw [c.1, c.2]; exact gI_self _ _ _ _
  · rw [gI_ne (by omega), gI_ne (by omega)]
    by_cases c2 : x = 167 ∧ k = a
    · rw [c2.1, c2.2, gI_self]; exact h.symm
    · rw [gI_ne (by omega), gI_ne (by omega)]
theorem go_a {M R : xM} {nr U S k : Nat} {t : Int32} (hM : ∀ k, gI M 167 k = gI (tgU R nr U S t) 167 k) (y : Nat) : gI (sI M 167 (70 + 6 * k + 5) 2) 167 y = gI (ofR (tgU R nr U S t) k) 167 y := by
  unfold ofR
  by_cases c : y = 70 + 6 * k + 5
  · rw [c, gI_self, gI_self]
  · rw [gI_ne (by omega), gI_ne (a := 167) (by omega)]; exact hM y
theorem go_c {M R : xM} {nr U S k : Nat} {t : Int32} (hM : ∀ k, gI M 167 k = gI (tgU R nr U S t) 167 k) (hb : S.testBit k = true) (hU : U.testBit k = true) (hk : k < nr) (h0 : rr R k 5 = 0) (y : Nat) : gI (sI (sI (sI M 167 (70 + 6 * k + 5) 2) 167 (70 + 6 * k + 5) 0) 167 (70 + 6 * k + 4) t) 167 y = gI (tgU R nr U (S ^^^ 2 ^ k) t) 167 y := by
  by_cases c : y = 70 + 6 * k + 4
  · rw [c, gI_self, tu_i hk, if_pos ⟨hU, by rw [clr_b hb, decide_eq_true rfl]; cases S.testBit k <;> rfl⟩]
  · rw [gI_ne (by omega), tu_clr hb c]
    by_cases c2 : y = 70 + 6 * k + 5
    · rw [c2, gI_self, tu_o (by omega)]; exact h0.symm
    · rw [gI_ne (by omega), gI_ne (by omega)]; exact hM y
set_option maxRecDepth 4000 in
theorem e_goesOn {κ : xKK} {C R : xM} {np nr ng U : Nat} {t ml mp : Int32} (hm : mR C 1 R 167 np nr ng) (hml : ml ≤ 300) (ht9 : nr3 0 999 t) (h0 : ∀ q, q < nr → U.testBit q = true → rr R q 5 = 0) : ∀ (m S n d : Nat) (M : xM), bN S = m → S < 4096 → (∀ q, S.testBit q = true → U.testBit q = true) → n + m ≤ 6 → (∀ k, gI M 167 k = gI (tgU R nr U S t) 167 k) → gJ M 166 18 = gJ R 166 18 → (gI M 166 28 = ml ∧ gI M 166 29 = mp ∧ gI M 166 30 = t) → 8 + m ≤ d → xE2 κ mX12_goesOn d [.ref 166, .int (nI S), .int (nI n)] M (fun v M' => ((∃ w, Ord (oQ R np nr U t ml mp) S n w ∧ v = some (.long w)) ∨ (¬ Can (oQ R np nr U t ml mp) S ∧ v = some (.long (-1)))) ∧ M' = M) := by
  intro m
  induction m using Nat.strongRecOn with
  | _ m IH =>
  intro S n d M hbm hS hSU hnm hM hj hp hd
  have hn2 := hm.1.1
  have hr2 := hm.1.2.1
  have hnr : gI M 167 1644 = nI nr := (hM _).trans ((tu_o (by omega)).trans hm.2.2.1.2)
  have hc44 : (1644 : Int32).toNatClampNeg = 1644 := rfl
  have hs44 : xar 167 0 182 1644 := xar_n (j := 1644) rfl 1651 rfl (by omega) (by omega)
  refine xE2_of ci_X12_goesOn cl_X12_goesOn cw_X12_goesOn rfl (L := [some (.ref 166), some (.int (nI S)), some (.int (nI n)), none, none, none, none, none, none]) rfl ?_
  refine xG_run 1 rfl (by repeat' (first | exact trivial | assumption | exact xob_b rfl | exact xal_b rfl | (apply And.intro) | decide)) ?_
  try dsimp only [xsto1, xsto2, xkill, xget, xset, gd_0, gd_s]
  try rw [hc44]
  refine xG_br rfl (fun h1 => ?_) (fun h1 => ?_)
  · refine xG_run 2 rfl (by repeat' (first | exact trivial | assumption | exact xob_b rfl | exact xal_b rfl | (apply And.intro) | decide)) ?_
    try dsimp only [xsto1, xsto2, xkill, xget, xset, gd_0, gd_s]
    try rw [hc44]
    have hS0 : ¬ S = 0 := fun q => h1 (by rw [q]; rfl)
    have lp := xG_upP (κ := κ) (m := mX12_goesOn) (r := (d, 0, 0)) (YS := xRet mX12_goesOn false (fun v M' n' => n' = 182 ∧ (fun v M' => ((∃ w, Ord (oQ R np nr U t ml mp) S n w ∧ v = some (.long w)) ∨ (¬ Can (oQ R np nr U t ml mp) S ∧ v = some (.long (-1)))) ∧ M' = M) v M')) (fun k X => ∃ x4 x5 x6 x7 x8 : Option Value, X = (8, [some (.ref 166), some (.int (nI S)), some (.int (nI n)), some (.int (nI k)), x4, x5, x6, x7, x8], [], M, z2) ∧ ∀ i, i < k → ¬ dQ (oQ R np nr U t ml mp) S i) nr ?_ ?_ 0 (Nat.zero_le _)
    · exact lp _ ⟨_, _, _, _, _, rfl, fun i hi => absurd hi (Nat.not_lt_zero _)⟩
    · rintro k X hk ⟨x4, x5, x6, x7, x8, rfl, hok⟩ ih
      have hbt := xbd_nI (S := S) (i := k) (by omega)
      refine xG_run 5 rfl (by repeat' (first | exact trivial | assumption | exact xob_b rfl | exact xal_b rfl | (apply And.intro) | decide)) ?_
      try dsimp only [xsto1, xsto2, xkill, xget, xset, gd_0, gd_s]
      try rw [hc44]
      refine xG_brF rfl (by rw [hnr]; exact nI_ge hk (by omega)) ?_
      refine xG_run 5 rfl (by repeat' (first | exact trivial | assumption | exact xob_b rfl | exact xal_b rfl | (apply And.intro) | decide)) ?_
      try dsimp only [xsto1, xsto2, xkill, xget, xset, gd_0, gd_s]
      try rw [hc44]
      refine xG_br rfl (fun h25 => ?_) (fun h25 => ?_)
      · have hb : S.testBit k = true := hbt.mp ((a1_or _).resolve_left h25)
        have hU := hSU k hb
        have hz0 := h0 k hk hU
        have hb9 := bN_clr (by omega) hS hb
        have i4 : (70 : Int32) + 6 * nI k + 4 = nI (70 + 6 * k + 4) := ix6 k 4
        have i5 : nI (70 + 6 * k + 4) + 1 = nI (70 + 6 * k + 5) := nI_1 _
        have c4 : (nI (70 + 6 * k + 4)).toNatClampNeg = 70 + 6 * k + 4 := nI_cl (by omega)
        have c5 : (nI (70 + 6 * k + 5)).toNatClampNeg = 70 + 6 * k + 5 := nI_cl (by omega)
        have hs4 : xar 167 0 182 (nI (70 + 6 * k + 4)) := xar_n rfl 1651 rfl (by omega) (by omega)
        have hs5 : xar 167 0 182 (nI (70 + 6 * k + 5)) := xar_n rfl 1651 rfl (by omega) (by omega)
        obtain ⟨C1, m1⟩ := mR_tU (U := U) hm ht9 S
        have ma := mR_R (mR_rope (k := 5) (w := 2) m1 hk (Or.inr (Or.inr ⟨rfl, by decide, by decide⟩))) (go_a (k := k) hM)
        obtain ⟨C2, m2⟩ := mR_tU (U := U) hm ht9 (S ^^^ 2 ^ k)
        have hMc := go_c hM hb hU hk hz0
        have mc := mR_R m2 hMc
        have fa : isF (sI M 167 (70 + 6 * k + 5) 2) np nr ml mp ↔ isF (ofR (tgU R nr U S t) k) np nr ml mp := isF_c (go_a (k := k) hM) hj
        have fc : isF (sI (sI (sI M 167 (70 + 6 * k + 5) 2) 167 (70 + 6 * k + 5) 0) 167 (70 + 6 * k + 4) t) np nr ml mp ↔ isF (tgU R nr U (S ^^^ 2 ^ k) t) np nr ml mp := isF_c hMc hj
        have ht3 : gI (sI (sI M 167 (70 + 6 * k + 5) 2) 167 (70 + 6 * k + 5) 0) 166 30 = t := hp.2.2
        have hgo := go_M (M := M) (a := 70 + 6 * k + 5) (b := 70 + 6 * k + 4) (t := t) (by omega) ((hM _).trans ((tu_o (by omega)).trans hz0))
        have hcl := clr_nI (S := S) (r := k) (by omega) hb
        refine xG_run 7 rfl (by repeat' (first | exact trivial | assumption | exact xob_b rfl | exact xal_b rfl | (apply And.intro) | decide)) ?_
        try dsimp only [xsto1, xsto2, xkill, xget, xset, gd_0, gd_s]
        try rw [hc44]
        rw [i4]
        refine xG_run 5 rfl (by repeat' (first | exact trivial | assumption | exact xob_b rfl | exact xal_b rfl | (apply And.intro) | decide)) ?_
        try dsimp only [xsto1, xsto2, xkill, xget, xset, gd_0, gd_s]
        try rw [hc44]
        rw [c4]
        refine xG_run 6 rfl (by repeat' (first | exact trivial | assumption | exact xob_b rfl | exact xal_b rfl | (apply And.intro) | decide)) ?_
        try dsimp only [xsto1, xsto2, xkill, xget, xset, gd_0, gd_s]
        try rw [hc44]
        rw [i5]
        refine xG_run 2 rfl (by repeat' (first | exact trivial | assumption | exact xob_b rfl | exact xal_b rfl | (apply And.intro) | decide)) ?_
        try dsimp only [xsto1, xsto2, xkill, xget, xset, gd_0, gd_s]
        try rw [hc44]
        rw [c5]
        refine xG_run 1 rfl (by repeat' (first | exact trivial | assumption | exact xob_b rfl | exact xal_b rfl | (apply And.intro) | decide)) ?_
        try dsimp only [xsto1, xsto2, xkill, xget, xset, gd_0, gd_s]
        try rw [hc44]
        refine xG_c2 0 rfl (by repeat' (first | exact trivial | assumption | exact xob_b rfl | exact xal_b rfl | (apply And.intro) | decide)) rfl rfl (by decide) cw_X12_isSafe (d' := d - 1) (e_misSafe (ml := ml) (mp := mp) ma hp.1 hp.2.1 hml (by omega)) (by omega) ?_
        rintro v M' ⟨rfl, hM⟩
        subst M'
        dsimp only [Option.toList, List.cons_append, List.nil_append]
        refine xG_run 6 rfl (by repeat' (first | exact trivial | assumption | exact xob_b rfl | exact xal_b rfl | (apply And.intro) | decide)) ?_
        try dsimp only [xsto1, xsto2, xkill, xget, xset, gd_0, gd_s]
        try rw [hc44]
        rw [i5]
        refine xG_run 2 rfl (by repeat' (first | exact trivial | assumption | exact xob_b rfl | exact xal_b rfl | (apply And.intro) | decide)) ?_
        try dsimp only [xsto1, xsto2, xkill, xget, xset, gd_0, gd_s]
        try rw [hc44]
        rw [c5]
        refine xG_run 5 rfl (by repeat' (first | exact trivial | assumption | exact xob_b rfl | exact xal_b rfl | (apply And.intro) | decide)) ?_
        try dsimp only [xsto1, xsto2, xkill, xget, xset, gd_0, gd_s]
        try rw [hc44]
        rw [ht3]
        refine xG_run 1 rfl (by repeat' (first | exact trivial | assumption | exact xob_b rfl | exact xal_b rfl | (apply And.intro) | decide)) ?_
        try dsimp only [xsto1, xsto2, xkill, xget, xset, gd_0, gd_s]
        try rw [hc44]
        rw [c4]
        refine xG_run 1 rfl (by repeat' (first | exact trivial | assumption | exact xob_b rfl | exact xal_b rfl | (apply And.intro) | decide)) ?_
        try dsimp only [xsto1, xsto2, xkill, xget, xset, gd_0, gd_s]
        try rw [hc44]
        refine xG_br rfl (fun h90 => ?_) (fun h90 => ?_)
        · have b90 := z0.mp h90
          refine xG_run 7 rfl (by repeat' (first | exact trivial | assumption | exact xob_b rfl | exact xal_b rfl | (apply And.intro) | decide)) ?_
          try dsimp only [xsto1, xsto2, xkill, xget, xset, gd_0, gd_s]
          try rw [hc44]
          rw [c4, hgo]
          refine xG_run 3 rfl (by repeat' (first | exact trivial | assumption | exact xob_b rfl | exact xal_b rfl | (apply And.intro) | decide)) ?_
          try dsimp only [xsto1, xsto2, xkill, xget, xset, gd_0, gd_s]
          try rw [hc44]
          refine xG_br rfl (fun h135 => ?_) (fun h135 => ?_)
          · refine xG_run 2 rfl (by repeat' (first | exact trivial | assumption | exact xob_b rfl | exact xal_b rfl | (apply And.intro) | decide)) ?_
            try dsimp only [xsto1, xsto2, xkill, xget, xset, gd_0, gd_s]
            try rw [hc44]
            rw [nI_1]
            refine ih _ ⟨_, _, _, _, _, rfl, fun i hi => ?_⟩
            by_cases e : i = k
            · subst e; exact fun q => b90 (fa.mpr q.1.2.1)
            · exact hok i (by omega)
          · refine xG_run 8 rfl (by repeat' (first | exact trivial | assumption | exact xob_b rfl | exact xal_b rfl | (apply And.intro) | decide)) ?_
            try dsimp only [xsto1, xsto2, xkill, xget, xset, gd_0, gd_s]
            try rw [hc44]
            refine r2_l rfl rfl ?_
            exact absurd ((lg_lt0 _ _).mpr (show (-1 : Int64) < 0 by decide)) h135
        · have b90 := z1.mp h90
          refine xG_run 1 rfl (by repeat' (first | exact trivial | assumption | exact xob_b rfl | exact xal_b rfl | (apply And.intro) | decide)) ?_
          try dsimp only [xsto1, xsto2, xkill, xget, xset, gd_0, gd_s]
          try rw [hc44]
          refine xG_c2 0 rfl (by repeat' (first | exact trivial | assumption | exact xob_b rfl | exact xal_b rfl | (apply And.intro) | decide)) rfl rfl (by decide) cw_X12_isSafe (d' := d - 1) (e_misSafe (ml := ml) (mp := mp) mc hp.1 hp.2.1 hml (by omega)) (by omega) ?_
          rintro v M' ⟨rfl, hM⟩
          subst M'
          dsimp only [Option.toList, List.cons_append, List.nil_append]
          refine xG_br rfl (fun h97 => ?_) (fun h97 => ?_)
          · have b97 := z0.mp h97
            refine xG_run 7 rfl (by repeat' (first | exact trivial | assumption | exact xob_b rfl | exact xal_b rfl | (apply And.intro) | decide)) ?_
            try dsimp only [xsto1, xsto2, xkill, xget, xset, gd_0, gd_s]
            try rw [hc44]
            rw [c4, hgo]
            refine xG_run 3 rfl (by repeat' (first | exact trivial | assumption | exact xob_b rfl | exact xal_b rfl | (apply And.intro) | decide)) ?_
            try dsimp only [xsto1, xsto2, xkill, xget, xset, gd_0, gd_s]
            try rw [hc44]
            refine xG_br rfl (fun h135 => ?_) (fun h135 => ?_)
            · refine xG_run 2 rfl (by repeat' (first | exact trivial | assumption | exact xob_b rfl | exact xal_b rfl | (apply And.intro) | decide)) ?_
              try dsimp only [xsto1, xsto2, xkill, xget, xset, gd_0, gd_s]
              try rw [hc44]
              rw [nI_1]
              refine ih _ ⟨_, _, _, _, _, rfl, fun i hi => ?_⟩
              by_cases e : i = k
              · subst e; exact fun q => b97 (fc.mpr q.1.2.2)
              · exact hok i (by omega)
            · refine xG_run 8 rfl (by repeat' (first | exact trivial | assumption | exact xob_b rfl | exact xal_b rfl | (apply And.intro) | decide)) ?_
              try dsimp only [xsto1, xsto2, xkill, xget, xset, gd_0, gd_s]
              try rw [hc44]
              refine r2_l rfl rfl ?_
              exact absurd ((lg_lt0 _ _).mpr (show (-1 : Int64) < 0 by decide)) h135
          · have b97 := z1.mp h97
            refine xG_run 8 rfl (by repeat' (first | exact trivial | assumption | exact xob_b rfl | exact xal_b rfl | (apply And.intro) | decide)) ?_
            try dsimp only [xsto1, xsto2, xkill, xget, xset, gd_0, gd_s]
            try rw [hc44]
            rw [hcl]
            refine xG_run 3 rfl (by repeat' (first | exact trivial | assumption | exact xob_b rfl | exact xal_b rfl | (apply And.intro) | decide)) ?_
            try dsimp only [xsto1, xsto2, xkill, xget, xset, gd_0, gd_s]
            try rw [hc44]
            rw [nI_1]
            refine xG_c2 2 rfl (by repeat' (first | exact trivial | assumption | exact xob_b rfl | exact xal_b rfl | (apply And.intro) | decide)) rfl rfl (by decide) cw_X12_goesOn (d' := d - 1) (IH _ (show bN (S ^^^ 2 ^ k) < m by omega) (S ^^^ 2 ^ k) (n + 1) (d - 1) _ rfl (clr_lt (by omega) hS) (fun q hq => hSU q (by rw [clr_b hb] at hq; exact (Bool.and_eq_true_iff.mp hq).1)) (by omega) hMc hj ⟨hp.1, hp.2.1, hp.2.2⟩ (by omega)) (by omega) ?_
            rintro v M' ⟨hv, hM9⟩
            subst M'
            rcases hv with ⟨w, hw, rfl⟩ | ⟨hw, rfl⟩
            · have hO := hw
              refine xG_run 7 rfl (by repeat' (first | exact trivial | assumption | exact xob_b rfl | exact xal_b rfl | (apply And.intro) | decide)) ?_
              try dsimp only [xsto1, xsto2, xkill, xget, xset, gd_0, gd_s]
              try rw [hc44]
              rw [c4, hgo]
              refine xG_run 3 rfl (by repeat' (first | exact trivial | assumption | exact xob_b rfl | exact xal_b rfl | (apply And.intro) | decide)) ?_
              try dsimp only [xsto1, xsto2, xkill, xget, xset, gd_0, gd_s]
              try rw [hc44]
              refine xG_br rfl (fun h135 => ?_) (fun h135 => ?_)
              · refine xG_run 2 rfl (by repeat' (first | exact trivial | assumption | exact xob_b rfl | exact xal_b rfl | (apply And.intro) | decide)) ?_
                try dsimp only [xsto1, xsto2, xkill, xget, xset, gd_0, gd_s]
                try rw [hc44]
                exfalso
                obtain ⟨f9, hO9⟩ := hO
                have hge := (Ord_b (fun S r q => ⟨by have := q.1.1; omega, q.1.2⟩) hO9 (clr_lt (by omega) hS) (by omega)).1
                have hlt := (lg_lt0 _ _).mp h135
                rw [Int64.lt_iff_toInt_lt, show (0 : Int64).toInt = 0 by decide] at hlt
                omega
              · refine xG_run 8 rfl (by repeat' (first | exact trivial | assumption | exact xob_b rfl | exact xal_b rfl | (apply And.intro) | decide)) ?_
                try dsimp only [xsto1, xsto2, xkill, xget, xset, gd_0, gd_s]
                try rw [hc44]
                refine r2_l rfl rfl ?_
                have hq : dQ (oQ R np nr U t ml mp) S k := ⟨⟨⟨hk, hb⟩, fa.mp b90, fc.mp b97⟩, Ord_C hO⟩
                refine ⟨Or.inl ⟨_, Ord_s hq hok hO, ?_⟩, rfl⟩
                rw [shl64 n (by omega) k (by omega)]
            · have hN := hw
              refine xG_run 7 rfl (by repeat' (first | exact trivial | assumption | exact xob_b rfl | exact xal_b rfl | (apply And.intro) | decide)) ?_
              try dsimp only [xsto1, xsto2, xkill, xget, xset, gd_0, gd_s]
              try rw [hc44]
              rw [c4, hgo]
              refine xG_run 3 rfl (by repeat' (first | exact trivial | assumption | exact xob_b rfl | exact xal_b rfl | (apply And.intro) | decide)) ?_
              try dsimp only [xsto1, xsto2, xkill, xget, xset, gd_0, gd_s]
              try rw [hc44]
              refine xG_br rfl (fun h135 => ?_) (fun h135 => ?_)
              · refine xG_run 2 rfl (by repeat' (first | exact trivial | assumption | exact xob_b rfl | exact xal_b rfl | (apply And.intro) | decide)) ?_
                try dsimp only [xsto1, xsto2, xkill, xget, xset, gd_0, gd_s]
                try rw [hc44]
                rw [nI_1]
                refine ih _ ⟨_, _, _, _, _, rfl, fun i hi => ?_⟩
                by_cases e : i = k
                · subst e; exact fun q => hN q.2
                · exact hok i (by omega)
              · refine xG_run 8 rfl (by repeat' (first | exact trivial | assumption | exact xob_b rfl | exact xal_b rfl | (apply And.intro) | decide)) ?_
                try dsimp only [xsto1, xsto2, xkill, xget, xset, gd_0, gd_s]
                try rw [hc44]
                refine r2_l rfl rfl ?_
                exact absurd ((lg_lt0 _ _).mpr (show (-1 : Int64) < 0 by decide)) h135
      · have hb : ¬ S.testBit k = true := fun z => absurd ((hbt.mpr z).symm.trans (Decidable.not_not.mp h25)) (by decide)
        refine xG_run 3 rfl (by repeat' (first | exact trivial | assumption | exact xob_b rfl | exact xal_b rfl | (apply And.intro) | decide)) ?_
        try dsimp only [xsto1, xsto2, xkill, xget, xset, gd_0, gd_s]
        try rw [hc44]
        rw [nI_1]
        refine ih _ ⟨_, _, _, _, _, rfl, fun i hi => ?_⟩
        by_cases e : i = k
        · subst e; exact fun q => hb (q.1.1.2)
        · exact hok i (by omega)
    · rintro X ⟨x4, x5, x6, x7, x8, rfl, hok⟩
      refine xG_run 5 rfl (by repeat' (first | exact trivial | assumption | exact xob_b rfl | exact xal_b rfl | (apply And.intro) | decide)) ?_
      try dsimp only [xsto1, xsto2, xkill, xget, xset, gd_0, gd_s]
      try rw [hc44]
      refine xG_brT rfl (by rw [hnr]; exact Int32.le_refl _) ?_
      refine xG_run 1 rfl (by repeat' (first | exact trivial | assumption | exact xob_b rfl | exact xal_b rfl | (apply And.intro) | decide)) ?_
      try dsimp only [xsto1, xsto2, xkill, xget, xset, gd_0, gd_s]
      try rw [hc44]
      refine r2_l rfl rfl ?_
      refine ⟨Or.inr ⟨fun q => ?_, rfl⟩, rfl⟩
      obtain ⟨r, hr9⟩ := Can_0 q hS0
      exact hok r hr9.1.1.1 hr9
  · refine xG_run 1 rfl (by repeat' (first | exact trivial | assumption | exact xob_b rfl | exact xal_b rfl | (apply And.intro) | decide)) ?_
    try dsimp only [xsto1, xsto2, xkill, xget, xset, gd_0, gd_s]
    try rw [hc44]
    refine r2_l rfl rfl ?_
    have hS0 : S = 0 := by
      have h9 := congrArg Int32.toNatClampNeg (Decidable.not_not.mp h1)
      rw [nI_cl (by omega)] at h9
      exact h9
    subst hS0
    exact ⟨Or.inl ⟨0, Ord_d, rfl⟩, rfl⟩
