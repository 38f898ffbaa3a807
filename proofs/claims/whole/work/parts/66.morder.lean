def bK (U : Nat) : Nat → Nat
  | 0 => 0
  | k + 1 => bK U k + (if U.testBit k = true then 1 else 0)
theorem bK_all : (List.range 4096).all (fun U => bK U 12 == bN U) = true := by decide +kernel
theorem bK_n {U : Nat} (h : U < 4096) : bK U 12 = bN U := eq_of_beq (List.all_eq_true.mp bK_all U (List.mem_range.mpr h))
theorem bK_le (U : Nat) : ∀ k, bK U k ≤ k
  | 0 => Nat.le_refl _
  | k + 1 => by
    have := bK_le U k
    unfold bK
    split <;> omega
def gO (M : xM) (nr : Nat) (x t ml mp : Int32) (U : Nat) : Prop := (x = nI U ∧ 1 ≤ U ∧ U < 2 ^ nr) ∧ (0 ≤ t ∧ t ≤ 999) ∧ (0 ≤ ml ∧ ml ≤ 300) ∧ (1 ≤ mp ∧ mp ≤ 9999) ∧ (∀ q, q < nr → U.testBit q = true → rr M q 5 = 0) ∧ bN U ≤ 6
theorem nI_injb {a b : Nat} (ha : a < 4096) (hb : b < 4096) (h : nI b = nI a) : a = b := by
  have := congrArg Int32.toNatClampNeg h
  rw [nI_cl (by omega), nI_cl (by omega)] at this
  exact this.symm
theorem nI_sb1 {n : Nat} (h : 1 ≤ n) : nI n - 1 = nI (n - 1) := by
  have := nI_1 (n - 1)
  rw [show n - 1 + 1 = n by omega] at this
  rw [← this, Int32.add_sub_cancel]
theorem nI_ge1 {n : Nat} (h : n < 2147483648) (h1 : (1 : Int32) ≤ nI n) : 1 ≤ n := (nI_leI (a := 1) (b := n) (by omega) h).mp h1
set_option maxRecDepth 4000 in
theorem e_m_order {κ : xKK} {d : Nat} {M : xM} {np nr ng : Nat} {C : xM} (hm : mR C 1 M 167 np nr ng) {x t ml mp : Int32} (hj0 : gJ M 166 18 = 0) (hd : 16 ≤ d) : xE2 κ mX12_order d [.ref 166, .int x, .int t, .int ml, .int mp] M (fun v M' => ((∃ U, gO M nr x t ml mp U ∧ ((∃ w, Ord (oQ M np nr U t ml mp) U 0 w ∧ v = some (.long w)) ∨ (¬ Can (oQ M np nr U t ml mp) U ∧ v = some (.long (-4))))) ∨ (¬ (∃ U, gO M nr x t ml mp U) ∧ v = some (.long (-1)))) ∧ rkF M M') := by
  refine xE2_of ci_X12_order cl_X12_order cw_X12_order rfl (L := [some (.ref 166), some (.int x), some (.int t), some (.int ml), some (.int mp), none, none, none, none]) rfl ?_
  have hn := hm.2.1.2
  have hn2 := hm.1.1
  have hr := hm.2.2.1.2
  have hr2 := hm.1.2.1
  have hw := rPw hm
  have hh := rQh hm
  have hc44 : (1644 : Int32).toNatClampNeg = 1644 := rfl
  have hs44 : xar 167 0 182 1644 := xar_n (j := 1644) rfl 1651 rfl (by omega) (by omega)
  have hsh1 := shl_p nr (by omega)
  have hpw : 2 ^ nr ≤ 4096 := Nat.pow_le_pow_right (n := 2) (by omega) (show nr ≤ 12 from hr2)
  have hp1 : 1 ≤ 2 ^ nr := Nat.one_le_two_pow
  have hps : nI (2 ^ nr) - 1 = nI (2 ^ nr - 1) := nI_sb1 hp1
  have rng : ∀ {U : Nat}, (x = nI U ∧ 1 ≤ U ∧ U < 2 ^ nr) → 1 ≤ x ∧ x ≤ nI (2 ^ nr) - 1 := fun {U} q => by
    rw [q.1, hps]
    exact ⟨nI_le (a := 1) q.2.1 (by omega), nI_le (by omega) (by omega)⟩
  refine xG_run 8 rfl (by repeat' (first | exact trivial | assumption | exact xob_b rfl | exact xal_b rfl | (apply And.intro) | decide)) ?_
  try dsimp only [xsto1, xsto2, xkill, xget, xset, gd_0, gd_s]
  try rw [hc44]
  refine xG_run 2 rfl (by repeat' (first | exact trivial | assumption | exact xob_b rfl | exact xal_b rfl | (apply And.intro) | decide)) ?_
  try dsimp only [xsto1, xsto2, xkill, xget, xset, gd_0, gd_s]
  try rw [hc44]
  rw [hr]
  refine xG_run 1 rfl (by repeat' (first | exact trivial | assumption | exact xob_b rfl | exact xal_b rfl | (apply And.intro) | decide)) ?_
  try dsimp only [xsto1, xsto2, xkill, xget, xset, gd_0, gd_s]
  try rw [hc44]
  rw [hsh1]
  refine xG_run 3 rfl (by repeat' (first | exact trivial | assumption | exact xob_b rfl | exact xal_b rfl | (apply And.intro) | decide)) ?_
  try dsimp only [xsto1, xsto2, xkill, xget, xset, gd_0, gd_s]
  try rw [hc44]
  refine xG_c2 3 rfl (by repeat' (first | exact trivial | assumption | exact xob_b rfl | exact xal_b rfl | (apply And.intro) | decide)) rfl rfl (by decide) cw_X12_isIn (d' := d - 1) (e_isIn (c := 1 ≤ x ∧ x ≤ nI (2 ^ nr) - 1) (in32 rfl (Int32.toInt_toInt64 _).symm)) (by omega) ?_
  rintro v M' ⟨rfl, hM⟩
  subst M'
  dsimp only [Option.toList, List.cons_append, List.nil_append]
  refine xG_br rfl (fun h22 => ?_) (fun h22 => ?_)
  · have b22 := z0.mp h22
    refine xG_run 4 rfl (by repeat' (first | exact trivial | assumption | exact xob_b rfl | exact xal_b rfl | (apply And.intro) | decide)) ?_
    try dsimp only [xsto1, xsto2, xkill, xget, xset, gd_0, gd_s]
    try rw [hc44]
    refine xG_run 2 rfl (by repeat' (first | exact trivial | assumption | exact xob_b rfl | exact xal_b rfl | (apply And.intro) | decide)) ?_
    try dsimp only [xsto1, xsto2, xkill, xget, xset, gd_0, gd_s]
    try rw [hc44]
    refine xG_brF rfl (by decide) ?_
    refine xG_run 1 rfl (by repeat' (first | exact trivial | assumption | exact xob_b rfl | exact xal_b rfl | (apply And.intro) | decide)) ?_
    try dsimp only [xsto1, xsto2, xkill, xget, xset, gd_0, gd_s]
    try rw [hc44]
    refine xG_brT rfl (by decide) ?_
    refine xG_run 1 rfl (by repeat' (first | exact trivial | assumption | exact xob_b rfl | exact xal_b rfl | (apply And.intro) | decide)) ?_
    try dsimp only [xsto1, xsto2, xkill, xget, xset, gd_0, gd_s]
    try rw [hc44]
    refine xG_brT rfl (by decide) ?_
    refine xG_run 1 rfl (by repeat' (first | exact trivial | assumption | exact xob_b rfl | exact xal_b rfl | (apply And.intro) | decide)) ?_
    try dsimp only [xsto1, xsto2, xkill, xget, xset, gd_0, gd_s]
    try rw [hc44]
    refine r2_l rfl rfl ?_
    exact ⟨Or.inr ⟨fun ⟨U, q⟩ => b22 (rng q.1), rfl⟩, rkF_r⟩
  · have b22 := z1.mp h22
    refine xG_run 4 rfl (by repeat' (first | exact trivial | assumption | exact xob_b rfl | exact xal_b rfl | (apply And.intro) | decide)) ?_
    try dsimp only [xsto1, xsto2, xkill, xget, xset, gd_0, gd_s]
    try rw [hc44]
    refine xG_c2 3 rfl (by repeat' (first | exact trivial | assumption | exact xob_b rfl | exact xal_b rfl | (apply And.intro) | decide)) rfl rfl (by decide) cw_X12_isIn (d' := d - 1) (e_isIn (c := 0 ≤ t ∧ t ≤ 999) (in32 rfl rfl)) (by omega) ?_
    rintro v M' ⟨rfl, hM⟩
    subst M'
    dsimp only [Option.toList, List.cons_append, List.nil_append]
    refine xG_br rfl (fun h34 => ?_) (fun h34 => ?_)
    · have b34 := z0.mp h34
      refine xG_run 4 rfl (by repeat' (first | exact trivial | assumption | exact xob_b rfl | exact xal_b rfl | (apply And.intro) | decide)) ?_
      try dsimp only [xsto1, xsto2, xkill, xget, xset, gd_0, gd_s]
      try rw [hc44]
      refine xG_run 2 rfl (by repeat' (first | exact trivial | assumption | exact xob_b rfl | exact xal_b rfl | (apply And.intro) | decide)) ?_
      try dsimp only [xsto1, xsto2, xkill, xget, xset, gd_0, gd_s]
      try rw [hc44]
      refine xG_brF rfl (by decide) ?_
      refine xG_run 1 rfl (by repeat' (first | exact trivial | assumption | exact xob_b rfl | exact xal_b rfl | (apply And.intro) | decide)) ?_
      try dsimp only [xsto1, xsto2, xkill, xget, xset, gd_0, gd_s]
      try rw [hc44]
      refine xG_brT rfl (by decide) ?_
      refine xG_run 1 rfl (by repeat' (first | exact trivial | assumption | exact xob_b rfl | exact xal_b rfl | (apply And.intro) | decide)) ?_
      try dsimp only [xsto1, xsto2, xkill, xget, xset, gd_0, gd_s]
      try rw [hc44]
      refine xG_brT rfl (by decide) ?_
      refine xG_run 1 rfl (by repeat' (first | exact trivial | assumption | exact xob_b rfl | exact xal_b rfl | (apply And.intro) | decide)) ?_
      try dsimp only [xsto1, xsto2, xkill, xget, xset, gd_0, gd_s]
      try rw [hc44]
      refine r2_l rfl rfl ?_
      exact ⟨Or.inr ⟨fun ⟨U, q⟩ => b34 q.2.1, rfl⟩, rkF_r⟩
    · have b34 := z1.mp h34
      refine xG_run 4 rfl (by repeat' (first | exact trivial | assumption | exact xob_b rfl | exact xal_b rfl | (apply And.intro) | decide)) ?_
      try dsimp only [xsto1, xsto2, xkill, xget, xset, gd_0, gd_s]
      try rw [hc44]
      refine xG_c2 3 rfl (by repeat' (first | exact trivial | assumption | exact xob_b rfl | exact xal_b rfl | (apply And.intro) | decide)) rfl rfl (by decide) cw_X12_isIn (d' := d - 1) (e_isIn (c := 0 ≤ ml ∧ ml ≤ 300) (in32 rfl rfl)) (by omega) ?_
      rintro v M' ⟨rfl, hM⟩
      subst M'
      dsimp only [Option.toList, List.cons_append, List.nil_append]
      refine xG_br rfl (fun h46 => ?_) (fun h46 => ?_)
      · have b46 := z0.mp h46
        refine xG_run 4 rfl (by repeat' (first | exact trivial | assumption | exact xob_b rfl | exact xal_b rfl | (apply And.intro) | decide)) ?_
        try dsimp only [xsto1, xsto2, xkill, xget, xset, gd_0, gd_s]
        try rw [hc44]
        refine xG_run 2 rfl (by repeat' (first | exact trivial | assumption | exact xob_b rfl | exact xal_b rfl | (apply And.intro) | decide)) ?_
        try dsimp only [xsto1, xsto2, xkill, xget, xset, gd_0, gd_s]
        try rw [hc44]
        refine xG_brF rfl (by decide) ?_
        refine xG_run 1 rfl (by repeat' (first | exact trivial | assumption | exact xob_b rfl | exact xal_b rfl | (apply And.intro) | decide)) ?_
        try dsimp only [xsto1, xsto2, xkill, xget, xset, gd_0, gd_s]
        try rw [hc44]
        refine xG_brT rfl (by decide) ?_
        refine xG_run 1 rfl (by repeat' (first | exact trivial | assumption | exact xob_b rfl | exact xal_b rfl | (apply And.intro) | decide)) ?_
        try dsimp only [xsto1, xsto2, xkill, xget, xset, gd_0, gd_s]
        try rw [hc44]
        refine xG_brT rfl (by decide) ?_
        refine xG_run 1 rfl (by repeat' (first | exact trivial | assumption | exact xob_b rfl | exact xal_b rfl | (apply And.intro) | decide)) ?_
        try dsimp only [xsto1, xsto2, xkill, xget, xset, gd_0, gd_s]
        try rw [hc44]
        refine r2_l rfl rfl ?_
        exact ⟨Or.inr ⟨fun ⟨U, q⟩ => b46 q.2.2.1, rfl⟩, rkF_r⟩
      · have b46 := z1.mp h46
        refine xG_run 4 rfl (by repeat' (first | exact trivial | assumption | exact xob_b rfl | exact xal_b rfl | (apply And.intro) | decide)) ?_
        try dsimp only [xsto1, xsto2, xkill, xget, xset, gd_0, gd_s]
        try rw [hc44]
        refine xG_c2 3 rfl (by repeat' (first | exact trivial | assumption | exact xob_b rfl | exact xal_b rfl | (apply And.intro) | decide)) rfl rfl (by decide) cw_X12_isIn (d' := d - 1) (e_isIn (c := 1 ≤ mp ∧ mp ≤ 9999) (in32 rfl rfl)) (by omega) ?_
        rintro v M' ⟨rfl, hM⟩
        subst M'
        dsimp only [Option.toList, List.cons_append, List.nil_append]
        refine xG_br rfl (fun h59 => ?_) (fun h59 => ?_)
        · have b59 := z0.mp h59
          refine xG_run 4 rfl (by repeat' (first | exact trivial | assumption | exact xob_b rfl | exact xal_b rfl | (apply And.intro) | decide)) ?_
          try dsimp only [xsto1, xsto2, xkill, xget, xset, gd_0, gd_s]
          try rw [hc44]
          refine xG_run 2 rfl (by repeat' (first | exact trivial | assumption | exact xob_b rfl | exact xal_b rfl | (apply And.intro) | decide)) ?_
          try dsimp only [xsto1, xsto2, xkill, xget, xset, gd_0, gd_s]
          try rw [hc44]
          refine xG_brF rfl (by decide) ?_
          refine xG_run 1 rfl (by repeat' (first | exact trivial | assumption | exact xob_b rfl | exact xal_b rfl | (apply And.intro) | decide)) ?_
          try dsimp only [xsto1, xsto2, xkill, xget, xset, gd_0, gd_s]
          try rw [hc44]
          refine xG_brT rfl (by decide) ?_
          refine xG_run 1 rfl (by repeat' (first | exact trivial | assumption | exact xob_b rfl | exact xal_b rfl | (apply And.intro) | decide)) ?_
          try dsimp only [xsto1, xsto2, xkill, xget, xset, gd_0, gd_s]
          try rw [hc44]
          refine xG_brT rfl (by decide) ?_
          refine xG_run 1 rfl (by repeat' (first | exact trivial | assumption | exact xob_b rfl | exact xal_b rfl | (apply And.intro) | decide)) ?_
          try dsimp only [xsto1, xsto2, xkill, xget, xset, gd_0, gd_s]
          try rw [hc44]
          refine r2_l rfl rfl ?_
          exact ⟨Or.inr ⟨fun ⟨U, q⟩ => b59 q.2.2.2.1, rfl⟩, rkF_r⟩
        · have b59 := z1.mp h59
          refine xG_run 5 rfl (by repeat' (first | exact trivial | assumption | exact xob_b rfl | exact xal_b rfl | (apply And.intro) | decide)) ?_
          try dsimp only [xsto1, xsto2, xkill, xget, xset, gd_0, gd_s]
          try rw [hc44]
          obtain ⟨U, hU9, rfl⟩ := nI_of3 (x := x) (n := 2 ^ nr - 1) (Int32.le_trans (by decide) b22.1) (by rw [← hps]; exact b22.2) (by omega)
          have hU1 : 1 ≤ U := nI_ge1 (by omega) b22.1
          have hUn : U < 2 ^ nr := by omega
          have hU4 : U < 4096 := by omega
          have hbk := bK_n hU4
          have hb12 := bK_le U 12
          have ht9 : nr3 0 999 t := ⟨by have := b34.1; rw [Int32.le_iff_toInt_le] at this; exact this, lI (k := 999) b34.2 (by omega)⟩
          have hkn : ∀ {k : Nat}, U.testBit k = true → k < nr := fun {k} z => by
            by_cases c : k < nr
            · exact c
            · rw [Nat.testBit_lt_two_pow (Nat.lt_of_lt_of_le hUn (Nat.pow_le_pow_right (by omega) (by omega)))] at z
              cases z
          have lp := xG_upP (κ := κ) (m := mX12_order) (r := (d, 0, 0)) (YS := xRet mX12_order false (fun v M' n' => n' = 182 ∧ (((∃ U', gO M nr (nI U) t ml mp U' ∧ ((∃ w, Ord (oQ M np nr U' t ml mp) U' 0 w ∧ v = some (.long w)) ∨ (¬ Can (oQ M np nr U' t ml mp) U' ∧ v = some (.long (-4))))) ∨ (¬ (∃ U', gO M nr (nI U) t ml mp U') ∧ v = some (.long (-1)))) ∧ rkF M M'))) (fun k X => X = (72, [some (.ref 166), some (.int (nI U)), some (.int t), some (.int ml), some (.int mp), some (.int (nI (bK U k))), some (.int 1), some (.int (nI k)), none], [], M, z2) ∧ ∀ i, i < k → U.testBit i = true → rr M i 5 = 0) 12 ?_ ?_ 0 (Nat.zero_le _)
          · exact lp _ ⟨rfl, fun i hi => absurd hi (Nat.not_lt_zero _)⟩
          · rintro k X hk ⟨rfl, hok⟩ ih
            have hbt := xbd_nI (S := U) (i := k) (by omega)
            refine xG_run 2 rfl (by repeat' (first | exact trivial | assumption | exact xob_b rfl | exact xal_b rfl | (apply And.intro) | decide)) ?_
            try dsimp only [xsto1, xsto2, xkill, xget, xset, gd_0, gd_s]
            try rw [hc44]
            refine xG_brF rfl (show ¬ nI 12 ≤ nI k from nI_ge hk (by omega)) ?_
            refine xG_run 1 rfl (by repeat' (first | exact trivial | assumption | exact xob_b rfl | exact xal_b rfl | (apply And.intro) | decide)) ?_
            try dsimp only [xsto1, xsto2, xkill, xget, xset, gd_0, gd_s]
            try rw [hc44]
            refine xG_brF rfl (by decide) ?_
            refine xG_run 5 rfl (by repeat' (first | exact trivial | assumption | exact xob_b rfl | exact xal_b rfl | (apply And.intro) | decide)) ?_
            try dsimp only [xsto1, xsto2, xkill, xget, xset, gd_0, gd_s]
            try rw [hc44]
            refine xG_br rfl (fun h90 => ?_) (fun h90 => ?_)
            · refine xG_run 4 rfl (by repeat' (first | exact trivial | assumption | exact xob_b rfl | exact xal_b rfl | (apply And.intro) | decide)) ?_
              try dsimp only [xsto1, xsto2, xkill, xget, xset, gd_0, gd_s]
              try rw [hc44]
              refine xG_c2 2 rfl (by repeat' (first | exact trivial | assumption | exact xob_b rfl | exact xal_b rfl | (apply And.intro) | decide)) rfl rfl (by decide) cw_X12_rope0 (d' := d - 1) (e_rope0 (p := k) (k := 5) rfl rfl (by omega)) (by omega) ?_
              rintro v M' ⟨rfl, hM⟩
              subst M'
              dsimp only [Option.toList, List.cons_append, List.nil_append]
              refine xG_br rfl (fun h106 => ?_) (fun h106 => ?_)
              · refine xG_run 4 rfl (by repeat' (first | exact trivial | assumption | exact xob_b rfl | exact xal_b rfl | (apply And.intro) | decide)) ?_
                try dsimp only [xsto1, xsto2, xkill, xget, xset, gd_0, gd_s]
                try rw [hc44]
                rw [nI_1 k, nI_1]
                have hb : U.testBit k = true := hbt.mp ((a1_or _).resolve_left h90)
                refine xG_run 2 rfl (by repeat' (first | exact trivial | assumption | exact xob_b rfl | exact xal_b rfl | (apply And.intro) | decide)) ?_
                try dsimp only [xsto1, xsto2, xkill, xget, xset, gd_0, gd_s]
                try rw [hc44]
                refine xG_br rfl (fun h76 => ?_) (fun h76 => ?_)
                · refine xG_run 1 rfl (by repeat' (first | exact trivial | assumption | exact xob_b rfl | exact xal_b rfl | (apply And.intro) | decide)) ?_
                  try dsimp only [xsto1, xsto2, xkill, xget, xset, gd_0, gd_s]
                  try rw [hc44]
                  refine xG_brT rfl (by decide) ?_
                  refine xG_run 1 rfl (by repeat' (first | exact trivial | assumption | exact xob_b rfl | exact xal_b rfl | (apply And.intro) | decide)) ?_
                  try dsimp only [xsto1, xsto2, xkill, xget, xset, gd_0, gd_s]
                  try rw [hc44]
                  refine r2_l rfl rfl ?_
                  refine ⟨Or.inr ⟨fun ⟨U', q⟩ => ?_, rfl⟩, rkF_r⟩
                  have eU : U' = U := nI_injb (Nat.lt_of_lt_of_le q.1.2.2 hpw) (by omega) q.1.1
                  subst eU
                  exact h106 (q.2.2.2.2.1 k (hkn hb) hb)
                · refine xG_run 1 rfl (by repeat' (first | exact trivial | assumption | exact xob_b rfl | exact xal_b rfl | (apply And.intro) | decide)) ?_
                  try dsimp only [xsto1, xsto2, xkill, xget, xset, gd_0, gd_s]
                  try rw [hc44]
                  refine xG_brT rfl (by decide) ?_
                  refine xG_run 1 rfl (by repeat' (first | exact trivial | assumption | exact xob_b rfl | exact xal_b rfl | (apply And.intro) | decide)) ?_
                  try dsimp only [xsto1, xsto2, xkill, xget, xset, gd_0, gd_s]
                  try rw [hc44]
                  refine xG_brT rfl (by decide) ?_
                  refine xG_run 1 rfl (by repeat' (first | exact trivial | assumption | exact xob_b rfl | exact xal_b rfl | (apply And.intro) | decide)) ?_
                  try dsimp only [xsto1, xsto2, xkill, xget, xset, gd_0, gd_s]
                  try rw [hc44]
                  refine r2_l rfl rfl ?_
                  refine ⟨Or.inr ⟨fun ⟨U', q⟩ => ?_, rfl⟩, rkF_r⟩
                  have eU : U' = U := nI_injb (Nat.lt_of_lt_of_le q.1.2.2 hpw) (by omega) q.1.1
                  subst eU
                  exact h106 (q.2.2.2.2.1 k (hkn hb) hb)
              · refine xG_run 5 rfl (by repeat' (first | exact trivial | assumption | exact xob_b rfl | exact xal_b rfl | (apply And.intro) | decide)) ?_
                try dsimp only [xsto1, xsto2, xkill, xget, xset, gd_0, gd_s]
                try rw [hc44]
                rw [nI_1 k, nI_1]
                have hb : U.testBit k = true := hbt.mp ((a1_or _).resolve_left h90)
                rw [show bK U k + 1 = bK U (k + 1) from (show bK U k + (if U.testBit k = true then 1 else 0) = bK U k + 1 by rw [if_pos hb]).symm]
                refine ih _ ⟨rfl, fun i hi hi2 => ?_⟩
                by_cases e : i = k
                · subst e; exact Decidable.not_not.mp h106
                · exact hok i (by omega) hi2
            · refine xG_run 3 rfl (by repeat' (first | exact trivial | assumption | exact xob_b rfl | exact xal_b rfl | (apply And.intro) | decide)) ?_
              try dsimp only [xsto1, xsto2, xkill, xget, xset, gd_0, gd_s]
              try rw [hc44]
              rw [nI_1]
              have hb : ¬ U.testBit k = true := fun z => absurd ((hbt.mpr z).symm.trans (Decidable.not_not.mp h90)) (by decide)
              rw [show bK U k = bK U (k + 1) from (if_neg hb ▸ rfl : bK U k + (if U.testBit k = true then 1 else 0) = bK U k).symm]
              refine ih _ ⟨rfl, fun i hi hi2 => ?_⟩
              by_cases e : i = k
              · subst e; exact absurd hi2 hb
              · exact hok i (by omega) hi2
          · rintro X ⟨rfl, hok⟩
            refine xG_run 2 rfl (by repeat' (first | exact trivial | assumption | exact xob_b rfl | exact xal_b rfl | (apply And.intro) | decide)) ?_
            try dsimp only [xsto1, xsto2, xkill, xget, xset, gd_0, gd_s]
            try rw [hc44]
            refine xG_brT rfl (by decide) ?_
            refine xG_run 1 rfl (by repeat' (first | exact trivial | assumption | exact xob_b rfl | exact xal_b rfl | (apply And.intro) | decide)) ?_
            try dsimp only [xsto1, xsto2, xkill, xget, xset, gd_0, gd_s]
            try rw [hc44]
            refine xG_brF rfl (by decide) ?_
            refine xG_run 2 rfl (by repeat' (first | exact trivial | assumption | exact xob_b rfl | exact xal_b rfl | (apply And.intro) | decide)) ?_
            try dsimp only [xsto1, xsto2, xkill, xget, xset, gd_0, gd_s]
            try rw [hc44]
            refine xG_br rfl (fun h131 => ?_) (fun h131 => ?_)
            · have hgood : bN U ≤ 6 := by rw [← hbk]; exact (nI_leI (a := bK U 12) (b := 6) (by omega) (by omega)).mp h131
              have hg : gO M nr (nI U) t ml mp U := ⟨⟨rfl, hU1, hUn⟩, b34, b46, b59, fun q hq => hok q (by omega), hgood⟩
              have hMU : ∀ k, gI (sI (sI (sI M 166 30 t) 166 28 ml) 166 29 mp) 167 k = gI (tgU M nr U U t) 167 k := fun k => by
                rw [tu_g, if_neg (fun z => by have := z.2.2.2.2.1.symm.trans z.2.2.2.2.2; cases this)]
                exact (gI_ne (by omega)).trans ((gI_ne (by omega)).trans (gI_ne (by omega)))
              have hpp : gI (sI (sI (sI M 166 30 t) 166 28 ml) 166 29 mp) 166 28 = ml ∧ gI (sI (sI (sI M 166 30 t) 166 28 ml) 166 29 mp) 166 29 = mp ∧ gI (sI (sI (sI M 166 30 t) 166 28 ml) 166 29 mp) 166 30 = t := ⟨(gI_ne (Or.inr (by decide))).trans (gI_self _ _ _ _), gI_self _ _ _ _, (gI_ne (Or.inr (by decide))).trans ((gI_ne (Or.inr (by decide))).trans (gI_self _ _ _ _))⟩
              have hrk : rkF M (sI (sI (sI M 166 30 t) 166 28 ml) 166 29 mp) := rkF_t (rkF_t (rkF_i (Or.inl ⟨rfl, by decide⟩)) (rkF_i (Or.inl ⟨rfl, by decide⟩))) (rkF_i (Or.inl ⟨rfl, by decide⟩))
              refine xG_run 8 rfl (by repeat' (first | exact trivial | assumption | exact xob_b rfl | exact xal_b rfl | (apply And.intro) | decide)) ?_
              try dsimp only [xsto1, xsto2, xkill, xget, xset, gd_0, gd_s]
              try rw [hc44]
              refine xG_run 4 rfl (by repeat' (first | exact trivial | assumption | exact xob_b rfl | exact xal_b rfl | (apply And.intro) | decide)) ?_
              try dsimp only [xsto1, xsto2, xkill, xget, xset, gd_0, gd_s]
              try rw [hc44]
              refine xG_c2 2 rfl (by repeat' (first | exact trivial | assumption | exact xob_b rfl | exact xal_b rfl | (apply And.intro) | decide)) rfl rfl (by decide) cw_X12_goesOn (d' := d - 1) (e_goesOn (U := U) (t := t) (ml := ml) (mp := mp) hm b46.2 ht9 (fun q hq hq2 => hok q (by omega) hq2) (bN U) U 0 (d - 1) _ rfl hU4 (fun _ q => q) (by omega) hMU rfl hpp (by omega)) (by omega) ?_
              rintro v M' ⟨hv, hM9⟩
              subst M'
              rcases hv with ⟨w, hw, rfl⟩ | ⟨hw, rfl⟩
              · have hO := hw
                refine xG_run 4 rfl (by repeat' (first | exact trivial | assumption | exact xob_b rfl | exact xal_b rfl | (apply And.intro) | decide)) ?_
                try dsimp only [xsto1, xsto2, xkill, xget, xset, gd_0, gd_s]
                try rw [hc44]
                refine xG_br rfl (fun h166 => ?_) (fun h166 => ?_)
                · refine xG_run 1 rfl (by repeat' (first | exact trivial | assumption | exact xob_b rfl | exact xal_b rfl | (apply And.intro) | decide)) ?_
                  try dsimp only [xsto1, xsto2, xkill, xget, xset, gd_0, gd_s]
                  try rw [hc44]
                  refine r2_l rfl rfl ?_
                  exact ⟨Or.inl ⟨U, hg, Or.inl ⟨_, hO, rfl⟩⟩, hrk⟩
                · refine xG_run 2 rfl (by repeat' (first | exact trivial | assumption | exact xob_b rfl | exact xal_b rfl | (apply And.intro) | decide)) ?_
                  try dsimp only [xsto1, xsto2, xkill, xget, xset, gd_0, gd_s]
                  try rw [hc44]
                  refine r2_l rfl rfl ?_
                  exfalso
                  obtain ⟨f9, hO9⟩ := hO
                  have hge := (Ord_b (fun S r q => ⟨by have := q.1.1; omega, q.1.2⟩) hO9 hU4 (by omega)).1
                  refine h166 ((lg_ge0 _ _).mpr ?_)
                  rw [Int64.le_iff_toInt_le, show (0 : Int64).toInt = 0 by decide]
                  exact hge
              · have hN := hw
                refine xG_run 4 rfl (by repeat' (first | exact trivial | assumption | exact xob_b rfl | exact xal_b rfl | (apply And.intro) | decide)) ?_
                try dsimp only [xsto1, xsto2, xkill, xget, xset, gd_0, gd_s]
                try rw [hc44]
                refine xG_br rfl (fun h166 => ?_) (fun h166 => ?_)
                · refine xG_run 1 rfl (by repeat' (first | exact trivial | assumption | exact xob_b rfl | exact xal_b rfl | (apply And.intro) | decide)) ?_
                  try dsimp only [xsto1, xsto2, xkill, xget, xset, gd_0, gd_s]
                  try rw [hc44]
                  refine r2_l rfl rfl ?_
                  exact absurd ((lg_ge0 _ _).mp h166) (by decide)
                · refine xG_run 2 rfl (by repeat' (first | exact trivial | assumption | exact xob_b rfl | exact xal_b rfl | (apply And.intro) | decide)) ?_
                  try dsimp only [xsto1, xsto2, xkill, xget, xset, gd_0, gd_s]
                  try rw [hc44]
                  refine r2_l rfl rfl ?_
                  exact ⟨Or.inl ⟨U, hg, Or.inr ⟨hN, rfl⟩⟩, hrk⟩
            · have hng : ¬ bN U ≤ 6 := fun q => h131 (show nI (bK U 12) ≤ nI 6 from nI_le (by rw [hbk]; exact q) (by omega))
              refine xG_run 1 rfl (by repeat' (first | exact trivial | assumption | exact xob_b rfl | exact xal_b rfl | (apply And.intro) | decide)) ?_
              try dsimp only [xsto1, xsto2, xkill, xget, xset, gd_0, gd_s]
              try rw [hc44]
              refine r2_l rfl rfl ?_
              refine ⟨Or.inr ⟨fun ⟨U', q⟩ => ?_, rfl⟩, rkF_r⟩
              have eU : U' = U := nI_injb (Nat.lt_of_lt_of_le q.1.2.2 hpw) (by omega) q.1.1
              subst eU
              exact hng q.2.2.2.2.2
