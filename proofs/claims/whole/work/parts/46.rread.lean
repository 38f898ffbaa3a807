/-! ===== the reference reads signs and numbers ===== -/
def rT (M : xM) (a b n : Nat) (T : Nat → Int32) : Prop := gI M 166 13 = nI b ∧ gI M 166 14 = nI n ∧ gP M 166 16 = some a ∧ (∀ k, k < n → gI M a (b + k) = T k) ∧ n ≤ 120 ∧ ((a = 173 ∧ b + n ≤ 960) ∨ (a = 167 ∧ b + n ≤ 1651))
def rnM (M : xM) (q : Nat) (v : Int32) : xM := sI (sI M 166 15 v) 166 12 (nI q)
/-- what reading may change -/
def rdF (M M' : xM) : Prop := (∀ x k, x ≠ 177 → ¬ (x = 166 ∧ (k = 12 ∨ k = 15)) → gI M' x k = gI M x k) ∧ (∀ x k, gJ M' x k = gJ M x k) ∧ ∀ x k, gP M' x k = gP M x k
section RR
variable {M M' M2 : xM} {a b n p q r : Nat} {T : Nat → Int32} {v w : Int32}
theorem rdF_r : rdF M M := ⟨fun _ _ _ _ => rfl, fun _ _ => rfl, fun _ _ => rfl⟩
theorem rdF_t (h : rdF M M') (h2 : rdF M' M2) : rdF M M2 := ⟨fun x k q1 q2 => (h2.1 x k q1 q2).trans (h.1 x k q1 q2), fun x k => (h2.2.1 x k).trans (h.2.1 x k), fun x k => (h2.2.2 x k).trans (h.2.2 x k)⟩
theorem rdF_i {k : Nat} (h : k = 12 ∨ k = 15) : rdF M (sI M 166 k v) := ⟨fun _ _ _ _ => gI_ne (by omega), fun _ _ => rfl, fun _ _ => rfl⟩
theorem rdF_n {k : Nat} : rdF M (sI M 177 k v) := ⟨fun _ _ _ _ => gI_ne (by omega), fun _ _ => rfl, fun _ _ => rfl⟩
theorem rdF_rn : rdF M (rnM M q v) := rdF_t (rdF_i (Or.inr rfl)) (rdF_i (Or.inl rfl))
theorem rT_F (h : rT M a b n T) (f : rdF M M') : rT M' a b n T := ⟨(f.1 _ _ (by decide) (by decide)).trans h.1, (f.1 _ _ (by decide) (by decide)).trans h.2.1, (f.2.2 _ _).trans h.2.2.1, fun k hk => (f.1 _ _ (by have := h.2.2.2.2.2; omega) (by have := h.2.2.2.2.2; omega)).trans (h.2.2.2.1 k hk), h.2.2.2.2⟩
theorem rn_p : gI (rnM M q v) 166 12 = nI q := gI_self _ _ _ _
theorem rn_v : gI (rnM M q v) 166 15 = v := (gI_ne (Or.inr (by decide))).trans (gI_self _ _ _ _)
theorem rn_15p : gI (sI (rnM M q v) 166 15 w) 166 12 = nI q := (gI_ne (Or.inr (by decide))).trans rn_p
theorem rn_w : sI (sI (rnM M q v) 166 15 w) 166 12 (nI r) = rnM M r w := by
  refine xM_ext (fun x y => ?_) (fun _ _ => rfl) (fun _ _ => rfl)
  unfold rnM
  simp only [gIsI]
  by_cases c : x = 166 ∧ y = 12
  · simp only [if_pos c]
  · by_cases c2 : x = 166 ∧ y = 15
    · simp only [if_neg c, if_pos c2]
    · simp only [if_neg c, if_neg c2]
theorem rT_x (h : rT M a b n T) (hk : p < n) : xar a 0 182 (nI b + nI p) := by
  rw [nI_add]
  rcases h.2.2.2.2.2 with ⟨rfl, h1⟩ | ⟨rfl, h1⟩
  · exact xar_n rfl 960 rfl (by omega) (by omega)
  · exact xar_n rfl 1651 rfl (by omega) (by omega)
theorem rT_b (h : rT M a b n T) : b ≤ 1651 := by have := h.2.2.2.2.2; omega
end RR
set_option maxRecDepth 4000 in
theorem e_sign {κ : xKK} {d : Nat} {M : xM} {a b n p : Nat} {T : Nat → Int32} (hT : rT M a b n T) (hp : gI M 166 12 = nI p) (hp2 : p ≤ 5000) : xE2 κ mX12_sign d [.ref 166] M (fun v M' => v = some (.int (chr T n p)) ∧ M' = M) := by
  refine xE2_of ci_X12_sign cl_X12_sign cw_X12_sign rfl (L := [some (.ref 166)]) rfl ?_
  have hb := hT.1
  have hn := hT.2.1
  have hn2 := hT.2.2.2.2.1
  have hrb := rT_b hT
  have ht : xrf (xpr z2.2.1 M 166 16) = .ref a := by show xrf (gP M 166 16) = _; rw [hT.2.2.1]; rfl
  refine xG_run 4 rfl (by repeat' (first | exact trivial | assumption | exact xob_b rfl | exact xal_b rfl | (apply And.intro) | decide)) ?_
  try dsimp only [xsto1, xsto2, xkill, xget, xset, gd_0, gd_s]
  try rw [hp]
  try rw [hn]
  try rw [hb]
  refine xG_br rfl (fun h8 => ?_) (fun h8 => ?_)
  · have hge : ¬ p < n := fun z => nI_nlt9 z (by omega) h8
    refine xG_run 1 rfl (by repeat' (first | exact trivial | assumption | exact xob_b rfl | exact xal_b rfl | (apply And.intro) | decide)) ?_
    try dsimp only [xsto1, xsto2, xkill, xget, xset, gd_0, gd_s]
    try rw [hp]
    try rw [hn]
    try rw [hb]
    refine r2_i rfl rfl ?_
    first
      | (refine ⟨?_, rfl⟩
         rw [chr_ge hge]; done)
      | (refine ⟨?_, rfl⟩
         rw [e1, hT.2.2.2.1 p hlt, chr_lt hlt])
  · have hlt : p < n := nI_lt9 (by omega) (by omega) h8
    have hs := rT_x hT hlt
    have e1 : (nI b + nI p).toNatClampNeg = b + p := by rw [nI_add]; exact nI_cl (by omega)
    refine xG_run 2 rfl (by repeat' (first | exact trivial | assumption | exact xob_b rfl | exact xal_b rfl | (apply And.intro) | decide)) ?_
    try dsimp only [xsto1, xsto2, xkill, xget, xset, gd_0, gd_s]
    try rw [hp]
    try rw [hn]
    try rw [hb]
    rw [ht]
    refine xG_run 5 rfl (by repeat' (first | exact trivial | assumption | exact xob_b rfl | exact xal_b rfl | (apply And.intro) | decide)) ?_
    try dsimp only [xsto1, xsto2, xkill, xget, xset, gd_0, gd_s]
    try rw [hp]
    try rw [hn]
    try rw [hb]
    try rw [hb]
    try rw [hp]
    refine xG_run 2 rfl (by repeat' (first | exact trivial | assumption | exact xob_b rfl | exact xal_b rfl | (apply And.intro) | decide)) ?_
    try dsimp only [xsto1, xsto2, xkill, xget, xset, gd_0, gd_s]
    try rw [hp]
    try rw [hn]
    try rw [hb]
    refine r2_i rfl rfl ?_
    first
      | (refine ⟨?_, rfl⟩
         rw [chr_ge hge]; done)
      | (refine ⟨?_, rfl⟩
         rw [e1, hT.2.2.2.1 p hlt, chr_lt hlt])
set_option maxRecDepth 4000 in
theorem e_takes {κ : xKK} {d : Nat} {M : xM} {a b n p : Nat} {T : Nat → Int32} (hT : rT M a b n T) (hp : gI M 166 12 = nI p) (hp2 : p ≤ 5000) {c : Int32} (hd : 1 ≤ d) : xE2 κ mX12_takes d [.ref 166, .int c] M (fun v M' => (chr T n p = c ∧ v = some (.int 1) ∧ M' = sI M 166 12 (nI (p + 1))) ∨ (¬ chr T n p = c ∧ v = some (.int 0) ∧ M' = M)) := by
  refine xE2_of ci_X12_takes cl_X12_takes cw_X12_takes rfl (L := [some (.ref 166), some (.int c)]) rfl ?_
  refine xG_run 1 rfl (by repeat' (first | exact trivial | assumption | exact xob_b rfl | exact xal_b rfl | (apply And.intro) | decide)) ?_
  try dsimp only [xsto1, xsto2, xkill, xget, xset, gd_0, gd_s]
  try rw [hp]
  try rw [nI_1]
  refine xG_c2 0 rfl (by repeat' (first | exact trivial | assumption | exact xob_b rfl | exact xal_b rfl | (apply And.intro) | decide)) rfl rfl (by decide) cw_X12_sign (d' := d - 1) (e_sign (p := p) hT hp (by omega)) (by omega) ?_
  rintro v M' ⟨rfl, hM⟩
  subst M'
  dsimp only [Option.toList, List.cons_append, List.nil_append]
  refine xG_run 1 rfl (by repeat' (first | exact trivial | assumption | exact xob_b rfl | exact xal_b rfl | (apply And.intro) | decide)) ?_
  try dsimp only [xsto1, xsto2, xkill, xget, xset, gd_0, gd_s]
  try rw [hp]
  try rw [nI_1]
  refine xG_br rfl (fun h5 => ?_) (fun h5 => ?_)
  · refine xG_run 7 rfl (by repeat' (first | exact trivial | assumption | exact xob_b rfl | exact xal_b rfl | (apply And.intro) | decide)) ?_
    try dsimp only [xsto1, xsto2, xkill, xget, xset, gd_0, gd_s]
    try rw [hp]
    try rw [nI_1]
    refine r2_z rfl rfl (by first | decide | assumption) ?_
    first
      | exact Or.inl ⟨h5, rfl, rfl⟩
      | exact Or.inr ⟨h5, rfl, rfl⟩
  · refine xG_run 1 rfl (by repeat' (first | exact trivial | assumption | exact xob_b rfl | exact xal_b rfl | (apply And.intro) | decide)) ?_
    try dsimp only [xsto1, xsto2, xkill, xget, xset, gd_0, gd_s]
    try rw [hp]
    try rw [nI_1]
    refine r2_z rfl rfl (by first | decide | assumption) ?_
    first
      | exact Or.inl ⟨h5, rfl, rfl⟩
      | exact Or.inr ⟨h5, rfl, rfl⟩
set_option maxRecDepth 4000 in
theorem e_isDigit2 {κ : xKK} {d : Nat} {M : xM} {c : Int32} : xE2 κ mX12_isDigit d [.int c] M (fun v M' => v = some (.int (if dgP c then 1 else 0)) ∧ M' = M) := by
  refine xE2_of ci_X12_isDigit cl_X12_isDigit cw_X12_isDigit rfl (L := [some (.int c)]) rfl ?_
  refine xG_run 2 rfl (by repeat' (first | exact trivial | assumption | exact xob_b rfl | exact xal_b rfl | (apply And.intro) | decide)) ?_
  try dsimp only [xsto1, xsto2, xkill, xget, xset, gd_0, gd_s]
  refine xG_br rfl (fun h3 => ?_) (fun h3 => ?_)
  · refine xG_run 1 rfl (by repeat' (first | exact trivial | assumption | exact xob_b rfl | exact xal_b rfl | (apply And.intro) | decide)) ?_
    try dsimp only [xsto1, xsto2, xkill, xget, xset, gd_0, gd_s]
    refine r2_z rfl rfl (by first | decide | assumption) ?_
    refine ⟨?_, rfl⟩
    first
      | (rw [if_pos ⟨Int32.not_lt.mp h3, Int32.not_lt.mp h9⟩]; done)
      | (rw [if_neg (fun q => by first | exact i_nlt q.1 h3 | exact i_nlt q.2 h9)]; done)
  · refine xG_run 2 rfl (by repeat' (first | exact trivial | assumption | exact xob_b rfl | exact xal_b rfl | (apply And.intro) | decide)) ?_
    try dsimp only [xsto1, xsto2, xkill, xget, xset, gd_0, gd_s]
    refine xG_br rfl (fun h9 => ?_) (fun h9 => ?_)
    · refine xG_run 1 rfl (by repeat' (first | exact trivial | assumption | exact xob_b rfl | exact xal_b rfl | (apply And.intro) | decide)) ?_
      try dsimp only [xsto1, xsto2, xkill, xget, xset, gd_0, gd_s]
      refine r2_z rfl rfl (by first | decide | assumption) ?_
      refine ⟨?_, rfl⟩
      first
        | (rw [if_pos ⟨Int32.not_lt.mp h3, Int32.not_lt.mp h9⟩]; done)
        | (rw [if_neg (fun q => by first | exact i_nlt q.1 h3 | exact i_nlt q.2 h9)]; done)
    · refine xG_run 2 rfl (by repeat' (first | exact trivial | assumption | exact xob_b rfl | exact xal_b rfl | (apply And.intro) | decide)) ?_
      try dsimp only [xsto1, xsto2, xkill, xget, xset, gd_0, gd_s]
      refine r2_z rfl rfl (by first | decide | assumption) ?_
      refine ⟨?_, rfl⟩
      first
        | (rw [if_pos ⟨Int32.not_lt.mp h3, Int32.not_lt.mp h9⟩]; done)
        | (rw [if_neg (fun q => by first | exact i_nlt q.1 h3 | exact i_nlt q.2 h9)]; done)
theorem ps_0 {c : Int32} (h : dgP c) (h2 : c - 48 ≤ 0) : c - 48 = 0 := by
  obtain ⟨a1, a2, a3⟩ := dg_ti h
  rw [Int32.le_iff_toInt_le, Int32.toInt_zero, a3] at h2
  apply Int32.toInt_inj.mp
  rw [a3, Int32.toInt_zero]
  omega
theorem ps_1 {c c2 : Int32} (h : dgP c) (h0 : ¬ c - 48 = 0) (h2 : dgP c2) (h3 : 10 * (c - 48) + c2 - 48 ≤ 0) : False := by
  obtain ⟨a1, a2, a3⟩ := dg_ti h
  obtain ⟨b1, b2, b3⟩ := dg_ti h2
  have e := ad_ti (x := c - 48) (by omega) h2
  rw [Int32.le_iff_toInt_le, Int32.toInt_zero, e, a3] at h3
  exact h0 (Int32.toInt_inj.mp (by rw [a3, Int32.toInt_zero]; omega))
set_option maxRecDepth 4000 in
theorem e_readsNumber {κ : xKK} {d : Nat} {M : xM} {a b n p : Nat} {T : Nat → Int32} (hT : rT M a b n T) (hp : gI M 166 12 = nI p) (hp2 : p ≤ 4000) (hd : 2 ≤ d) : xE2 κ mX12_readsNumber d [.ref 166] M (fun v M' => (¬ nL T n p = 0 ∧ v = some (.int 1) ∧ M' = rnM M (p + nL T n p) (nV T n p)) ∨ (nL T n p = 0 ∧ v = some (.int 0) ∧ M' = M)) := by
  refine xE2_of ci_X12_readsNumber cl_X12_readsNumber cw_X12_readsNumber rfl (L := [some (.ref 166), none]) rfl ?_
  have hp9 : ∀ v, gI (sI M 166 15 v) 166 12 = nI p := fun v => (gI_ne (Or.inr (by decide))).trans hp
  refine xG_run 1 rfl (by repeat' (first | exact trivial | assumption | exact xob_b rfl | exact xal_b rfl | (apply And.intro) | decide)) ?_
  try dsimp only [xsto1, xsto2, xkill, xget, xset, gd_0, gd_s]
  try rw [hp9]
  try rw [nI_1]
  refine xG_c2 0 rfl (by repeat' (first | exact trivial | assumption | exact xob_b rfl | exact xal_b rfl | (apply And.intro) | decide)) rfl rfl (by decide) cw_X12_sign (d' := d - 1) (e_sign (p := p) hT hp (by omega)) (by omega) ?_
  rintro v M' ⟨rfl, hM⟩
  subst M'
  dsimp only [Option.toList, List.cons_append, List.nil_append]
  refine xG_run 3 rfl (by repeat' (first | exact trivial | assumption | exact xob_b rfl | exact xal_b rfl | (apply And.intro) | decide)) ?_
  try dsimp only [xsto1, xsto2, xkill, xget, xset, gd_0, gd_s]
  try rw [hp9]
  try rw [nI_1]
  refine xG_c2 3 rfl (by repeat' (first | exact trivial | assumption | exact xob_b rfl | exact xal_b rfl | (apply And.intro) | decide)) rfl rfl (by decide) cw_X12_isIn (d' := d - 1) (e_isIn (c := dgP (chr T n (p))) (in32 rfl rfl)) (by omega) ?_
  rintro v M' ⟨rfl, hM⟩
  subst M'
  dsimp only [Option.toList, List.cons_append, List.nil_append]
  refine xG_br rfl (fun h14 => ?_) (fun h14 => ?_)
  · have b14 := z1.mp h14
    refine xG_run 2 rfl (by repeat' (first | exact trivial | assumption | exact xob_b rfl | exact xal_b rfl | (apply And.intro) | decide)) ?_
    try dsimp only [xsto1, xsto2, xkill, xget, xset, gd_0, gd_s]
    try rw [hp9]
    try rw [nI_1]
    refine xG_c2 0 rfl (by repeat' (first | exact trivial | assumption | exact xob_b rfl | exact xal_b rfl | (apply And.intro) | decide)) rfl rfl (by decide) cw_X12_sign (d' := d - 1) (e_sign (p := p) hT hp (by omega)) (by omega) ?_
    rintro v M' ⟨rfl, hM⟩
    subst M'
    dsimp only [Option.toList, List.cons_append, List.nil_append]
    refine xG_run 7 rfl (by repeat' (first | exact trivial | assumption | exact xob_b rfl | exact xal_b rfl | (apply And.intro) | decide)) ?_
    try dsimp only [xsto1, xsto2, xkill, xget, xset, gd_0, gd_s]
    try rw [hp9]
    try rw [nI_1]
    try rw [hp9]
    refine xG_run 4 rfl (by repeat' (first | exact trivial | assumption | exact xob_b rfl | exact xal_b rfl | (apply And.intro) | decide)) ?_
    try dsimp only [xsto1, xsto2, xkill, xget, xset, gd_0, gd_s]
    try rw [hp9]
    try rw [nI_1]
    show xG κ mX12_readsNumber _ (42, [some (.ref 166), some (.int 1)], [], rnM M (p + 1) (chr T n p - 48), z2) _
    refine xG_run 2 rfl (by repeat' (first | exact trivial | assumption | exact xob_b rfl | exact xal_b rfl | (apply And.intro) | decide)) ?_
    try dsimp only [xsto1, xsto2, xkill, xget, xset, gd_0, gd_s]
    try rw [rn_v]
    try rw [rn_p]
    try rw [rn_15p]
    try rw [nI_1]
    refine xG_brF rfl (by decide) ?_
    refine xG_run 2 rfl (by repeat' (first | exact trivial | assumption | exact xob_b rfl | exact xal_b rfl | (apply And.intro) | decide)) ?_
    try dsimp only [xsto1, xsto2, xkill, xget, xset, gd_0, gd_s]
    try rw [rn_v]
    try rw [rn_p]
    try rw [rn_15p]
    try rw [nI_1]
    refine xG_br rfl (fun h51 => ?_) (fun h51 => ?_)
    · have z51 : chr T n p - 48 = 0 := ps_0 b14 h51
      refine xG_run 1 rfl (by repeat' (first | exact trivial | assumption | exact xob_b rfl | exact xal_b rfl | (apply And.intro) | decide)) ?_
      try dsimp only [xsto1, xsto2, xkill, xget, xset, gd_0, gd_s]
      try rw [rn_v]
      try rw [rn_p]
      try rw [rn_15p]
      try rw [nI_1]
      refine r2_z rfl rfl (by first | decide | assumption) ?_
      first
        | (exact Or.inl ⟨by rw [(nL_1 b14 (Or.inl z51)).1]; decide, rfl, by rw [(nL_1 b14 (Or.inl z51)).1, (nL_1 b14 (Or.inl z51)).2]⟩)
        | (exact Or.inl ⟨by rw [(nL_1 b14 (Or.inr b68)).1]; decide, rfl, by rw [(nL_1 b14 (Or.inr b68)).1, (nL_1 b14 (Or.inr b68)).2]⟩)
    · have z51 : ¬ chr T n p - 48 = 0 := fun q => h51 (by rw [q]; exact Int32.le_refl _)
      refine xG_run 1 rfl (by repeat' (first | exact trivial | assumption | exact xob_b rfl | exact xal_b rfl | (apply And.intro) | decide)) ?_
      try dsimp only [xsto1, xsto2, xkill, xget, xset, gd_0, gd_s]
      try rw [rn_v]
      try rw [rn_p]
      try rw [rn_15p]
      try rw [nI_1]
      refine xG_c2 0 rfl (by repeat' (first | exact trivial | assumption | exact xob_b rfl | exact xal_b rfl | (apply And.intro) | decide)) rfl rfl (by decide) cw_X12_sign (d' := d - 1) (e_sign (p := p + 1) (rT_F hT rdF_rn) rn_p (by omega)) (by omega) ?_
      rintro v M' ⟨rfl, hM⟩
      subst M'
      dsimp only [Option.toList, List.cons_append, List.nil_append]
      refine xG_run 3 rfl (by repeat' (first | exact trivial | assumption | exact xob_b rfl | exact xal_b rfl | (apply And.intro) | decide)) ?_
      try dsimp only [xsto1, xsto2, xkill, xget, xset, gd_0, gd_s]
      try rw [rn_v]
      try rw [rn_p]
      try rw [rn_15p]
      try rw [nI_1]
      refine xG_c2 3 rfl (by repeat' (first | exact trivial | assumption | exact xob_b rfl | exact xal_b rfl | (apply And.intro) | decide)) rfl rfl (by decide) cw_X12_isIn (d' := d - 1) (e_isIn (c := dgP (chr T n (p + 1))) (in32 rfl rfl)) (by omega) ?_
      rintro v M' ⟨rfl, hM⟩
      subst M'
      dsimp only [Option.toList, List.cons_append, List.nil_append]
      refine xG_br rfl (fun h68 => ?_) (fun h68 => ?_)
      · have b68 := z0.mp h68
        refine xG_run 1 rfl (by repeat' (first | exact trivial | assumption | exact xob_b rfl | exact xal_b rfl | (apply And.intro) | decide)) ?_
        try dsimp only [xsto1, xsto2, xkill, xget, xset, gd_0, gd_s]
        try rw [rn_v]
        try rw [rn_p]
        try rw [rn_15p]
        try rw [nI_1]
        refine r2_z rfl rfl (by first | decide | assumption) ?_
        first
          | (exact Or.inl ⟨by rw [(nL_1 b14 (Or.inl z51)).1]; decide, rfl, by rw [(nL_1 b14 (Or.inl z51)).1, (nL_1 b14 (Or.inl z51)).2]⟩)
          | (exact Or.inl ⟨by rw [(nL_1 b14 (Or.inr b68)).1]; decide, rfl, by rw [(nL_1 b14 (Or.inr b68)).1, (nL_1 b14 (Or.inr b68)).2]⟩)
      · have b68 := z1.mp h68
        refine xG_run 6 rfl (by repeat' (first | exact trivial | assumption | exact xob_b rfl | exact xal_b rfl | (apply And.intro) | decide)) ?_
        try dsimp only [xsto1, xsto2, xkill, xget, xset, gd_0, gd_s]
        try rw [rn_v]
        try rw [rn_p]
        try rw [rn_15p]
        try rw [nI_1]
        refine xG_c2 0 rfl (by repeat' (first | exact trivial | assumption | exact xob_b rfl | exact xal_b rfl | (apply And.intro) | decide)) rfl rfl (by decide) cw_X12_sign (d' := d - 1) (e_sign (p := p + 1) (rT_F hT rdF_rn) rn_p (by omega)) (by omega) ?_
        rintro v M' ⟨rfl, hM⟩
        subst M'
        dsimp only [Option.toList, List.cons_append, List.nil_append]
        refine xG_run 8 rfl (by repeat' (first | exact trivial | assumption | exact xob_b rfl | exact xal_b rfl | (apply And.intro) | decide)) ?_
        try dsimp only [xsto1, xsto2, xkill, xget, xset, gd_0, gd_s]
        try rw [rn_v]
        try rw [rn_p]
        try rw [rn_15p]
        try rw [nI_1]
        refine xG_run 4 rfl (by repeat' (first | exact trivial | assumption | exact xob_b rfl | exact xal_b rfl | (apply And.intro) | decide)) ?_
        try dsimp only [xsto1, xsto2, xkill, xget, xset, gd_0, gd_s]
        try rw [rn_v]
        try rw [rn_p]
        try rw [rn_15p]
        try rw [nI_1]
        rw [rn_w]
        refine xG_run 2 rfl (by repeat' (first | exact trivial | assumption | exact xob_b rfl | exact xal_b rfl | (apply And.intro) | decide)) ?_
        try dsimp only [xsto1, xsto2, xkill, xget, xset, gd_0, gd_s]
        try rw [rn_v]
        try rw [rn_p]
        try rw [rn_15p]
        try rw [nI_1]
        refine xG_brF rfl (by decide) ?_
        refine xG_run 2 rfl (by repeat' (first | exact trivial | assumption | exact xob_b rfl | exact xal_b rfl | (apply And.intro) | decide)) ?_
        try dsimp only [xsto1, xsto2, xkill, xget, xset, gd_0, gd_s]
        try rw [rn_v]
        try rw [rn_p]
        try rw [rn_15p]
        try rw [nI_1]
        refine xG_br rfl (fun h51 => ?_) (fun h51 => ?_)
        · first
            | (exfalso; exact ps_1 b14 z51 b68 h51)
            | (refine xG_run 1 rfl (by repeat' (first | exact trivial | assumption | exact xob_b rfl | exact xal_b rfl | (apply And.intro) | decide)) ?_
               try dsimp only [xsto1, xsto2, xkill, xget, xset, gd_0, gd_s]
               try rw [rn_v]
               try rw [rn_p]
               try rw [rn_15p]
               try rw [nI_1]
               refine r2_z rfl rfl (by first | decide | assumption) ?_
               first
                 | (exact Or.inl ⟨by rw [(nL_1 b14 (Or.inl z51)).1]; decide, rfl, by rw [(nL_1 b14 (Or.inl z51)).1, (nL_1 b14 (Or.inl z51)).2]⟩)
                 | (exact Or.inl ⟨by rw [(nL_2 b14 z51 b68 b68b).1]; decide, rfl, by rw [(nL_2 b14 z51 b68 b68b).1, (nL_2 b14 z51 b68 b68b).2]⟩))
        · first
            | (exfalso; exact ps_1 b14 z51 b68 h51)
            | (refine xG_run 1 rfl (by repeat' (first | exact trivial | assumption | exact xob_b rfl | exact xal_b rfl | (apply And.intro) | decide)) ?_
               try dsimp only [xsto1, xsto2, xkill, xget, xset, gd_0, gd_s]
               try rw [rn_v]
               try rw [rn_p]
               try rw [rn_15p]
               try rw [nI_1]
               refine xG_c2 0 rfl (by repeat' (first | exact trivial | assumption | exact xob_b rfl | exact xal_b rfl | (apply And.intro) | decide)) rfl rfl (by decide) cw_X12_sign (d' := d - 1) (e_sign (p := p + 2) (rT_F hT rdF_rn) rn_p (by omega)) (by omega) ?_
               rintro v M' ⟨rfl, hM⟩
               subst M'
               dsimp only [Option.toList, List.cons_append, List.nil_append]
               refine xG_run 3 rfl (by repeat' (first | exact trivial | assumption | exact xob_b rfl | exact xal_b rfl | (apply And.intro) | decide)) ?_
               try dsimp only [xsto1, xsto2, xkill, xget, xset, gd_0, gd_s]
               try rw [rn_v]
               try rw [rn_p]
               try rw [rn_15p]
               try rw [nI_1]
               refine xG_c2 3 rfl (by repeat' (first | exact trivial | assumption | exact xob_b rfl | exact xal_b rfl | (apply And.intro) | decide)) rfl rfl (by decide) cw_X12_isIn (d' := d - 1) (e_isIn (c := dgP (chr T n (p + 2))) (in32 rfl rfl)) (by omega) ?_
               rintro v M' ⟨rfl, hM⟩
               subst M'
               dsimp only [Option.toList, List.cons_append, List.nil_append]
               refine xG_br rfl (fun h68b => ?_) (fun h68b => ?_)
               · have b68b := z0.mp h68b
                 refine xG_run 1 rfl (by repeat' (first | exact trivial | assumption | exact xob_b rfl | exact xal_b rfl | (apply And.intro) | decide)) ?_
                 try dsimp only [xsto1, xsto2, xkill, xget, xset, gd_0, gd_s]
                 try rw [rn_v]
                 try rw [rn_p]
                 try rw [rn_15p]
                 try rw [nI_1]
                 refine r2_z rfl rfl (by first | decide | assumption) ?_
                 first
                   | (exact Or.inl ⟨by rw [(nL_1 b14 (Or.inl z51)).1]; decide, rfl, by rw [(nL_1 b14 (Or.inl z51)).1, (nL_1 b14 (Or.inl z51)).2]⟩)
                   | (exact Or.inl ⟨by rw [(nL_2 b14 z51 b68 b68b).1]; decide, rfl, by rw [(nL_2 b14 z51 b68 b68b).1, (nL_2 b14 z51 b68 b68b).2]⟩)
               · have b68b := z1.mp h68b
                 refine xG_run 6 rfl (by repeat' (first | exact trivial | assumption | exact xob_b rfl | exact xal_b rfl | (apply And.intro) | decide)) ?_
                 try dsimp only [xsto1, xsto2, xkill, xget, xset, gd_0, gd_s]
                 try rw [rn_v]
                 try rw [rn_p]
                 try rw [rn_15p]
                 try rw [nI_1]
                 refine xG_c2 0 rfl (by repeat' (first | exact trivial | assumption | exact xob_b rfl | exact xal_b rfl | (apply And.intro) | decide)) rfl rfl (by decide) cw_X12_sign (d' := d - 1) (e_sign (p := p + 2) (rT_F hT rdF_rn) rn_p (by omega)) (by omega) ?_
                 rintro v M' ⟨rfl, hM⟩
                 subst M'
                 dsimp only [Option.toList, List.cons_append, List.nil_append]
                 refine xG_run 8 rfl (by repeat' (first | exact trivial | assumption | exact xob_b rfl | exact xal_b rfl | (apply And.intro) | decide)) ?_
                 try dsimp only [xsto1, xsto2, xkill, xget, xset, gd_0, gd_s]
                 try rw [rn_v]
                 try rw [rn_p]
                 try rw [rn_15p]
                 try rw [nI_1]
                 refine xG_run 4 rfl (by repeat' (first | exact trivial | assumption | exact xob_b rfl | exact xal_b rfl | (apply And.intro) | decide)) ?_
                 try dsimp only [xsto1, xsto2, xkill, xget, xset, gd_0, gd_s]
                 try rw [rn_v]
                 try rw [rn_p]
                 try rw [rn_15p]
                 try rw [nI_1]
                 rw [rn_w]
                 refine xG_run 2 rfl (by repeat' (first | exact trivial | assumption | exact xob_b rfl | exact xal_b rfl | (apply And.intro) | decide)) ?_
                 try dsimp only [xsto1, xsto2, xkill, xget, xset, gd_0, gd_s]
                 refine xG_brT rfl (by decide) ?_
                 refine xG_run 1 rfl (by repeat' (first | exact trivial | assumption | exact xob_b rfl | exact xal_b rfl | (apply And.intro) | decide)) ?_
                 try dsimp only [xsto1, xsto2, xkill, xget, xset, gd_0, gd_s]
                 refine r2_z rfl rfl (by first | decide | assumption) ?_
                 exact Or.inl ⟨by rw [(nL_3 b14 z51 b68 b68b).1]; decide, rfl, by rw [(nL_3 b14 z51 b68 b68b).1, (nL_3 b14 z51 b68 b68b).2]⟩)
  · have b14 := z0.mp (Decidable.not_not.mp h14)
    refine xG_run 1 rfl (by repeat' (first | exact trivial | assumption | exact xob_b rfl | exact xal_b rfl | (apply And.intro) | decide)) ?_
    try dsimp only [xsto1, xsto2, xkill, xget, xset, gd_0, gd_s]
    try rw [hp9]
    try rw [nI_1]
    refine r2_z rfl rfl (by first | decide | assumption) ?_
    exact Or.inr ⟨nL_0 b14, rfl, rfl⟩
