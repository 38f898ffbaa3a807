/-! ===== the class reads rules: single steps ===== -/
theorem bl_0 {b : Bool} : bl2 b = 0 ↔ b = false := by cases b <;> decide
theorem bl_n {b : Bool} : ¬ bl2 b = 0 ↔ b = true := by cases b <;> decide
theorem bl_e {a b : Bool} : bl2 a = bl2 b ↔ a = b := by cases a <;> cases b <;> decide
theorem bl_1 {b : Bool} : bl2 b &&& 1 = bl2 b := by cases b <;> decide
def etM (M : xM) (k : Nat) (b a t : Bool) : xM := sI (sI (sI M 134 k (bl2 (a && (b != t)))) 135 k 0) 130 5 0
theorem etM_o {M : xM} {k x j : Nat} {b a t : Bool} (h : ¬ ((x = 134 ∨ x = 135) ∧ j = k)) (h2 : ¬ (x = 130 ∧ j = 5)) : gI (etM M k b a t) x j = gI M x j := by
  unfold etM
  rw [gI_ne (by omega), gI_ne (by omega), gI_ne (by omega)]
def boM (M : xM) (k : Nat) : xM := sI (sI (sI (sI M 133 k 0) 134 k 1) 135 k 0) 130 5 1
set_option maxRecDepth 4000 in
theorem e_uholdsAt {κ : xKK} {d : Nat} {M : xM} {k : Nat} {y a : Bool} (hk : k ≤ 8) (hy : gI M 133 k = bl2 y) (ha : gI M 134 k = bl2 a) : xE2 κ mX6_holdsAt d [.ref 130, .int (nI k)] M (fun v M' => v = some (.int (bl2 (y || a))) ∧ M' = M) := by
  refine xE2_of ci_X6_holdsAt cl_X6_holdsAt cw_X6_holdsAt rfl (L := [some (.ref 130), some (.int (nI k))]) rfl ?_
  have hk1 : (nI k).toNatClampNeg = k := nI_cl (by omega)
  have hx3 : xar 133 2 182 (nI k) := xar_n rfl 9 rfl (by omega) (by omega)
  have hx4 : xar 134 2 182 (nI k) := xar_n rfl 9 rfl (by omega) (by omega)
  have hx5 : xar 135 2 182 (nI k) := xar_n rfl 9 rfl (by omega) (by omega)
  refine xG_run 4 rfl (by repeat' (first | exact trivial | assumption | exact xob_b rfl | exact xal_b rfl | (apply And.intro) | decide)) ?_
  try dsimp only [xsto1, xsto2, xkill, xget, xset, gd_0, gd_s]
  try simp (disch := omega) only [gI_self, g_ne, sI_sI, hk1, ha, hy, bl_1]
  refine xG_br rfl (fun h6 => ?_) (fun h6 => ?_)
  · refine xG_run 2 rfl (by repeat' (first | exact trivial | assumption | exact xob_b rfl | exact xal_b rfl | (apply And.intro) | decide)) ?_
    try dsimp only [xsto1, xsto2, xkill, xget, xset, gd_0, gd_s]
    try simp (disch := omega) only [gI_self, g_ne, sI_sI, hk1, ha, hy, bl_1]
    refine r2_z rfl rfl (by first | decide | assumption) ?_
    refine ⟨?_, rfl⟩
    rw [bl_n.mp h6]; rfl
  · refine xG_run 4 rfl (by repeat' (first | exact trivial | assumption | exact xob_b rfl | exact xal_b rfl | (apply And.intro) | decide)) ?_
    try dsimp only [xsto1, xsto2, xkill, xget, xset, gd_0, gd_s]
    try simp (disch := omega) only [gI_self, g_ne, sI_sI, hk1, ha, hy, bl_1]
    refine xG_br rfl (fun h15 => ?_) (fun h15 => ?_)
    · refine xG_run 1 rfl (by repeat' (first | exact trivial | assumption | exact xob_b rfl | exact xal_b rfl | (apply And.intro) | decide)) ?_
      try dsimp only [xsto1, xsto2, xkill, xget, xset, gd_0, gd_s]
      try simp (disch := omega) only [gI_self, g_ne, sI_sI, hk1, ha, hy, bl_1]
      refine r2_z rfl rfl (by first | decide | assumption) ?_
      refine ⟨?_, rfl⟩
      rw [bl_0.mp (Decidable.not_not.mp h6), bl_0.mp h15]; rfl
    · refine xG_run 2 rfl (by repeat' (first | exact trivial | assumption | exact xob_b rfl | exact xal_b rfl | (apply And.intro) | decide)) ?_
      try dsimp only [xsto1, xsto2, xkill, xget, xset, gd_0, gd_s]
      try simp (disch := omega) only [gI_self, g_ne, sI_sI, hk1, ha, hy, bl_1]
      refine r2_z rfl rfl (by first | decide | assumption) ?_
      refine ⟨?_, rfl⟩
      rw [bl_n.mp h15, Bool.or_true]; rfl
set_option maxRecDepth 4000 in
theorem e_uholds {κ : xKK} {d : Nat} {M : xM} {y a : Bool} (hy : gI M 133 0 = bl2 y) (ha : gI M 134 0 = bl2 a) : xE2 κ mX6_holds d [.ref 130] M (fun v M' => v = some (.int (bl2 (y || a))) ∧ M' = M) := by
  refine xE2_of ci_X6_holds cl_X6_holds cw_X6_holds rfl (L := [some (.ref 130)]) rfl ?_
  have hk1 : ((0 : Int32)).toNatClampNeg = 0 := rfl
  have hx3 : xar 133 2 182 ((0 : Int32)) := xar_n (j := 0) rfl 9 rfl (by omega) (by omega)
  have hx4 : xar 134 2 182 ((0 : Int32)) := xar_n (j := 0) rfl 9 rfl (by omega) (by omega)
  have hx5 : xar 135 2 182 ((0 : Int32)) := xar_n (j := 0) rfl 9 rfl (by omega) (by omega)
  refine xG_run 4 rfl (by repeat' (first | exact trivial | assumption | exact xob_b rfl | exact xal_b rfl | (apply And.intro) | decide)) ?_
  try dsimp only [xsto1, xsto2, xkill, xget, xset, gd_0, gd_s]
  try simp (disch := omega) only [gI_self, g_ne, sI_sI, hk1, ha, hy, bl_1]
  refine xG_br rfl (fun h6 => ?_) (fun h6 => ?_)
  · refine xG_run 2 rfl (by repeat' (first | exact trivial | assumption | exact xob_b rfl | exact xal_b rfl | (apply And.intro) | decide)) ?_
    try dsimp only [xsto1, xsto2, xkill, xget, xset, gd_0, gd_s]
    try simp (disch := omega) only [gI_self, g_ne, sI_sI, hk1, ha, hy, bl_1]
    refine r2_z rfl rfl (by first | decide | assumption) ?_
    refine ⟨?_, rfl⟩
    rw [bl_n.mp h6]; rfl
  · refine xG_run 4 rfl (by repeat' (first | exact trivial | assumption | exact xob_b rfl | exact xal_b rfl | (apply And.intro) | decide)) ?_
    try dsimp only [xsto1, xsto2, xkill, xget, xset, gd_0, gd_s]
    try simp (disch := omega) only [gI_self, g_ne, sI_sI, hk1, ha, hy, bl_1]
    refine xG_br rfl (fun h15 => ?_) (fun h15 => ?_)
    · refine xG_run 1 rfl (by repeat' (first | exact trivial | assumption | exact xob_b rfl | exact xal_b rfl | (apply And.intro) | decide)) ?_
      try dsimp only [xsto1, xsto2, xkill, xget, xset, gd_0, gd_s]
      try simp (disch := omega) only [gI_self, g_ne, sI_sI, hk1, ha, hy, bl_1]
      refine r2_z rfl rfl (by first | decide | assumption) ?_
      refine ⟨?_, rfl⟩
      rw [bl_0.mp (Decidable.not_not.mp h6), bl_0.mp h15]; rfl
    · refine xG_run 2 rfl (by repeat' (first | exact trivial | assumption | exact xob_b rfl | exact xal_b rfl | (apply And.intro) | decide)) ?_
      try dsimp only [xsto1, xsto2, xkill, xget, xset, gd_0, gd_s]
      try simp (disch := omega) only [gI_self, g_ne, sI_sI, hk1, ha, hy, bl_1]
      refine r2_z rfl rfl (by first | decide | assumption) ?_
      refine ⟨?_, rfl⟩
      rw [bl_n.mp h15, Bool.or_true]; rfl
set_option maxRecDepth 4000 in
theorem e_uendTest {κ : xKK} {d : Nat} {M : xM} {k : Nat} {b a t : Bool} (hk : k ≤ 8) (r6 : gI M 130 6 = nI k) (ha : gI M 134 k = bl2 a) (ht : gI M 135 k = bl2 t) : xE2 κ mX6_endTest d [.ref 130, .int (bl2 b)] M (fun v M' => v = none ∧ M' = etM M k b a t) := by
  refine xE2_of ci_X6_endTest cl_X6_endTest cw_X6_endTest rfl (L := [some (.ref 130), some (.int (bl2 b))]) rfl ?_
  have hk1 : (nI k).toNatClampNeg = k := nI_cl (by omega)
  have hx3 : xar 133 2 182 (nI k) := xar_n rfl 9 rfl (by omega) (by omega)
  have hx4 : xar 134 2 182 (nI k) := xar_n rfl 9 rfl (by omega) (by omega)
  have hx5 : xar 135 2 182 (nI k) := xar_n rfl 9 rfl (by omega) (by omega)
  refine xG_run 4 rfl (by repeat' (first | exact trivial | assumption | exact xob_b rfl | exact xal_b rfl | (apply And.intro) | decide)) ?_
  try dsimp only [xsto1, xsto2, xkill, xget, xset, gd_0, gd_s]
  try simp (disch := omega) only [gI_self, g_ne, sI_sI, hk1, r6, ha, ht, bl_1]
  try simp (disch := omega) only [gI_self, g_ne, hk1, r6]
  refine xG_run 4 rfl (by repeat' (first | exact trivial | assumption | exact xob_b rfl | exact xal_b rfl | (apply And.intro) | decide)) ?_
  try dsimp only [xsto1, xsto2, xkill, xget, xset, gd_0, gd_s]
  try simp (disch := omega) only [gI_self, g_ne, sI_sI, hk1, r6, ha, ht, bl_1]
  try simp (disch := omega) only [gI_self, g_ne, hk1, r6]
  refine xG_run 1 rfl (by repeat' (first | exact trivial | assumption | exact xob_b rfl | exact xal_b rfl | (apply And.intro) | decide)) ?_
  try dsimp only [xsto1, xsto2, xkill, xget, xset, gd_0, gd_s]
  try simp (disch := omega) only [gI_self, g_ne, sI_sI, hk1, r6, ha, ht, bl_1]
  refine xG_br rfl (fun h17 => ?_) (fun h17 => ?_)
  · refine xG_run 1 rfl (by repeat' (first | exact trivial | assumption | exact xob_b rfl | exact xal_b rfl | (apply And.intro) | decide)) ?_
    try dsimp only [xsto1, xsto2, xkill, xget, xset, gd_0, gd_s]
    try simp (disch := omega) only [gI_self, g_ne, sI_sI, hk1, r6, ha, ht, bl_1]
    try simp (disch := omega) only [gI_self, g_ne, hk1, r6]
    refine xG_run 5 rfl (by repeat' (first | exact trivial | assumption | exact xob_b rfl | exact xal_b rfl | (apply And.intro) | decide)) ?_
    try dsimp only [xsto1, xsto2, xkill, xget, xset, gd_0, gd_s]
    try simp (disch := omega) only [gI_self, g_ne, sI_sI, hk1, r6, ha, ht, bl_1]
    try simp (disch := omega) only [gI_self, g_ne, hk1, r6]
    refine xG_run 1 rfl (by repeat' (first | exact trivial | assumption | exact xob_b rfl | exact xal_b rfl | (apply And.intro) | decide)) ?_
    try dsimp only [xsto1, xsto2, xkill, xget, xset, gd_0, gd_s]
    try simp (disch := omega) only [gI_self, g_ne, sI_sI, hk1, r6, ha, ht, bl_1]
    try simp (disch := omega) only [gI_self, g_ne, hk1, r6]
    refine xG_run 4 rfl (by repeat' (first | exact trivial | assumption | exact xob_b rfl | exact xal_b rfl | (apply And.intro) | decide)) ?_
    try dsimp only [xsto1, xsto2, xkill, xget, xset, gd_0, gd_s]
    try simp (disch := omega) only [gI_self, g_ne, sI_sI, hk1, r6, ha, ht, bl_1]
    refine r2_v rfl rfl ?_
    refine ⟨rfl, ?_⟩
    unfold etM
    rw [bl_0.mp h17]; rfl
  · refine xG_run 5 rfl (by repeat' (first | exact trivial | assumption | exact xob_b rfl | exact xal_b rfl | (apply And.intro) | decide)) ?_
    try dsimp only [xsto1, xsto2, xkill, xget, xset, gd_0, gd_s]
    try simp (disch := omega) only [gI_self, g_ne, sI_sI, hk1, r6, ha, ht, bl_1]
    try simp (disch := omega) only [gI_self, g_ne, hk1, r6]
    refine xG_run 1 rfl (by repeat' (first | exact trivial | assumption | exact xob_b rfl | exact xal_b rfl | (apply And.intro) | decide)) ?_
    try dsimp only [xsto1, xsto2, xkill, xget, xset, gd_0, gd_s]
    try simp (disch := omega) only [gI_self, g_ne, sI_sI, hk1, r6, ha, ht, bl_1]
    refine xG_br rfl (fun h30 => ?_) (fun h30 => ?_)
    · refine xG_run 1 rfl (by repeat' (first | exact trivial | assumption | exact xob_b rfl | exact xal_b rfl | (apply And.intro) | decide)) ?_
      try dsimp only [xsto1, xsto2, xkill, xget, xset, gd_0, gd_s]
      try simp (disch := omega) only [gI_self, g_ne, sI_sI, hk1, r6, ha, ht, bl_1]
      try simp (disch := omega) only [gI_self, g_ne, hk1, r6]
      refine xG_run 5 rfl (by repeat' (first | exact trivial | assumption | exact xob_b rfl | exact xal_b rfl | (apply And.intro) | decide)) ?_
      try dsimp only [xsto1, xsto2, xkill, xget, xset, gd_0, gd_s]
      try simp (disch := omega) only [gI_self, g_ne, sI_sI, hk1, r6, ha, ht, bl_1]
      try simp (disch := omega) only [gI_self, g_ne, hk1, r6]
      refine xG_run 1 rfl (by repeat' (first | exact trivial | assumption | exact xob_b rfl | exact xal_b rfl | (apply And.intro) | decide)) ?_
      try dsimp only [xsto1, xsto2, xkill, xget, xset, gd_0, gd_s]
      try simp (disch := omega) only [gI_self, g_ne, sI_sI, hk1, r6, ha, ht, bl_1]
      try simp (disch := omega) only [gI_self, g_ne, hk1, r6]
      refine xG_run 4 rfl (by repeat' (first | exact trivial | assumption | exact xob_b rfl | exact xal_b rfl | (apply And.intro) | decide)) ?_
      try dsimp only [xsto1, xsto2, xkill, xget, xset, gd_0, gd_s]
      try simp (disch := omega) only [gI_self, g_ne, sI_sI, hk1, r6, ha, ht, bl_1]
      refine r2_v rfl rfl ?_
      refine ⟨rfl, ?_⟩
      unfold etM
      rw [bl_n.mp h17, bl_e.mp h30]; cases t <;> rfl
    · refine xG_run 2 rfl (by repeat' (first | exact trivial | assumption | exact xob_b rfl | exact xal_b rfl | (apply And.intro) | decide)) ?_
      try dsimp only [xsto1, xsto2, xkill, xget, xset, gd_0, gd_s]
      try simp (disch := omega) only [gI_self, g_ne, sI_sI, hk1, r6, ha, ht, bl_1]
      try simp (disch := omega) only [gI_self, g_ne, hk1, r6]
      refine xG_run 5 rfl (by repeat' (first | exact trivial | assumption | exact xob_b rfl | exact xal_b rfl | (apply And.intro) | decide)) ?_
      try dsimp only [xsto1, xsto2, xkill, xget, xset, gd_0, gd_s]
      try simp (disch := omega) only [gI_self, g_ne, sI_sI, hk1, r6, ha, ht, bl_1]
      try simp (disch := omega) only [gI_self, g_ne, hk1, r6]
      refine xG_run 1 rfl (by repeat' (first | exact trivial | assumption | exact xob_b rfl | exact xal_b rfl | (apply And.intro) | decide)) ?_
      try dsimp only [xsto1, xsto2, xkill, xget, xset, gd_0, gd_s]
      try simp (disch := omega) only [gI_self, g_ne, sI_sI, hk1, r6, ha, ht, bl_1]
      try simp (disch := omega) only [gI_self, g_ne, hk1, r6]
      refine xG_run 4 rfl (by repeat' (first | exact trivial | assumption | exact xob_b rfl | exact xal_b rfl | (apply And.intro) | decide)) ?_
      try dsimp only [xsto1, xsto2, xkill, xget, xset, gd_0, gd_s]
      try simp (disch := omega) only [gI_self, g_ne, sI_sI, hk1, r6, ha, ht, bl_1]
      refine r2_v rfl rfl ?_
      refine ⟨rfl, ?_⟩
      unfold etM
      rw [bl_n.mp h17, show (b != t) = true by cases b <;> cases t <;> first | rfl | exact absurd rfl h30]; rfl
set_option maxRecDepth 4000 in
theorem e_ubeginOr {κ : xKK} {d : Nat} {M : xM} {k : Nat} (hk : k ≤ 8) (r6 : gI M 130 6 = nI k) : xE2 κ mX6_beginOr d [.ref 130] M (fun v M' => v = none ∧ M' = boM M k) := by
  refine xE2_of ci_X6_beginOr cl_X6_beginOr cw_X6_beginOr rfl (L := [some (.ref 130)]) rfl ?_
  have hk1 : (nI k).toNatClampNeg = k := nI_cl (by omega)
  have hx3 : xar 133 2 182 (nI k) := xar_n rfl 9 rfl (by omega) (by omega)
  have hx4 : xar 134 2 182 (nI k) := xar_n rfl 9 rfl (by omega) (by omega)
  have hx5 : xar 135 2 182 (nI k) := xar_n rfl 9 rfl (by omega) (by omega)
  refine xG_run 4 rfl (by repeat' (first | exact trivial | assumption | exact xob_b rfl | exact xal_b rfl | (apply And.intro) | decide)) ?_
  try dsimp only [xsto1, xsto2, xkill, xget, xset, gd_0, gd_s]
  try simp (disch := omega) only [gI_self, g_ne, sI_sI, hk1, r6, bl_1]
  try simp (disch := omega) only [gI_self, g_ne, hk1, r6]
  refine xG_run 1 rfl (by repeat' (first | exact trivial | assumption | exact xob_b rfl | exact xal_b rfl | (apply And.intro) | decide)) ?_
  try dsimp only [xsto1, xsto2, xkill, xget, xset, gd_0, gd_s]
  try simp (disch := omega) only [gI_self, g_ne, sI_sI, hk1, r6, bl_1]
  try simp (disch := omega) only [gI_self, g_ne, hk1, r6]
  refine xG_run 5 rfl (by repeat' (first | exact trivial | assumption | exact xob_b rfl | exact xal_b rfl | (apply And.intro) | decide)) ?_
  try dsimp only [xsto1, xsto2, xkill, xget, xset, gd_0, gd_s]
  try simp (disch := omega) only [gI_self, g_ne, sI_sI, hk1, r6, bl_1]
  try simp (disch := omega) only [gI_self, g_ne, hk1, r6]
  refine xG_run 1 rfl (by repeat' (first | exact trivial | assumption | exact xob_b rfl | exact xal_b rfl | (apply And.intro) | decide)) ?_
  try dsimp only [xsto1, xsto2, xkill, xget, xset, gd_0, gd_s]
  try simp (disch := omega) only [gI_self, g_ne, sI_sI, hk1, r6, bl_1]
  try simp (disch := omega) only [gI_self, g_ne, hk1, r6]
  refine xG_run 5 rfl (by repeat' (first | exact trivial | assumption | exact xob_b rfl | exact xal_b rfl | (apply And.intro) | decide)) ?_
  try dsimp only [xsto1, xsto2, xkill, xget, xset, gd_0, gd_s]
  try simp (disch := omega) only [gI_self, g_ne, sI_sI, hk1, r6, bl_1]
  try simp (disch := omega) only [gI_self, g_ne, hk1, r6]
  refine xG_run 1 rfl (by repeat' (first | exact trivial | assumption | exact xob_b rfl | exact xal_b rfl | (apply And.intro) | decide)) ?_
  try dsimp only [xsto1, xsto2, xkill, xget, xset, gd_0, gd_s]
  try simp (disch := omega) only [gI_self, g_ne, sI_sI, hk1, r6, bl_1]
  try simp (disch := omega) only [gI_self, g_ne, hk1, r6]
  refine xG_run 4 rfl (by repeat' (first | exact trivial | assumption | exact xob_b rfl | exact xal_b rfl | (apply And.intro) | decide)) ?_
  try dsimp only [xsto1, xsto2, xkill, xget, xset, gd_0, gd_s]
  try simp (disch := omega) only [gI_self, g_ne, sI_sI, hk1, r6, bl_1]
  refine r2_v rfl rfl ?_
  exact ⟨rfl, rfl⟩
set_option maxRecDepth 4000 in
theorem e_ubeginTest {κ : xKK} {d : Nat} {M : xM} {t n p k : Nat} {T : Nat → Int32} (hC : uC M t n T) (r3 : gI M 130 3 = nI p) (hpn : p < n) (r4 : gI M 130 4 = 0) (r6 : gI M 130 6 = nI k) (hk : k ≤ 8) {a tu : Bool} (ha : gI M 134 k = bl2 a) (ht : gI M 135 k = bl2 tu) (hd : 5 ≤ d) : xE2 κ mX6_beginTest d [.ref 130] M (fun v M' => v = none ∧ ((chr T n p = 33 ∧ M' = sI (sI M 135 k (bl2 (!tu))) 130 3 (nI (p + 1))) ∨ (chr T n p = 40 ∧ k = 8 ∧ M' = sI M 130 4 1) ∨ (chr T n p = 40 ∧ k < 8 ∧ M' = boM (sI (sI M 130 6 (nI (k + 1))) 130 3 (nI (p + 1))) (k + 1)) ∨ (¬ chr T n p = 33 ∧ ¬ chr T n p = 40 ∧ ∃ M1 b, uF M M1 ∧ ((cpX T n (fun i => gI M 131 i) p).1 = true → b = (cpX T n (fun i => gI M 131 i) p).2.2) ∧ gI M1 130 3 = nI (cpX T n (fun i => gI M 131 i) p).2.1 ∧ gI M1 130 4 = (if (cpX T n (fun i => gI M 131 i) p).1 = true then 0 else 1) ∧ M' = etM M1 k b a tu))) := by
  refine xE2_of ci_X6_beginTest cl_X6_beginTest cw_X6_beginTest rfl (L := [some (.ref 130), none]) rfl ?_
  have hC9 := hC
  obtain ⟨c1, s2, hn2, hT, hsh, ht1, ht2⟩ := hC
  have hb0 : xrf (xpr z2.2.1 M 130 1) = .ref t := by show xrf (gP M 130 1) = _; rw [c1]; rfl
  have har : ∀ k, k < n → xar t 0 182 (nI k) := fun k hk => ⟨120, hsh, ht2, by rw [nI_ti (by omega)]; omega, by rw [nI_ti (by omega)]; omega⟩
  have hch : ∀ k, k < n → gI M t (nI k).toNatClampNeg = chr T n k := fun k hk => by rw [nI_cl (by omega), chr_lt hk]; exact hT k hk
  have hk1 : (nI k).toNatClampNeg = k := nI_cl (by omega)
  have hx3 : xar 133 2 182 (nI k) := xar_n rfl 9 rfl (by omega) (by omega)
  have hx4 : xar 134 2 182 (nI k) := xar_n rfl 9 rfl (by omega) (by omega)
  have hx5 : xar 135 2 182 (nI k) := xar_n rfl 9 rfl (by omega) (by omega)
  have hb9 : ∀ b : Bool, bl2 b &&& 1 = bl2 b := fun b => bl_1
  have hp : p ≤ n := by omega
  have hax := har p hpn
  have hgt := hch p hpn
  refine xG_run 2 rfl (by repeat' (first | exact trivial | assumption | exact xob_b rfl | exact xal_b rfl | (apply And.intro) | decide)) ?_
  try dsimp only [xsto1, xsto2, xkill, xget, xset, gd_0, gd_s]
  try simp (disch := omega) only [gI_self, g_ne, sI_sI, hk1, r6, r3, ha, ht, bl_1, nI_1]
  rw [hb0]
  refine xG_run 2 rfl (by repeat' (first | exact trivial | assumption | exact xob_b rfl | exact xal_b rfl | (apply And.intro) | decide)) ?_
  try dsimp only [xsto1, xsto2, xkill, xget, xset, gd_0, gd_s]
  try simp (disch := omega) only [gI_self, g_ne, sI_sI, hk1, r6, r3, ha, ht, bl_1, nI_1]
  try simp only [r3]
  refine xG_run 1 rfl (by repeat' (first | exact trivial | assumption | exact xob_b rfl | exact xal_b rfl | (apply And.intro) | decide)) ?_
  try dsimp only [xsto1, xsto2, xkill, xget, xset, gd_0, gd_s]
  try simp (disch := omega) only [gI_self, g_ne, sI_sI, hk1, r6, r3, ha, ht, bl_1, nI_1]
  rw [hgt]
  refine xG_run 3 rfl (by repeat' (first | exact trivial | assumption | exact xob_b rfl | exact xal_b rfl | (apply And.intro) | decide)) ?_
  try dsimp only [xsto1, xsto2, xkill, xget, xset, gd_0, gd_s]
  try simp (disch := omega) only [gI_self, g_ne, sI_sI, hk1, r6, r3, ha, ht, bl_1, nI_1]
  refine xG_br rfl (fun h13 => ?_) (fun h13 => ?_)
  · refine xG_run 2 rfl (by repeat' (first | exact trivial | assumption | exact xob_b rfl | exact xal_b rfl | (apply And.intro) | decide)) ?_
    try dsimp only [xsto1, xsto2, xkill, xget, xset, gd_0, gd_s]
    try simp (disch := omega) only [gI_self, g_ne, sI_sI, hk1, r6, r3, ha, ht, bl_1, nI_1]
    refine xG_br rfl (fun h58 => ?_) (fun h58 => ?_)
    · refine xG_run 2 rfl (by repeat' (first | exact trivial | assumption | exact xob_b rfl | exact xal_b rfl | (apply And.intro) | decide)) ?_
      try dsimp only [xsto1, xsto2, xkill, xget, xset, gd_0, gd_s]
      try simp (disch := omega) only [gI_self, g_ne, sI_sI, hk1, r6, r3, ha, ht, bl_1, nI_1]
      try simp (disch := omega) only [gI_self, g_ne, hk1, r6]
      refine xG_run 1 rfl (by repeat' (first | exact trivial | assumption | exact xob_b rfl | exact xal_b rfl | (apply And.intro) | decide)) ?_
      try dsimp only [xsto1, xsto2, xkill, xget, xset, gd_0, gd_s]
      try simp (disch := omega) only [gI_self, g_ne, sI_sI, hk1, r6, r3, ha, ht, bl_1, nI_1]
      refine xG_br rfl (fun h78 => ?_) (fun h78 => ?_)
      · have hk8 : k = 8 := by have := (nI_leI (a := 8) (b := k) (by omega) (by omega)).mp h78; omega
        refine xG_run 3 rfl (by repeat' (first | exact trivial | assumption | exact xob_b rfl | exact xal_b rfl | (apply And.intro) | decide)) ?_
        try dsimp only [xsto1, xsto2, xkill, xget, xset, gd_0, gd_s]
        try simp (disch := omega) only [gI_self, g_ne, sI_sI, hk1, r6, r3, ha, ht, bl_1, nI_1]
        refine r2_v rfl rfl ?_
        exact ⟨rfl, Or.inr (Or.inl ⟨h58, hk8, rfl⟩)⟩
      · have hk8 : k < 8 := by
          have : ¬ 8 ≤ k := fun q => h78 (nI_le (a := 8) q (by omega))
          omega
        refine xG_run 3 rfl (by repeat' (first | exact trivial | assumption | exact xob_b rfl | exact xal_b rfl | (apply And.intro) | decide)) ?_
        try dsimp only [xsto1, xsto2, xkill, xget, xset, gd_0, gd_s]
        try simp (disch := omega) only [gI_self, g_ne, sI_sI, hk1, r6, r3, ha, ht, bl_1, nI_1]
        try simp (disch := omega) only [gI_self, g_ne, hk1, r6]
        refine xG_run 8 rfl (by repeat' (first | exact trivial | assumption | exact xob_b rfl | exact xal_b rfl | (apply And.intro) | decide)) ?_
        try dsimp only [xsto1, xsto2, xkill, xget, xset, gd_0, gd_s]
        try simp (disch := omega) only [gI_self, g_ne, sI_sI, hk1, r6, r3, ha, ht, bl_1, nI_1]
        refine xG_run 2 rfl (by repeat' (first | exact trivial | assumption | exact xob_b rfl | exact xal_b rfl | (apply And.intro) | decide)) ?_
        try dsimp only [xsto1, xsto2, xkill, xget, xset, gd_0, gd_s]
        try simp (disch := omega) only [gI_self, g_ne, sI_sI, hk1, r6, r3, ha, ht, bl_1, nI_1]
        refine xG_c2 0 rfl (by repeat' (first | exact trivial | assumption | exact xob_b rfl | exact xal_b rfl | (apply And.intro) | decide)) rfl rfl (by decide) cw_X6_beginOr (d' := d - 1) (e_ubeginOr (k := k + 1) (by omega) ((gI_ne (by omega)).trans (gI_self _ _ _ _))) (by omega) ?_
        rintro v M' ⟨rfl, hM⟩
        subst M'
        dsimp only [Option.toList, List.cons_append, List.nil_append]
        refine xG_run 1 rfl (by repeat' (first | exact trivial | assumption | exact xob_b rfl | exact xal_b rfl | (apply And.intro) | decide)) ?_
        try dsimp only [xsto1, xsto2, xkill, xget, xset, gd_0, gd_s]
        try simp (disch := omega) only [gI_self, g_ne, sI_sI, hk1, r6, r3, ha, ht, bl_1, nI_1]
        refine r2_v rfl rfl ?_
        exact ⟨rfl, Or.inr (Or.inr (Or.inl ⟨h58, hk8, rfl⟩))⟩
    · refine xG_run 2 rfl (by repeat' (first | exact trivial | assumption | exact xob_b rfl | exact xal_b rfl | (apply And.intro) | decide)) ?_
      try dsimp only [xsto1, xsto2, xkill, xget, xset, gd_0, gd_s]
      try simp (disch := omega) only [gI_self, g_ne, sI_sI, hk1, r6, r3, ha, ht, bl_1, nI_1]
      refine xG_c2 0 rfl (by repeat' (first | exact trivial | assumption | exact xob_b rfl | exact xal_b rfl | (apply And.intro) | decide)) rfl rfl (by decide) cw_X6_compares (d' := d - 1) (e_ucompares hC9 r3 hp r4 (by omega)) (by omega) ?_
      rintro v M1 ⟨b, rfl, hb1, k3, k4, hF1⟩
      dsimp only [Option.toList, List.cons_append, List.nil_append]
      refine xG_c2 1 rfl (by repeat' (first | exact trivial | assumption | exact xob_b rfl | exact xal_b rfl | (apply And.intro) | decide)) rfl rfl (by decide) cw_X6_endTest (d' := d - 1) (e_uendTest (b := b) (a := a) (t := tu) hk ((hF1.1 _ _ (by omega)).trans r6) ((hF1.1 _ _ (by omega)).trans ha) ((hF1.1 _ _ (by omega)).trans ht)) (by omega) ?_
      rintro v M' ⟨rfl, hM⟩
      subst M'
      dsimp only [Option.toList, List.cons_append, List.nil_append]
      refine xG_run 1 rfl (by repeat' (first | exact trivial | assumption | exact xob_b rfl | exact xal_b rfl | (apply And.intro) | decide)) ?_
      try dsimp only [xsto1, xsto2, xkill, xget, xset, gd_0, gd_s]
      try simp (disch := omega) only [gI_self, g_ne, sI_sI, hk1, r6, r3, ha, ht, bl_1, nI_1]
      refine r2_v rfl rfl ?_
      exact ⟨rfl, Or.inr (Or.inr (Or.inr ⟨h13, h58, M1, b, hF1, hb1, k3, k4, rfl⟩))⟩
  · refine xG_run 4 rfl (by repeat' (first | exact trivial | assumption | exact xob_b rfl | exact xal_b rfl | (apply And.intro) | decide)) ?_
    try dsimp only [xsto1, xsto2, xkill, xget, xset, gd_0, gd_s]
    try simp (disch := omega) only [gI_self, g_ne, sI_sI, hk1, r6, r3, ha, ht, bl_1, nI_1]
    try simp (disch := omega) only [gI_self, g_ne, hk1, r6]
    refine xG_run 4 rfl (by repeat' (first | exact trivial | assumption | exact xob_b rfl | exact xal_b rfl | (apply And.intro) | decide)) ?_
    try dsimp only [xsto1, xsto2, xkill, xget, xset, gd_0, gd_s]
    try simp (disch := omega) only [gI_self, g_ne, sI_sI, hk1, r6, r3, ha, ht, bl_1, nI_1]
    try simp (disch := omega) only [gI_self, g_ne, hk1, r6]
    refine xG_run 1 rfl (by repeat' (first | exact trivial | assumption | exact xob_b rfl | exact xal_b rfl | (apply And.intro) | decide)) ?_
    try dsimp only [xsto1, xsto2, xkill, xget, xset, gd_0, gd_s]
    try simp (disch := omega) only [gI_self, g_ne, sI_sI, hk1, r6, r3, ha, ht, bl_1, nI_1]
    refine xG_br rfl (fun h33 => ?_) (fun h33 => ?_)
    · refine xG_run 1 rfl (by repeat' (first | exact trivial | assumption | exact xob_b rfl | exact xal_b rfl | (apply And.intro) | decide)) ?_
      try dsimp only [xsto1, xsto2, xkill, xget, xset, gd_0, gd_s]
      try simp (disch := omega) only [gI_self, g_ne, sI_sI, hk1, r6, r3, ha, ht, bl_1, nI_1]
      try simp (disch := omega) only [gI_self, g_ne, hk1, r6]
      refine xG_run 8 rfl (by repeat' (first | exact trivial | assumption | exact xob_b rfl | exact xal_b rfl | (apply And.intro) | decide)) ?_
      try dsimp only [xsto1, xsto2, xkill, xget, xset, gd_0, gd_s]
      try simp (disch := omega) only [gI_self, g_ne, sI_sI, hk1, r6, r3, ha, ht, bl_1, nI_1]
      refine r2_v rfl rfl ?_
      have e : bl2 (!tu) = 0 := by rw [bl_n.mp h33]; rfl
      exact ⟨rfl, Or.inl ⟨Decidable.not_not.mp h13, by rw [e]⟩⟩
    · refine xG_run 2 rfl (by repeat' (first | exact trivial | assumption | exact xob_b rfl | exact xal_b rfl | (apply And.intro) | decide)) ?_
      try dsimp only [xsto1, xsto2, xkill, xget, xset, gd_0, gd_s]
      try simp (disch := omega) only [gI_self, g_ne, sI_sI, hk1, r6, r3, ha, ht, bl_1, nI_1]
      try simp (disch := omega) only [gI_self, g_ne, hk1, r6]
      refine xG_run 8 rfl (by repeat' (first | exact trivial | assumption | exact xob_b rfl | exact xal_b rfl | (apply And.intro) | decide)) ?_
      try dsimp only [xsto1, xsto2, xkill, xget, xset, gd_0, gd_s]
      try simp (disch := omega) only [gI_self, g_ne, sI_sI, hk1, r6, r3, ha, ht, bl_1, nI_1]
      refine r2_v rfl rfl ?_
      have e : bl2 (!tu) = 1 := by rw [bl_0.mp (Decidable.not_not.mp h33)]; rfl
      exact ⟨rfl, Or.inl ⟨Decidable.not_not.mp h13, by rw [e]⟩⟩
set_option maxRecDepth 4000 in
theorem e_ugoOn {κ : xKK} {d : Nat} {M : xM} {t n p k : Nat} {T : Nat → Int32} (hC : uC M t n T) (r3 : gI M 130 3 = nI p) (hpn : p < n) (r4 : gI M 130 4 = 0) (r6 : gI M 130 6 = nI k) (hk : k ≤ 8) {y a a' t' : Bool} (hy : gI M 133 k = bl2 y) (ha : gI M 134 k = bl2 a) (hl : ∀ k', k = k' + 1 → gI M 134 k' = bl2 a' ∧ gI M 135 k' = bl2 t') (hd : 3 ≤ d) : xE2 κ mX6_goOn d [.ref 130] M (fun v M' => v = none ∧ ((chr T n p = 38 ∧ M' = sI (sI M 130 5 1) 130 3 (nI (p + 1))) ∨ (chr T n p = 124 ∧ M' = sI (sI (sI (sI M 133 k (bl2 (y || a))) 134 k 1) 130 5 1) 130 3 (nI (p + 1))) ∨ (chr T n p = 41 ∧ ∃ k', k = k' + 1 ∧ M' = sI (etM (sI M 130 6 (nI k')) k' (y || a) a' t') 130 3 (nI (p + 1))) ∨ (¬ chr T n p = 38 ∧ ¬ chr T n p = 124 ∧ ¬ (chr T n p = 41 ∧ 0 < k) ∧ M' = sI M 130 4 1))) := by
  refine xE2_of ci_X6_goOn cl_X6_goOn cw_X6_goOn rfl (L := [some (.ref 130), none]) rfl ?_
  have hC9 := hC
  obtain ⟨c1, s2, hn2, hT, hsh, ht1, ht2⟩ := hC
  have hb0 : xrf (xpr z2.2.1 M 130 1) = .ref t := by show xrf (gP M 130 1) = _; rw [c1]; rfl
  have har : ∀ k, k < n → xar t 0 182 (nI k) := fun k hk => ⟨120, hsh, ht2, by rw [nI_ti (by omega)]; omega, by rw [nI_ti (by omega)]; omega⟩
  have hch : ∀ k, k < n → gI M t (nI k).toNatClampNeg = chr T n k := fun k hk => by rw [nI_cl (by omega), chr_lt hk]; exact hT k hk
  have hk1 : (nI k).toNatClampNeg = k := nI_cl (by omega)
  have hx3 : xar 133 2 182 (nI k) := xar_n rfl 9 rfl (by omega) (by omega)
  have hx4 : xar 134 2 182 (nI k) := xar_n rfl 9 rfl (by omega) (by omega)
  have hx5 : xar 135 2 182 (nI k) := xar_n rfl 9 rfl (by omega) (by omega)
  have hb9 : ∀ b : Bool, bl2 b &&& 1 = bl2 b := fun b => bl_1
  have hp : p ≤ n := by omega
  have hax := har p hpn
  have hgt := hch p hpn
  refine xG_run 2 rfl (by repeat' (first | exact trivial | assumption | exact xob_b rfl | exact xal_b rfl | (apply And.intro) | decide)) ?_
  try dsimp only [xsto1, xsto2, xkill, xget, xset, gd_0, gd_s]
  try simp (disch := omega) only [gI_self, g_ne, sI_sI, hk1, r6, r3, ha, hy, bl_1, nI_1]
  rw [hb0]
  refine xG_run 2 rfl (by repeat' (first | exact trivial | assumption | exact xob_b rfl | exact xal_b rfl | (apply And.intro) | decide)) ?_
  try dsimp only [xsto1, xsto2, xkill, xget, xset, gd_0, gd_s]
  try simp (disch := omega) only [gI_self, g_ne, sI_sI, hk1, r6, r3, ha, hy, bl_1, nI_1]
  try simp only [r3]
  refine xG_run 1 rfl (by repeat' (first | exact trivial | assumption | exact xob_b rfl | exact xal_b rfl | (apply And.intro) | decide)) ?_
  try dsimp only [xsto1, xsto2, xkill, xget, xset, gd_0, gd_s]
  try simp (disch := omega) only [gI_self, g_ne, sI_sI, hk1, r6, r3, ha, hy, bl_1, nI_1]
  rw [hgt]
  refine xG_run 3 rfl (by repeat' (first | exact trivial | assumption | exact xob_b rfl | exact xal_b rfl | (apply And.intro) | decide)) ?_
  try dsimp only [xsto1, xsto2, xkill, xget, xset, gd_0, gd_s]
  try simp (disch := omega) only [gI_self, g_ne, sI_sI, hk1, r6, r3, ha, hy, bl_1, nI_1]
  refine xG_br rfl (fun h13 => ?_) (fun h13 => ?_)
  · refine xG_run 2 rfl (by repeat' (first | exact trivial | assumption | exact xob_b rfl | exact xal_b rfl | (apply And.intro) | decide)) ?_
    try dsimp only [xsto1, xsto2, xkill, xget, xset, gd_0, gd_s]
    try simp (disch := omega) only [gI_self, g_ne, sI_sI, hk1, r6, r3, ha, hy, bl_1, nI_1]
    refine xG_br rfl (fun h27 => ?_) (fun h27 => ?_)
    · refine xG_run 2 rfl (by repeat' (first | exact trivial | assumption | exact xob_b rfl | exact xal_b rfl | (apply And.intro) | decide)) ?_
      try dsimp only [xsto1, xsto2, xkill, xget, xset, gd_0, gd_s]
      try simp (disch := omega) only [gI_self, g_ne, sI_sI, hk1, r6, r3, ha, hy, bl_1, nI_1]
      refine xG_br rfl (fun h68 => ?_) (fun h68 => ?_)
      · refine xG_run 3 rfl (by repeat' (first | exact trivial | assumption | exact xob_b rfl | exact xal_b rfl | (apply And.intro) | decide)) ?_
        try dsimp only [xsto1, xsto2, xkill, xget, xset, gd_0, gd_s]
        try simp (disch := omega) only [gI_self, g_ne, sI_sI, hk1, r6, r3, ha, hy, bl_1, nI_1]
        refine r2_v rfl rfl ?_
        exact ⟨rfl, Or.inr (Or.inr (Or.inr ⟨h13, h27, fun q => h68 q.1, rfl⟩))⟩
      · refine xG_run 2 rfl (by repeat' (first | exact trivial | assumption | exact xob_b rfl | exact xal_b rfl | (apply And.intro) | decide)) ?_
        try dsimp only [xsto1, xsto2, xkill, xget, xset, gd_0, gd_s]
        try simp (disch := omega) only [gI_self, g_ne, sI_sI, hk1, r6, r3, ha, hy, bl_1, nI_1]
        try simp (disch := omega) only [gI_self, g_ne, hk1, r6]
        refine xG_br rfl (fun h75 => ?_) (fun h75 => ?_)
        · have hk0 : k = 0 := by have := (nI_leI (a := k) (b := 0) (by omega) (by omega)).mp h75; omega
          refine xG_run 3 rfl (by repeat' (first | exact trivial | assumption | exact xob_b rfl | exact xal_b rfl | (apply And.intro) | decide)) ?_
          try dsimp only [xsto1, xsto2, xkill, xget, xset, gd_0, gd_s]
          try simp (disch := omega) only [gI_self, g_ne, sI_sI, hk1, r6, r3, ha, hy, bl_1, nI_1]
          refine r2_v rfl rfl ?_
          exact ⟨rfl, Or.inr (Or.inr (Or.inr ⟨h13, h27, fun q => by omega, rfl⟩))⟩
        · obtain ⟨k', rfl⟩ : ∃ k', k = k' + 1 := ⟨k - 1, by
            have : ¬ k ≤ 0 := fun q => h75 (nI_le (b := 0) q (by omega))
            omega⟩
          have hs1 : nI (k' + 1) - 1 = nI k' := nI_sb1 (by omega)
          obtain ⟨l1, l2⟩ := hl k' rfl
          have hd3 : ∀ w, gI (sI M 130 6 w) 133 (k' + 1) = bl2 y := fun w => (gI_ne (Or.inl (by decide))).trans hy
          have hd4 : ∀ w, gI (sI M 130 6 w) 134 (k' + 1) = bl2 a := fun w => (gI_ne (Or.inl (by decide))).trans ha
          refine xG_run 3 rfl (by repeat' (first | exact trivial | assumption | exact xob_b rfl | exact xal_b rfl | (apply And.intro) | decide)) ?_
          try dsimp only [xsto1, xsto2, xkill, xget, xset, gd_0, gd_s]
          try simp (disch := omega) only [gI_self, g_ne, sI_sI, hk1, r6, r3, ha, hy, bl_1, nI_1]
          try simp (disch := omega) only [gI_self, g_ne, hk1, r6]
          refine xG_run 2 rfl (by repeat' (first | exact trivial | assumption | exact xob_b rfl | exact xal_b rfl | (apply And.intro) | decide)) ?_
          try dsimp only [xsto1, xsto2, xkill, xget, xset, gd_0, gd_s]
          try simp (disch := omega) only [gI_self, g_ne, sI_sI, hk1, r6, r3, ha, hy, bl_1, nI_1]
          rw [hs1]
          refine xG_run 5 rfl (by repeat' (first | exact trivial | assumption | exact xob_b rfl | exact xal_b rfl | (apply And.intro) | decide)) ?_
          try dsimp only [xsto1, xsto2, xkill, xget, xset, gd_0, gd_s]
          try simp (disch := omega) only [gI_self, g_ne, sI_sI, hk1, r6, r3, ha, hy, bl_1, nI_1]
          try simp (disch := omega) only [gI_self, g_ne, hk1, r6]
          refine xG_run 2 rfl (by repeat' (first | exact trivial | assumption | exact xob_b rfl | exact xal_b rfl | (apply And.intro) | decide)) ?_
          try dsimp only [xsto1, xsto2, xkill, xget, xset, gd_0, gd_s]
          try simp (disch := omega) only [gI_self, g_ne, sI_sI, hk1, r6, r3, ha, hy, bl_1, nI_1]
          try rw [nI_1]
          refine xG_c2 1 rfl (by repeat' (first | exact trivial | assumption | exact xob_b rfl | exact xal_b rfl | (apply And.intro) | decide)) rfl rfl (by decide) cw_X6_holdsAt (d' := d - 1) (e_uholdsAt (k := k' + 1) (y := y) (a := a) hk (hd3 _) (hd4 _)) (by omega) ?_
          rintro v M' ⟨rfl, hM⟩
          subst M'
          dsimp only [Option.toList, List.cons_append, List.nil_append]
          refine xG_c2 1 rfl (by repeat' (first | exact trivial | assumption | exact xob_b rfl | exact xal_b rfl | (apply And.intro) | decide)) rfl rfl (by decide) cw_X6_endTest (d' := d - 1) (e_uendTest (k := k') (b := y || a) (a := a') (t := t') (by omega) (gI_self _ _ _ _) ((gI_ne (by omega)).trans l1) ((gI_ne (by omega)).trans l2)) (by omega) ?_
          rintro v M' ⟨rfl, hM⟩
          subst M'
          dsimp only [Option.toList, List.cons_append, List.nil_append]
          refine xG_run 7 rfl (by repeat' (first | exact trivial | assumption | exact xob_b rfl | exact xal_b rfl | (apply And.intro) | decide)) ?_
          try dsimp only [xsto1, xsto2, xkill, xget, xset, gd_0, gd_s]
          try simp (disch := omega) only [gI_self, g_ne, sI_sI, hk1, r6, r3, ha, hy, bl_1, nI_1]
          refine r2_v rfl rfl ?_
          exact ⟨rfl, Or.inr (Or.inr (Or.inl ⟨Decidable.not_not.mp h68, k', rfl, by rw [etM_o (by omega) (by omega), gI_ne (by omega), r3, nI_1]⟩))⟩
    · refine xG_run 4 rfl (by repeat' (first | exact trivial | assumption | exact xob_b rfl | exact xal_b rfl | (apply And.intro) | decide)) ?_
      try dsimp only [xsto1, xsto2, xkill, xget, xset, gd_0, gd_s]
      try simp (disch := omega) only [gI_self, g_ne, sI_sI, hk1, r6, r3, ha, hy, bl_1, nI_1]
      try simp (disch := omega) only [gI_self, g_ne, hk1, r6]
      refine xG_run 3 rfl (by repeat' (first | exact trivial | assumption | exact xob_b rfl | exact xal_b rfl | (apply And.intro) | decide)) ?_
      try dsimp only [xsto1, xsto2, xkill, xget, xset, gd_0, gd_s]
      try simp (disch := omega) only [gI_self, g_ne, sI_sI, hk1, r6, r3, ha, hy, bl_1, nI_1]
      try simp (disch := omega) only [gI_self, g_ne, hk1, r6]
      refine xG_c2 1 rfl (by repeat' (first | exact trivial | assumption | exact xob_b rfl | exact xal_b rfl | (apply And.intro) | decide)) rfl rfl (by decide) cw_X6_holdsAt (d' := d - 1) (e_uholdsAt (y := y) (a := a) hk hy ha) (by omega) ?_
      rintro v M' ⟨rfl, hM⟩
      subst M'
      dsimp only [Option.toList, List.cons_append, List.nil_append]
      have hb8 := hb9 (y || a)
      refine xG_run 5 rfl (by repeat' (first | exact trivial | assumption | exact xob_b rfl | exact xal_b rfl | (apply And.intro) | decide)) ?_
      try dsimp only [xsto1, xsto2, xkill, xget, xset, gd_0, gd_s]
      try simp (disch := omega) only [gI_self, g_ne, sI_sI, hk1, r6, r3, ha, hy, bl_1, nI_1]
      try simp (disch := omega) only [gI_self, g_ne, hk1, r6]
      refine xG_run 1 rfl (by repeat' (first | exact trivial | assumption | exact xob_b rfl | exact xal_b rfl | (apply And.intro) | decide)) ?_
      try dsimp only [xsto1, xsto2, xkill, xget, xset, gd_0, gd_s]
      try simp (disch := omega) only [gI_self, g_ne, sI_sI, hk1, r6, r3, ha, hy, bl_1, nI_1]
      try simp (disch := omega) only [gI_self, g_ne, hk1, r6]
      refine xG_run 8 rfl (by repeat' (first | exact trivial | assumption | exact xob_b rfl | exact xal_b rfl | (apply And.intro) | decide)) ?_
      try dsimp only [xsto1, xsto2, xkill, xget, xset, gd_0, gd_s]
      try simp (disch := omega) only [gI_self, g_ne, sI_sI, hk1, r6, r3, ha, hy, bl_1, nI_1]
      refine xG_run 3 rfl (by repeat' (first | exact trivial | assumption | exact xob_b rfl | exact xal_b rfl | (apply And.intro) | decide)) ?_
      try dsimp only [xsto1, xsto2, xkill, xget, xset, gd_0, gd_s]
      try simp (disch := omega) only [gI_self, g_ne, sI_sI, hk1, r6, r3, ha, hy, bl_1, nI_1]
      refine r2_v rfl rfl ?_
      exact ⟨rfl, Or.inr (Or.inl ⟨Decidable.not_not.mp h27, rfl⟩)⟩
  · refine xG_run 8 rfl (by repeat' (first | exact trivial | assumption | exact xob_b rfl | exact xal_b rfl | (apply And.intro) | decide)) ?_
    try dsimp only [xsto1, xsto2, xkill, xget, xset, gd_0, gd_s]
    try simp (disch := omega) only [gI_self, g_ne, sI_sI, hk1, r6, r3, ha, hy, bl_1, nI_1]
    refine xG_run 2 rfl (by repeat' (first | exact trivial | assumption | exact xob_b rfl | exact xal_b rfl | (apply And.intro) | decide)) ?_
    try dsimp only [xsto1, xsto2, xkill, xget, xset, gd_0, gd_s]
    try simp (disch := omega) only [gI_self, g_ne, sI_sI, hk1, r6, r3, ha, hy, bl_1, nI_1]
    refine r2_v rfl rfl ?_
    exact ⟨rfl, Or.inl ⟨Decidable.not_not.mp h13, rfl⟩⟩
