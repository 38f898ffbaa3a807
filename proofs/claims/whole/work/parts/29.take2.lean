/-! ===== offers and rules, one's over another's ===== -/
def otM (M : xM) (a b : Nat) : xM :=
  let A := sC M (b + 1) 0 (a + 1) 0 8
  let B := sC A (b + 2) 0 (a + 2) 0 8
  let C := sC B (b + 3) 0 (a + 3) 0 8
  sI C a 3 (gI C b 3)
/-- the offers at a are those at b -/
def otR (M : xM) (a b : Nat) (M' : xM) : Prop := gI M' a 3 = gI M b 3 ∧ (∀ i k, i < 3 → k < 8 → gI M' (a + 1 + i) k = gI M (b + 1 + i) k) ∧ (∀ x k, x < a ∨ a + 4 ≤ x → gI M' x k = gI M x k) ∧ (∀ x k, gJ M' x k = gJ M x k) ∧ ∀ x k, gP M' x k = gP M x k
theorem otM_R {M : xM} {a b : Nat} (hab : a + 4 ≤ b ∨ b + 4 ≤ a) : otR M a b (otM M a b) := by
  refine ⟨?_, fun i k hi hk => ?_, fun x k hx => ?_, fun _ _ => rfl, fun _ _ => rfl⟩
  · unfold otM
    simp (disch := omega) only [g_eq, g_ne, g_co]
  · unfold otM
    rcases (show i = 0 ∨ i = 1 ∨ i = 2 by omega) with rfl | rfl | rfl <;>
      (simp (disch := omega) only [g_ne, g_ci, g_co]
       congr 1
       omega)
  · unfold otM
    simp (disch := omega) only [g_ne, g_co]
set_option maxRecDepth 4000 in
theorem e_takeO71 {κ : xKK} {d : Nat} {M : xM}  : xE2 κ mX2_takeFrom d [.ref 71, .ref 118] M (fun v M' => v = none ∧ M' = otM M 71 118) := by
  refine xE2_of ci_X2_takeFrom cl_X2_takeFrom cw_X2_takeFrom rfl (L := [some (.ref 71), some (.ref 118)]) rfl ?_
  refine xG_run 8 rfl (by repeat' (first | exact trivial | assumption | exact xob_b rfl | exact xal_b rfl | (apply And.intro) | decide | exact ⟨8, 8, rfl, rfl, by decide, by decide, by decide, by decide, by decide, by decide, by decide⟩)) ?_
  try dsimp only [xsto1, xsto2, xkill, xget, xset, gd_0, gd_s]
  refine xG_run 8 rfl (by repeat' (first | exact trivial | assumption | exact xob_b rfl | exact xal_b rfl | (apply And.intro) | decide | exact ⟨8, 8, rfl, rfl, by decide, by decide, by decide, by decide, by decide, by decide, by decide⟩)) ?_
  try dsimp only [xsto1, xsto2, xkill, xget, xset, gd_0, gd_s]
  refine xG_run 8 rfl (by repeat' (first | exact trivial | assumption | exact xob_b rfl | exact xal_b rfl | (apply And.intro) | decide | exact ⟨8, 8, rfl, rfl, by decide, by decide, by decide, by decide, by decide, by decide, by decide⟩)) ?_
  try dsimp only [xsto1, xsto2, xkill, xget, xset, gd_0, gd_s]
  refine xG_run 4 rfl (by repeat' (first | exact trivial | assumption | exact xob_b rfl | exact xal_b rfl | (apply And.intro) | decide | exact ⟨8, 8, rfl, rfl, by decide, by decide, by decide, by decide, by decide, by decide, by decide⟩)) ?_
  try dsimp only [xsto1, xsto2, xkill, xget, xset, gd_0, gd_s]
  refine r2_v rfl rfl ?_
  exact ⟨rfl, rfl⟩
set_option maxRecDepth 4000 in
theorem e_takeO118 {κ : xKK} {d : Nat} {M : xM}  : xE2 κ mX2_takeFrom d [.ref 118, .ref 71] M (fun v M' => v = none ∧ M' = otM M 118 71) := by
  refine xE2_of ci_X2_takeFrom cl_X2_takeFrom cw_X2_takeFrom rfl (L := [some (.ref 118), some (.ref 71)]) rfl ?_
  refine xG_run 8 rfl (by repeat' (first | exact trivial | assumption | exact xob_b rfl | exact xal_b rfl | (apply And.intro) | decide | exact ⟨8, 8, rfl, rfl, by decide, by decide, by decide, by decide, by decide, by decide, by decide⟩)) ?_
  try dsimp only [xsto1, xsto2, xkill, xget, xset, gd_0, gd_s]
  refine xG_run 8 rfl (by repeat' (first | exact trivial | assumption | exact xob_b rfl | exact xal_b rfl | (apply And.intro) | decide | exact ⟨8, 8, rfl, rfl, by decide, by decide, by decide, by decide, by decide, by decide, by decide⟩)) ?_
  try dsimp only [xsto1, xsto2, xkill, xget, xset, gd_0, gd_s]
  refine xG_run 8 rfl (by repeat' (first | exact trivial | assumption | exact xob_b rfl | exact xal_b rfl | (apply And.intro) | decide | exact ⟨8, 8, rfl, rfl, by decide, by decide, by decide, by decide, by decide, by decide, by decide⟩)) ?_
  try dsimp only [xsto1, xsto2, xkill, xget, xset, gd_0, gd_s]
  refine xG_run 4 rfl (by repeat' (first | exact trivial | assumption | exact xob_b rfl | exact xal_b rfl | (apply And.intro) | decide | exact ⟨8, 8, rfl, rfl, by decide, by decide, by decide, by decide, by decide, by decide, by decide⟩)) ?_
  try dsimp only [xsto1, xsto2, xkill, xget, xset, gd_0, gd_s]
  refine r2_v rfl rfl ?_
  exact ⟨rfl, rfl⟩
