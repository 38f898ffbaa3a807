/-! ===== offers and rules, one's over another's ===== -/
def otM (M : xM) (a b : Nat) : xM :=
  let A := sC M (b + 1) 0 (a + 1) 0 8
  let B := sC A (b + 2) 0 (a + 2) 0 8
  let C := sC B (b + 3) 0 (a + 3) 0 8
  sI C a 3 (gI C b 3)
/-- the offers at a are those at b -/
def otR (M : xM) (a b : Nat) (M' : xM) : Prop := gI M' a 3 = gI M b 3 ∧ (∀ i k, i < 3 → k < 8 → gI M' (a + 1 + i) k = gI M (b + 1 + i) k) ∧ (∀ x k, x < a ∨ a + 4 ≤ x → gI M' x k = gI M x k) ∧ (∀ x k, gJ M' x k = gJ M x k) ∧ ∀ x k, gP M' x k = gP M x k
theorem otM_R {M : xM} {a b : Nat} (hab : a + 4 ≤ b ∨ b + 4 ≤ a) : otR M a b (otM M a b) := by
  refine ⟨?_, fun i k hi hk => ?_, fun x k hx => ?_, fun _ _ => rfl, fun _ _ => rfl⟩
  · unfold otM
    simp (disch := omega) only [g_eq, g_ne, g_co]
  · unfold otM
    rcases (show i = 0 ∨ i = 1 ∨ i = 2 by omega) with rfl | rfl | rfl <;>
      (simp (disch := omega) only [g_ne, g_ci, g_co]
       congr 1
       omega)
  · unfold otM
    simp (disch := omega) only [g_ne, g_co]
set_option maxRecDepth 4000 in
theorem e_takeO71 {κ : xKK} {d : Nat} {M : xM}  : xE2 κ mX2_takeFrom d [.ref 71, .ref 118] M (fun v M' => v = none ∧ M' = otM M 71 118) := by
  refine xE2_of ci_X2_takeFrom cl_X2_takeFrom cw_X2_takeFrom rfl (L := [some (.ref 71), some (.ref 118)]) rfl ?_
  refine xG_run 8 rfl (by repeat' (first | exact trivial | assumption | exact xob_b rfl | exact xal_b rfl | (apply And.intro) | decide | exact ⟨8, 8, rfl, rfl, by decide, by decide, by decide, by decide, by decide, by decide, by decide⟩)) ?_
  try dsimp only [xsto1, xsto2, xkill, xget, xset, gd_0, gd_s]
  refine xG_run 8 rfl (by repeat' (first | exact trivial | assumption | exact xob_b rfl | exact xal_b rfl | (apply And.intro) | decide | exact ⟨8, 8, rfl, rfl, by decide, by decide, by decide, by decide, by decide, by decide, by decide⟩)) ?_
  try dsimp only [xsto1, xsto2, xkill, xget, xset, gd_0, gd_s]
  refine xG_run 8 rfl (by repeat' (first | exact trivial | assumption | exact xob_b rfl | exact xal_b rfl | (apply And.intro) | decide | exact ⟨8, 8, rfl, rfl, by decide, by decide, by decide, by decide, by decide, by decide, by decide⟩)) ?_
  try dsimp only [xsto1, xsto2, xkill, xget, xset, gd_0, gd_s]
  refine xG_run 4 rfl (by repeat' (first | exact trivial | assumption | exact xob_b rfl | exact xal_b rfl | (apply And.intro) | decide | exact ⟨8, 8, rfl, rfl, by decide, by decide, by decide, by decide, by decide, by decide, by decide⟩)) ?_
  try dsimp only [xsto1, xsto2, xkill, xget, xset, gd_0, gd_s]
  refine r2_v rfl rfl ?_
  exact ⟨rfl, rfl⟩
set_option maxRecDepth 4000 in
theorem e_takeO118 {κ : xKK} {d : Nat} {M : xM}  : xE2 κ mX2_takeFrom d [.ref 118, .ref 71] M (fun v M' => v = none ∧ M' = otM M 118 71) := by
  refine xE2_of ci_X2_takeFrom cl_X2_takeFrom cw_X2_takeFrom rfl (L := [some (.ref 118), some (.ref 71)]) rfl ?_
  refine xG_run 8 rfl (by repeat' (first | exact trivial | assumption | exact xob_b rfl | exact xal_b rfl | (apply And.intro) | decide | exact ⟨8, 8, rfl, rfl, by decide, by decide, by decide, by decide, by decide, by decide, by decide⟩)) ?_
  try dsimp only [xsto1, xsto2, xkill, xget, xset, gd_0, gd_s]
  refine xG_run 8 rfl (by repeat' (first | exact trivial | assumption | exact xob_b rfl | exact xal_b rfl | (apply And.intro) | decide | exact ⟨8, 8, rfl, rfl, by decide, by decide, by decide, by decide, by decide, by decide, by decide⟩)) ?_
  try dsimp only [xsto1, xsto2, xkill, xget, xset, gd_0, gd_s]
  refine xG_run 8 rfl (by repeat' (first | exact trivial | assumption | exact xob_b rfl | exact xal_b rfl | (apply And.intro) | decide | exact ⟨8, 8, rfl, rfl, by decide, by decide, by decide, by decide, by decide, by decide, by decide⟩)) ?_
  try dsimp only [xsto1, xsto2, xkill, xget, xset, gd_0, gd_s]
  refine xG_run 4 rfl (by repeat' (first | exact trivial | assumption | exact xob_b rfl | exact xal_b rfl | (apply And.intro) | decide | exact ⟨8, 8, rfl, rfl, by decide, by decide, by decide, by decide, by decide, by decide, by decide⟩)) ?_
  try dsimp only [xsto1, xsto2, xkill, xget, xset, gd_0, gd_s]
  refine r2_v rfl rfl ?_
  exact ⟨rfl, rfl⟩
def ruM (M : xM) (a b n : Nat) : xM := (fun x k => if (a + 2 ≤ x ∧ x < a + 2 + n) ∧ k < 120 then gI M (b + (x - a)) k else if (x = a + 14 ∨ x = a + 15) ∧ k < n then gI M (b + (x - a)) k else gI M x k, M.2.1, M.2.2)
theorem u_g {M : xM} {a b n x k : Nat} : gI (ruM M a b n) x k = if (a + 2 ≤ x ∧ x < a + 2 + n) ∧ k < 120 then gI M (b + (x - a)) k else if (x = a + 14 ∨ x = a + 15) ∧ k < n then gI M (b + (x - a)) k else gI M x k := rfl
theorem u_1 {M : xM} {a b n x k : Nat} (h : (a + 2 ≤ x ∧ x < a + 2 + n) ∧ k < 120) : gI (ruM M a b n) x k = gI M (b + (x - a)) k := by rw [u_g, if_pos h]
theorem u_2 {M : xM} {a b n x k : Nat} (h : ((x = a + 14 ∨ x = a + 15) ∧ k < n) ∧ n ≤ 12) : gI (ruM M a b n) x k = gI M (b + (x - a)) k := by rw [u_g, if_neg (by omega), if_pos h.1]
theorem u_3 {M : xM} {a b n x k : Nat} (h : ¬ ((a + 2 ≤ x ∧ x < a + 2 + n) ∧ k < 120) ∧ ¬ ((x = a + 14 ∨ x = a + 15) ∧ k < n)) : gI (ruM M a b n) x k = gI M x k := by rw [u_g, if_neg h.1, if_neg h.2]
theorem ruM_s {M : xM} {a b n p q : Nat} (hab : a + 16 ≤ b ∨ b + 16 ≤ a) (hn : n < 12) (hp : p = a + 2 + n) (hq : q = b + 2 + n) :
    sI (sI (sC (ruM M a b n) q 0 p 0 120) (a + 14) n (gI (sC (ruM M a b n) q 0 p 0 120) (b + 14) n)) (a + 15) n (gI (sI (sC (ruM M a b n) q 0 p 0 120) (a + 14) n (gI (sC (ruM M a b n) q 0 p 0 120) (b + 14) n)) (b + 15) n) = ruM M a b (n + 1) := by
  subst hp hq
  refine xM_ext (fun x k => ?_) (fun _ _ => rfl) (fun _ _ => rfl)
  by_cases c1 : x = a + 15 ∧ k = n
  · obtain ⟨rfl, rfl⟩ := c1
    simp (disch := omega) only [g_eq, g_ne, g_co, u_2, u_3]
    congr 1
    omega
  · by_cases c2 : x = a + 14 ∧ k = n
    · obtain ⟨rfl, rfl⟩ := c2
      simp (disch := omega) only [g_eq, g_ne, g_co, u_2, u_3]
      congr 1
      omega
    · by_cases c3 : x = a + 2 + n ∧ k < 120
      · obtain ⟨rfl, c4⟩ := c3
        simp (disch := omega) only [g_ne, g_ci, u_1, u_3]
        congr 1 <;> omega
      · by_cases c5 : (a + 2 ≤ x ∧ x < a + 2 + n) ∧ k < 120
        · simp (disch := omega) only [g_ne, g_co, u_1]
        · by_cases c6 : (x = a + 14 ∨ x = a + 15) ∧ k < n
          · simp (disch := omega) only [g_ne, g_co, u_2]
          · simp (disch := omega) only [g_ne, g_co, u_3]
set_option maxRecDepth 4000 in
theorem e_takeU55 {κ : xKK} {d : Nat} {M : xM} (hb : ∀ k, k < 12 → gI M 117 k &&& 1 = gI M 117 k) : xE2 κ mX7_takeFrom d [.ref 55, .ref 102] M (fun v M' => v = none ∧ M' = sI (ruM M 55 102 12) 55 3 (gI (ruM M 55 102 12) 102 3)) := by
  refine xE2_of ci_X7_takeFrom cl_X7_takeFrom cw_X7_takeFrom rfl (L := [some (.ref 55), some (.ref 102), none]) rfl ?_
  refine xG_run 2 rfl (by repeat' (first | exact trivial | assumption | exact xob_b rfl | exact xal_b rfl | (apply And.intro) | decide)) ?_
  try dsimp only [xsto1, xsto2, xkill, xget, xset, gd_0, gd_s]
  have e0 : M = ruM M 55 102 0 := xM_ext (fun x k => by rw [u_g, if_neg (by omega), if_neg (by omega)]) (fun _ _ => rfl) (fun _ _ => rfl)
  show xG κ mX7_takeFrom _ (2, [some (.ref 55), some (.ref 102), some (.int (nI 0))], [], M, z2) _
  conv => arg 4; rw [e0]
  refine xG_up (fun j => (2, [some (.ref 55), some (.ref 102), some (.int (nI j))], [], ruM M 55 102 j, z2)) 12 ?_ ?_ 0 (Nat.zero_le _)
  · intro j hj ih
    have hj1 : (nI j).toNatClampNeg = j := nI_cl (by omega)
    have hcp : xcp (104 + (nI j).toNatClampNeg) (57 + (nI j).toNatClampNeg) z2.fst 0 0 120 := by
      rw [hj1]
      exact ⟨120, 120, (show ∀ j, j < 12 → shp[104 + j]? = some (.inr (0, 120)) from by decide +kernel) j hj, (show ∀ j, j < 12 → shp[57 + j]? = some (.inr (0, 120)) from by decide +kernel) j hj, by show 104 + j < 182; omega, by show 57 + j < 182; omega, by decide, by decide, by decide, by decide, by decide⟩
    have hqa : xqr 56 182 (nI j) := xqr_n rfl 12 rfl (by omega) (by omega)
    have hqb : xqr 103 182 (nI j) := xqr_n rfl 12 rfl (by omega) (by omega)
    have hsa : xar 69 0 182 (nI j) := xar_n rfl 12 rfl (by omega) (by omega)
    have hsb : xar 116 0 182 (nI j) := xar_n rfl 12 rfl (by omega) (by omega)
    have hta : xar 70 2 182 (nI j) := xar_n rfl 12 rfl (by omega) (by omega)
    have htb : xar 117 2 182 (nI j) := xar_n rfl 12 rfl (by omega) (by omega)
    have hbj := hb j hj
    refine xG_run 2 rfl (by repeat' (first | exact trivial | assumption | exact xob_b rfl | exact xal_b rfl | (apply And.intro) | decide | (simp (disch := omega) only [hj1, g_ne, g_co, u_3]; assumption))) ?_
    try dsimp only [xsto1, xsto2, xkill, xget, xset, gd_0, gd_s]
    refine xG_brF rfl (show ¬ nI 12 ≤ nI j from nI_ge hj (by omega)) ?_
    refine xG_run 8 rfl (by repeat' (first | exact trivial | assumption | exact xob_b rfl | exact xal_b rfl | (apply And.intro) | decide | (simp (disch := omega) only [hj1, g_ne, g_co, u_3]; assumption))) ?_
    try dsimp only [xsto1, xsto2, xkill, xget, xset, gd_0, gd_s]
    refine xG_run 8 rfl (by repeat' (first | exact trivial | assumption | exact xob_b rfl | exact xal_b rfl | (apply And.intro) | decide | (simp (disch := omega) only [hj1, g_ne, g_co, u_3]; assumption))) ?_
    try dsimp only [xsto1, xsto2, xkill, xget, xset, gd_0, gd_s]
    refine xG_run 8 rfl (by repeat' (first | exact trivial | assumption | exact xob_b rfl | exact xal_b rfl | (apply And.intro) | decide | (simp (disch := omega) only [hj1, g_ne, g_co, u_3]; assumption))) ?_
    try dsimp only [xsto1, xsto2, xkill, xget, xset, gd_0, gd_s]
    refine xG_run 6 rfl (by repeat' (first | exact trivial | assumption | exact xob_b rfl | exact xal_b rfl | (apply And.intro) | decide | (simp (disch := omega) only [hj1, g_ne, g_co, u_3]; assumption))) ?_
    try dsimp only [xsto1, xsto2, xkill, xget, xset, gd_0, gd_s]
    simp only [hj1]
    rw [show (0 : Int32).toNatClampNeg = 0 from rfl, show (120 : Int32).toNatClampNeg = 120 from rfl, ruM_s (p := 57 + j) (q := 104 + j) (by omega) hj (by omega) (by omega), nI_1]
    exact ih
  · refine xG_run 2 rfl (by repeat' (first | exact trivial | assumption | exact xob_b rfl | exact xal_b rfl | (apply And.intro) | decide)) ?_
    try dsimp only [xsto1, xsto2, xkill, xget, xset, gd_0, gd_s]
    refine xG_brT rfl (show nI 12 ≤ nI 12 from Int32.le_refl _) ?_
    refine xG_run 4 rfl (by repeat' (first | exact trivial | assumption | exact xob_b rfl | exact xal_b rfl | (apply And.intro) | decide)) ?_
    try dsimp only [xsto1, xsto2, xkill, xget, xset, gd_0, gd_s]
    refine r2_v rfl rfl ?_
    exact ⟨rfl, rfl⟩
set_option maxRecDepth 4000 in
theorem e_takeU102 {κ : xKK} {d : Nat} {M : xM} (hb : ∀ k, k < 12 → gI M 70 k &&& 1 = gI M 70 k) : xE2 κ mX7_takeFrom d [.ref 102, .ref 55] M (fun v M' => v = none ∧ M' = sI (ruM M 102 55 12) 102 3 (gI (ruM M 102 55 12) 55 3)) := by
  refine xE2_of ci_X7_takeFrom cl_X7_takeFrom cw_X7_takeFrom rfl (L := [some (.ref 102), some (.ref 55), none]) rfl ?_
  refine xG_run 2 rfl (by repeat' (first | exact trivial | assumption | exact xob_b rfl | exact xal_b rfl | (apply And.intro) | decide)) ?_
  try dsimp only [xsto1, xsto2, xkill, xget, xset, gd_0, gd_s]
  have e0 : M = ruM M 102 55 0 := xM_ext (fun x k => by rw [u_g, if_neg (by omega), if_neg (by omega)]) (fun _ _ => rfl) (fun _ _ => rfl)
  show xG κ mX7_takeFrom _ (2, [some (.ref 102), some (.ref 55), some (.int (nI 0))], [], M, z2) _
  conv => arg 4; rw [e0]
  refine xG_up (fun j => (2, [some (.ref 102), some (.ref 55), some (.int (nI j))], [], ruM M 102 55 j, z2)) 12 ?_ ?_ 0 (Nat.zero_le _)
  · intro j hj ih
    have hj1 : (nI j).toNatClampNeg = j := nI_cl (by omega)
    have hcp : xcp (57 + (nI j).toNatClampNeg) (104 + (nI j).toNatClampNeg) z2.fst 0 0 120 := by
      rw [hj1]
      exact ⟨120, 120, (show ∀ j, j < 12 → shp[57 + j]? = some (.inr (0, 120)) from by decide +kernel) j hj, (show ∀ j, j < 12 → shp[104 + j]? = some (.inr (0, 120)) from by decide +kernel) j hj, by show 57 + j < 182; omega, by show 104 + j < 182; omega, by decide, by decide, by decide, by decide, by decide⟩
    have hqa : xqr 103 182 (nI j) := xqr_n rfl 12 rfl (by omega) (by omega)
    have hqb : xqr 56 182 (nI j) := xqr_n rfl 12 rfl (by omega) (by omega)
    have hsa : xar 116 0 182 (nI j) := xar_n rfl 12 rfl (by omega) (by omega)
    have hsb : xar 69 0 182 (nI j) := xar_n rfl 12 rfl (by omega) (by omega)
    have hta : xar 117 2 182 (nI j) := xar_n rfl 12 rfl (by omega) (by omega)
    have htb : xar 70 2 182 (nI j) := xar_n rfl 12 rfl (by omega) (by omega)
    have hbj := hb j hj
    refine xG_run 2 rfl (by repeat' (first | exact trivial | assumption | exact xob_b rfl | exact xal_b rfl | (apply And.intro) | decide | (simp (disch := omega) only [hj1, g_ne, g_co, u_3]; assumption))) ?_
    try dsimp only [xsto1, xsto2, xkill, xget, xset, gd_0, gd_s]
    refine xG_brF rfl (show ¬ nI 12 ≤ nI j from nI_ge hj (by omega)) ?_
    refine xG_run 8 rfl (by repeat' (first | exact trivial | assumption | exact xob_b rfl | exact xal_b rfl | (apply And.intro) | decide | (simp (disch := omega) only [hj1, g_ne, g_co, u_3]; assumption))) ?_
    try dsimp only [xsto1, xsto2, xkill, xget, xset, gd_0, gd_s]
    refine xG_run 8 rfl (by repeat' (first | exact trivial | assumption | exact xob_b rfl | exact xal_b rfl | (apply And.intro) | decide | (simp (disch := omega) only [hj1, g_ne, g_co, u_3]; assumption))) ?_
    try dsimp only [xsto1, xsto2, xkill, xget, xset, gd_0, gd_s]
    refine xG_run 8 rfl (by repeat' (first | exact trivial | assumption | exact xob_b rfl | exact xal_b rfl | (apply And.intro) | decide | (simp (disch := omega) only [hj1, g_ne, g_co, u_3]; assumption))) ?_
    try dsimp only [xsto1, xsto2, xkill, xget, xset, gd_0, gd_s]
    refine xG_run 6 rfl (by repeat' (first | exact trivial | assumption | exact xob_b rfl | exact xal_b rfl | (apply And.intro) | decide | (simp (disch := omega) only [hj1, g_ne, g_co, u_3]; assumption))) ?_
    try dsimp only [xsto1, xsto2, xkill, xget, xset, gd_0, gd_s]
    simp only [hj1]
    rw [show (0 : Int32).toNatClampNeg = 0 from rfl, show (120 : Int32).toNatClampNeg = 120 from rfl, ruM_s (p := 104 + j) (q := 57 + j) (by omega) hj (by omega) (by omega), nI_1]
    exact ih
  · refine xG_run 2 rfl (by repeat' (first | exact trivial | assumption | exact xob_b rfl | exact xal_b rfl | (apply And.intro) | decide)) ?_
    try dsimp only [xsto1, xsto2, xkill, xget, xset, gd_0, gd_s]
    refine xG_brT rfl (show nI 12 ≤ nI 12 from Int32.le_refl _) ?_
    refine xG_run 4 rfl (by repeat' (first | exact trivial | assumption | exact xob_b rfl | exact xal_b rfl | (apply And.intro) | decide)) ?_
    try dsimp only [xsto1, xsto2, xkill, xget, xset, gd_0, gd_s]
    refine r2_v rfl rfl ?_
    exact ⟨rfl, rfl⟩
def ruX (M : xM) (a b : Nat) : xM := sI (ruM M a b 12) a 3 (gI (ruM M a b 12) b 3)
theorem tk_out {M : xM} {a b x k : Nat} (hab : a + 27 ≤ b ∨ b + 27 ≤ a) (h : x < a ∨ a + 27 ≤ x) : gI (tkM M a b) x k = gI M x k := (tkM_R hab).2.2.2.2.2.1 x k h
set_option maxRecDepth 4000 in
theorem e_x_image {κ : xKK} {d : Nat} {M : xM} (hb : ∀ k, k < 12 → gI M 70 k &&& 1 = gI M 70 k) (hd : 2 ≤ d) : xE2 κ mX11_image d [.ref 0] M (fun v M' => v = some (.int (gI M' 1 1)) ∧ M' = sI (otM (ruX (tkM M 75 1) 102 55) 118 71) 0 7 1) := by
  refine xE2_of ci_X11_image cl_X11_image cw_X11_image rfl (L := [some (.ref 0)]) rfl ?_
  refine xG_run 4 rfl (by repeat' (first | exact trivial | assumption | exact xob_b rfl | exact xal_b rfl | (apply And.intro) | decide)) ?_
  try dsimp only [xsto1, xsto2, xkill, xget, xset, gd_0, gd_s]
  refine xG_c2 1 rfl (by repeat' (first | exact trivial | assumption | exact xob_b rfl | exact xal_b rfl | (apply And.intro) | decide)) rfl rfl (by decide) cw_X1_takeFrom (d' := d - 1) (e_take75_1 (by omega)) (by omega) ?_
  rintro v M' ⟨rfl, hM⟩
  subst hM
  dsimp only [Option.toList, List.cons_append, List.nil_append]
  refine xG_run 4 rfl (by repeat' (first | exact trivial | assumption | exact xob_b rfl | exact xal_b rfl | (apply And.intro) | decide)) ?_
  try dsimp only [xsto1, xsto2, xkill, xget, xset, gd_0, gd_s]
  refine xG_c2 1 rfl (by repeat' (first | exact trivial | assumption | exact xob_b rfl | exact xal_b rfl | (apply And.intro) | decide)) rfl rfl (by decide) cw_X7_takeFrom (d' := d - 1) (e_takeU102 (fun k hk => by rw [tk_out (by omega) (by omega)]; exact hb k hk)) (by omega) ?_
  rintro v M' ⟨rfl, hM⟩
  subst hM
  dsimp only [Option.toList, List.cons_append, List.nil_append]
  refine xG_run 4 rfl (by repeat' (first | exact trivial | assumption | exact xob_b rfl | exact xal_b rfl | (apply And.intro) | decide)) ?_
  try dsimp only [xsto1, xsto2, xkill, xget, xset, gd_0, gd_s]
  refine xG_c2 1 rfl (by repeat' (first | exact trivial | assumption | exact xob_b rfl | exact xal_b rfl | (apply And.intro) | decide)) rfl rfl (by decide) cw_X2_takeFrom (d' := d - 1) (e_takeO118) (by omega) ?_
  rintro v M' ⟨rfl, hM⟩
  subst hM
  dsimp only [Option.toList, List.cons_append, List.nil_append]
  refine xG_run 6 rfl (by repeat' (first | exact trivial | assumption | exact xob_b rfl | exact xal_b rfl | (apply And.intro) | decide)) ?_
  try dsimp only [xsto1, xsto2, xkill, xget, xset, gd_0, gd_s]
  refine r2_i rfl rfl ?_
  exact ⟨rfl, rfl⟩
set_option maxRecDepth 4000 in
theorem e_x_restore {κ : xKK} {d : Nat} {M : xM} (hb : ∀ k, k < 12 → gI M 117 k &&& 1 = gI M 117 k) (hd : 2 ≤ d) : xE2 κ mX11_restore d [.ref 0] M (fun v M' => (¬ gI M 0 7 = 0 ∧ v = some (.int (gI M' 1 1)) ∧ M' = otM (ruX (tkM M 1 75) 55 102) 71 118) ∨ (gI M 0 7 = 0 ∧ v = some (.int (-3)) ∧ M' = M)) := by
  refine xE2_of ci_X11_restore cl_X11_restore cw_X11_restore rfl (L := [some (.ref 0)]) rfl ?_
  refine xG_run 2 rfl (by repeat' (first | exact trivial | assumption | exact xob_b rfl | exact xal_b rfl | (apply And.intro) | decide)) ?_
  try dsimp only [xsto1, xsto2, xkill, xget, xset, gd_0, gd_s]
  refine xG_br rfl (fun h4 => ?_) (fun h4 => ?_)
  · refine xG_run 4 rfl (by repeat' (first | exact trivial | assumption | exact xob_b rfl | exact xal_b rfl | (apply And.intro) | decide)) ?_
    try dsimp only [xsto1, xsto2, xkill, xget, xset, gd_0, gd_s]
    refine xG_c2 1 rfl (by repeat' (first | exact trivial | assumption | exact xob_b rfl | exact xal_b rfl | (apply And.intro) | decide)) rfl rfl (by decide) cw_X1_takeFrom (d' := d - 1) (e_take1_75 (by omega)) (by omega) ?_
    rintro v M' ⟨rfl, hM⟩
    subst hM
    dsimp only [Option.toList, List.cons_append, List.nil_append]
    refine xG_run 4 rfl (by repeat' (first | exact trivial | assumption | exact xob_b rfl | exact xal_b rfl | (apply And.intro) | decide)) ?_
    try dsimp only [xsto1, xsto2, xkill, xget, xset, gd_0, gd_s]
    refine xG_c2 1 rfl (by repeat' (first | exact trivial | assumption | exact xob_b rfl | exact xal_b rfl | (apply And.intro) | decide)) rfl rfl (by decide) cw_X7_takeFrom (d' := d - 1) (e_takeU55 (fun k hk => by rw [tk_out (by omega) (by omega)]; exact hb k hk)) (by omega) ?_
    rintro v M' ⟨rfl, hM⟩
    subst hM
    dsimp only [Option.toList, List.cons_append, List.nil_append]
    refine xG_run 4 rfl (by repeat' (first | exact trivial | assumption | exact xob_b rfl | exact xal_b rfl | (apply And.intro) | decide)) ?_
    try dsimp only [xsto1, xsto2, xkill, xget, xset, gd_0, gd_s]
    refine xG_c2 1 rfl (by repeat' (first | exact trivial | assumption | exact xob_b rfl | exact xal_b rfl | (apply And.intro) | decide)) rfl rfl (by decide) cw_X2_takeFrom (d' := d - 1) (e_takeO71) (by omega) ?_
    rintro v M' ⟨rfl, hM⟩
    subst hM
    dsimp only [Option.toList, List.cons_append, List.nil_append]
    refine xG_run 3 rfl (by repeat' (first | exact trivial | assumption | exact xob_b rfl | exact xal_b rfl | (apply And.intro) | decide)) ?_
    try dsimp only [xsto1, xsto2, xkill, xget, xset, gd_0, gd_s]
    refine r2_i rfl rfl ?_
    first
      | exact Or.inl ⟨h4, rfl, rfl⟩
      | exact Or.inr ⟨Decidable.not_not.mp h4, rfl, rfl⟩
  · refine xG_run 1 rfl (by repeat' (first | exact trivial | assumption | exact xob_b rfl | exact xal_b rfl | (apply And.intro) | decide)) ?_
    try dsimp only [xsto1, xsto2, xkill, xget, xset, gd_0, gd_s]
    refine r2_i rfl rfl ?_
    first
      | exact Or.inl ⟨h4, rfl, rfl⟩
      | exact Or.inr ⟨Decidable.not_not.mp h4, rfl, rfl⟩
