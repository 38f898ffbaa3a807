/-! ===== one part's fields over another's; a mast's over another's ===== -/
theorem cpM_g {M : xM} {a b n x k : Nat} : gI (cpM M a b n) x k = if x = a ∧ k < n then gI M b k else gI M x k := rfl
theorem cpM_s {M : xM} {a b n n' : Nat} (h : a ≠ b) (e : n' = n + 1) : sI (cpM M a b n) a n (gI (cpM M a b n) b n) = cpM M a b n' := by
  subst e
  refine xM_ext (fun x k => ?_) (fun _ _ => rfl) (fun _ _ => rfl)
  rw [gIsI, cpM_g, cpM_g, cpM_g]
  by_cases c : x = a
  · by_cases c2 : k = n
    · rw [if_pos ⟨c, c2⟩, if_neg (show ¬ (b = a ∧ n < n) from fun q => h q.1.symm), if_pos ⟨c, by omega⟩, c2]
    · rw [if_neg (fun q => c2 q.2)]
      by_cases c3 : k < n
      · rw [if_pos ⟨c, c3⟩, if_pos ⟨c, by omega⟩]
      · rw [if_neg (fun q => c3 q.2), if_neg (fun q => c3 (by omega))]
  · rw [if_neg (fun q => c q.1), if_neg (fun q => c q.1), if_neg (fun q => c q.1)]
theorem cpM_1 {M : xM} {a b : Nat} (h : a ≠ b) : sI M a 0 (gI M b 0) = cpM M a b 1 := by
  have e : cpM M a b 0 = M := xM_ext (fun x k => by rw [cpM_g, if_neg (fun q => absurd q.2 (by omega))]) (fun _ _ => rfl) (fun _ _ => rfl)
  have := cpM_s (M := M) (n := 0) h rfl
  rw [e] at this
  exact this
set_option maxRecDepth 4000 in
theorem e_takeP {κ : xKK} {d : Nat} {M : xM} {a b : Nat} (ha : xob a 3 182) (hb : xob b 3 182) (hab : a ≠ b) : xE2 κ mX3_takeFrom d [.ref a, .ref b] M (fun v M' => v = none ∧ M' = cpM M a b 8) := by
  refine xE2_of ci_X3_takeFrom cl_X3_takeFrom cw_X3_takeFrom rfl (L := [some (.ref a), some (.ref b)]) rfl ?_
  refine xG_run 8 rfl (by repeat' (first | exact trivial | assumption | exact xob_b rfl | exact xal_b rfl | (apply And.intro) | decide)) ?_
  try dsimp only [xsto1, xsto2, xkill, xget, xset, gd_0, gd_s]
  refine xG_run 8 rfl (by repeat' (first | exact trivial | assumption | exact xob_b rfl | exact xal_b rfl | (apply And.intro) | decide)) ?_
  try dsimp only [xsto1, xsto2, xkill, xget, xset, gd_0, gd_s]
  refine xG_run 8 rfl (by repeat' (first | exact trivial | assumption | exact xob_b rfl | exact xal_b rfl | (apply And.intro) | decide)) ?_
  try dsimp only [xsto1, xsto2, xkill, xget, xset, gd_0, gd_s]
  refine xG_run 8 rfl (by repeat' (first | exact trivial | assumption | exact xob_b rfl | exact xal_b rfl | (apply And.intro) | decide)) ?_
  try dsimp only [xsto1, xsto2, xkill, xget, xset, gd_0, gd_s]
  refine r2_v rfl rfl ?_
  refine ⟨rfl, ?_⟩
  rw [cpM_1 hab, cpM_s (n := 1) (n' := 2) hab rfl, cpM_s (n := 2) (n' := 3) hab rfl, cpM_s (n := 3) (n' := 4) hab rfl, cpM_s (n := 4) (n' := 5) hab rfl, cpM_s (n := 5) (n' := 6) hab rfl, cpM_s (n := 6) (n' := 7) hab rfl, cpM_s (n := 7) (n' := 8) hab rfl]
set_option maxRecDepth 4000 in
theorem e_takeR {κ : xKK} {d : Nat} {M : xM} {a b : Nat} (ha : xob a 5 182) (hb : xob b 5 182) (hab : a ≠ b) : xE2 κ mX5_takeFrom d [.ref a, .ref b] M (fun v M' => v = none ∧ M' = cpM M a b 7) := by
  refine xE2_of ci_X5_takeFrom cl_X5_takeFrom cw_X5_takeFrom rfl (L := [some (.ref a), some (.ref b)]) rfl ?_
  refine xG_run 8 rfl (by repeat' (first | exact trivial | assumption | exact xob_b rfl | exact xal_b rfl | (apply And.intro) | decide)) ?_
  try dsimp only [xsto1, xsto2, xkill, xget, xset, gd_0, gd_s]
  refine xG_run 8 rfl (by repeat' (first | exact trivial | assumption | exact xob_b rfl | exact xal_b rfl | (apply And.intro) | decide)) ?_
  try dsimp only [xsto1, xsto2, xkill, xget, xset, gd_0, gd_s]
  refine xG_run 8 rfl (by repeat' (first | exact trivial | assumption | exact xob_b rfl | exact xal_b rfl | (apply And.intro) | decide)) ?_
  try dsimp only [xsto1, xsto2, xkill, xget, xset, gd_0, gd_s]
  refine xG_run 4 rfl (by repeat' (first | exact trivial | assumption | exact xob_b rfl | exact xal_b rfl | (apply And.intro) | decide)) ?_
  try dsimp only [xsto1, xsto2, xkill, xget, xset, gd_0, gd_s]
  refine r2_v rfl rfl ?_
  refine ⟨rfl, ?_⟩
  rw [cpM_1 hab, cpM_s (n := 1) (n' := 2) hab rfl, cpM_s (n := 2) (n' := 3) hab rfl, cpM_s (n := 3) (n' := 4) hab rfl, cpM_s (n := 4) (n' := 5) hab rfl, cpM_s (n := 5) (n' := 6) hab rfl, cpM_s (n := 6) (n' := 7) hab rfl]
def rgM (M : xM) (a b s e n : Nat) : xM := (fun x k => if (a + s ≤ x ∧ x < a + e) ∧ k < n then gI M (b + (x - a)) k else gI M x k, M.2.1, M.2.2)
theorem rgM_g {M : xM} {a b s e n x k : Nat} : gI (rgM M a b s e n) x k = if (a + s ≤ x ∧ x < a + e) ∧ k < n then gI M (b + (x - a)) k else gI M x k := rfl
theorem rgM_0 {M : xM} {a b s n : Nat} : rgM M a b s s n = M := xM_ext (fun x k => by rw [rgM_g, if_neg (by omega)]) (fun _ _ => rfl) (fun _ _ => rfl)
theorem rgM_s {M : xM} {a b s e n p q : Nat} (hab : a + 27 ≤ b ∨ b + 27 ≤ a) (he : e < 27) (hs : s ≤ e) (hp : p = a + e) (hq : q = b + e) : cpM (rgM M a b s e n) p q n = rgM M a b s (e + 1) n := by
  subst hp hq
  refine xM_ext (fun x k => ?_) (fun _ _ => rfl) (fun _ _ => rfl)
  rw [cpM_g, rgM_g, rgM_g, rgM_g, if_neg (show ¬ ((a + s ≤ b + e ∧ b + e < a + e) ∧ k < n) by omega)]
  by_cases c : x = a + e ∧ k < n
  · rw [if_pos c, if_pos (by omega), show b + (x - a) = b + e by omega]
  · rw [if_neg c]
    by_cases c2 : (a + s ≤ x ∧ x < a + e) ∧ k < n
    · rw [if_pos c2, if_pos (by omega)]
    · rw [if_neg c2, if_neg (by omega)]
/-- mast a holds what mast b held -/
def tkR (M : xM) (a b : Nat) (M' : xM) : Prop := (∀ k, k = 1 ∨ k = 3 ∨ k = 4 ∨ k = 5 ∨ k = 6 ∨ k = 9 → gI M' a k = gI M b k) ∧ (∀ k, k < 5 → gI M' (a + 3) k = gI M (b + 3) k) ∧ (∀ k, k < 8 → gI M' (a + 4) k = gI M (b + 4) k) ∧ (∀ i k, i < 10 → k < 8 → gI M' (a + 5 + i) k = gI M (b + 5 + i) k) ∧ (∀ i k, i < 12 → k < 7 → gI M' (a + 15 + i) k = gI M (b + 15 + i) k) ∧ (∀ x k, x < a ∨ a + 27 ≤ x → gI M' x k = gI M x k) ∧ (∀ x k, gJ M' x k = gJ M x k) ∧ ∀ x k, gP M' x k = gP M x k
def tkM (M : xM) (a b : Nat) : xM :=
  let A := rgM M a b 5 15 8
  let B := rgM (sI A a 1 (gI A b 1)) a b 15 27 7
  let C := sI B a 3 (gI B b 3)
  let D := sI C a 4 (gI C b 4)
  let E := sI D a 5 (gI D b 5)
  let F := sI E a 6 (gI E b 6)
  let G := sC F (b + 3) 0 (a + 3) 0 5
  let H := sC G (b + 4) 0 (a + 4) 0 8
  sI H a 9 (gI H b 9)
theorem g_ne {M : xM} {a k x k' : Nat} {v : Int32} (h : x ≠ a ∨ k' ≠ k) : gI (sI M a k v) x k' = gI M x k' := gI_ne h
theorem g_eq {M : xM} {a k x k' : Nat} {v : Int32} (h : x = a ∧ k' = k) : gI (sI M a k v) x k' = v := by rw [h.1, h.2, gI_self]
theorem g_ci {M : xM} {a i b j n x k : Nat} (h : x = b ∧ j ≤ k ∧ k < j + n) : gI (sC M a i b j n) x k = gI M a (i + (k - j)) := by rw [gIsC, if_pos h.1, if_pos h.2]
theorem g_co {M : xM} {a i b j n x k : Nat} (h : x ≠ b ∨ ¬ (j ≤ k ∧ k < j + n)) : gI (sC M a i b j n) x k = gI M x k := by
  rw [gIsC]
  by_cases c : x = b
  · subst c
    rw [if_pos rfl, if_neg (by omega)]
  · rw [if_neg c]
theorem g_ri {M : xM} {a b s e n x k : Nat} (h : (a + s ≤ x ∧ x < a + e) ∧ k < n) : gI (rgM M a b s e n) x k = gI M (b + (x - a)) k := by rw [rgM_g, if_pos h]
theorem g_ro {M : xM} {a b s e n x k : Nat} (h : ¬ ((a + s ≤ x ∧ x < a + e) ∧ k < n)) : gI (rgM M a b s e n) x k = gI M x k := by rw [rgM_g, if_neg h]
theorem tkM_R {M : xM} {a b : Nat} (hab : a + 27 ≤ b ∨ b + 27 ≤ a) : tkR M a b (tkM M a b) := by
  refine ⟨fun k hk => ?_, fun k hk => ?_, fun k hk => ?_, fun i k hi hk => ?_, fun i k hi hk => ?_, fun x k hx => ?_, fun _ _ => rfl, fun _ _ => rfl⟩
  · unfold tkM
    rcases hk with rfl | rfl | rfl | rfl | rfl | rfl <;> simp (disch := omega) only [g_eq, g_ne, g_co, g_ri, g_ro]
  · unfold tkM
    simp (disch := omega) only [g_ne, g_ci, g_co, g_ri, g_ro]
    congr 1
    omega
  · unfold tkM
    simp (disch := omega) only [g_ne, g_ci, g_co, g_ri, g_ro]
    congr 1
    omega
  · unfold tkM
    simp (disch := omega) only [g_ne, g_co, g_ri, g_ro]
    congr 1
    omega
  · unfold tkM
    simp (disch := omega) only [g_ne, g_co, g_ri, g_ro]
    congr 1
    omega
  · unfold tkM
    simp (disch := omega) only [g_ne, g_co, g_ri, g_ro]
set_option maxRecDepth 4000 in
theorem e_take28_1 {κ : xKK} {d : Nat} {M : xM} (hd : 1 ≤ d) : xE2 κ mX1_takeFrom d [.ref 28, .ref 1] M (fun v M' => v = none ∧ M' = tkM M 28 1) := by
  refine xE2_of ci_X1_takeFrom cl_X1_takeFrom cw_X1_takeFrom rfl (L := [some (.ref 28), some (.ref 1), none]) rfl ?_
  refine xG_run 2 rfl (by repeat' (first | exact trivial | assumption | exact xob_b rfl | exact xal_b rfl | (apply And.intro) | decide)) ?_
  try dsimp only [xsto1, xsto2, xkill, xget, xset, gd_0, gd_s]
  have e0 : M = rgM M 28 1 5 5 8 := rgM_0.symm
  show xG κ mX1_takeFrom _ (2, [some (.ref 28), some (.ref 1), some (.int (nI 0))], [], M, z2) _
  conv => arg 4; rw [e0]
  refine xG_up (fun j => (2, [some (.ref 28), some (.ref 1), some (.int (nI j))], [], rgM M 28 1 5 (5 + j) 8, z2)) 10 ?_ ?_ 0 (Nat.zero_le _)
  · intro j hj ih
    have hj1 : (nI j).toNatClampNeg = j := nI_cl (by omega)
    have hxa : xob (33 + (nI j).toNatClampNeg) 3 182 := by rw [hj1]; exact xob_p28 (by omega)
    have hxb : xob (6 + (nI j).toNatClampNeg) 3 182 := by rw [hj1]; exact xob_p1 (by omega)
    have hqa : xqr 29 182 (nI j) := xqr_n rfl 10 rfl (by omega) (by omega)
    have hqb : xqr 2 182 (nI j) := xqr_n rfl 10 rfl (by omega) (by omega)
    refine xG_run 4 rfl (by repeat' (first | exact trivial | assumption | exact xob_b rfl | exact xal_b rfl | (apply And.intro) | decide)) ?_
    try dsimp only [xsto1, xsto2, xkill, xget, xset, gd_0, gd_s]
    refine xG_brF rfl (show ¬ nI 10 ≤ nI j from nI_ge hj (by omega)) ?_
    refine xG_run 8 rfl (by repeat' (first | exact trivial | assumption | exact xob_b rfl | exact xal_b rfl | (apply And.intro) | decide)) ?_
    try dsimp only [xsto1, xsto2, xkill, xget, xset, gd_0, gd_s]
    refine xG_c2 1 rfl (by repeat' (first | exact trivial | assumption | exact xob_b rfl | exact xal_b rfl | (apply And.intro) | decide)) rfl rfl (by decide) cw_X3_takeFrom (d' := d - 1) (e_takeP hxa hxb (by rw [hj1]; omega)) (by omega) ?_
    rintro v M' ⟨rfl, hM⟩
    subst hM
    dsimp only [Option.toList, List.cons_append, List.nil_append]
    rw [hj1]
    refine xG_run 2 rfl (by repeat' (first | exact trivial | assumption | exact xob_b rfl | exact xal_b rfl | (apply And.intro) | decide)) ?_
    try dsimp only [xsto1, xsto2, xkill, xget, xset, gd_0, gd_s]
    rw [rgM_s (p := 33 + j) (q := 6 + j) (by omega) (by omega) (by omega) (by omega) (by omega), nI_1]
    exact ih
  · refine xG_run 4 rfl (by repeat' (first | exact trivial | assumption | exact xob_b rfl | exact xal_b rfl | (apply And.intro) | decide)) ?_
    try dsimp only [xsto1, xsto2, xkill, xget, xset, gd_0, gd_s]
    refine xG_brT rfl (show nI 10 ≤ nI 10 from Int32.le_refl _) ?_
    refine xG_run 6 rfl (by repeat' (first | exact trivial | assumption | exact xob_b rfl | exact xal_b rfl | (apply And.intro) | decide)) ?_
    try dsimp only [xsto1, xsto2, xkill, xget, xset, gd_0, gd_s]
    have e0 : (sI (rgM M 28 1 5 15 8) 28 1 (gI (rgM M 28 1 5 15 8) 1 1)) = rgM (sI (rgM M 28 1 5 15 8) 28 1 (gI (rgM M 28 1 5 15 8) 1 1)) 28 1 15 15 7 := rgM_0.symm
    show xG κ mX1_takeFrom _ (42, [some (.ref 28), some (.ref 1), some (.int (nI 0))], [], (sI (rgM M 28 1 5 15 8) 28 1 (gI (rgM M 28 1 5 15 8) 1 1)), z2) _
    rw [e0]
    refine xG_up (fun j => (42, [some (.ref 28), some (.ref 1), some (.int (nI j))], [], rgM (sI (rgM M 28 1 5 15 8) 28 1 (gI (rgM M 28 1 5 15 8) 1 1)) 28 1 15 (15 + j) 7, z2)) 12 ?_ ?_ 0 (Nat.zero_le _)
    · intro j hj ih
      have hj1 : (nI j).toNatClampNeg = j := nI_cl (by omega)
      have hxa : xob (43 + (nI j).toNatClampNeg) 5 182 := by rw [hj1]; exact xob_r28 (by omega)
      have hxb : xob (16 + (nI j).toNatClampNeg) 5 182 := by rw [hj1]; exact xob_r1 (by omega)
      have hqa : xqr 30 182 (nI j) := xqr_n rfl 12 rfl (by omega) (by omega)
      have hqb : xqr 3 182 (nI j) := xqr_n rfl 12 rfl (by omega) (by omega)
      refine xG_run 4 rfl (by repeat' (first | exact trivial | assumption | exact xob_b rfl | exact xal_b rfl | (apply And.intro) | decide)) ?_
      try dsimp only [xsto1, xsto2, xkill, xget, xset, gd_0, gd_s]
      refine xG_brF rfl (show ¬ nI 12 ≤ nI j from nI_ge hj (by omega)) ?_
      refine xG_run 8 rfl (by repeat' (first | exact trivial | assumption | exact xob_b rfl | exact xal_b rfl | (apply And.intro) | decide)) ?_
      try dsimp only [xsto1, xsto2, xkill, xget, xset, gd_0, gd_s]
      refine xG_c2 1 rfl (by repeat' (first | exact trivial | assumption | exact xob_b rfl | exact xal_b rfl | (apply And.intro) | decide)) rfl rfl (by decide) cw_X5_takeFrom (d' := d - 1) (e_takeR hxa hxb (by rw [hj1]; omega)) (by omega) ?_
      rintro v M' ⟨rfl, hM⟩
      subst hM
      dsimp only [Option.toList, List.cons_append, List.nil_append]
      rw [hj1]
      refine xG_run 2 rfl (by repeat' (first | exact trivial | assumption | exact xob_b rfl | exact xal_b rfl | (apply And.intro) | decide)) ?_
      try dsimp only [xsto1, xsto2, xkill, xget, xset, gd_0, gd_s]
      rw [rgM_s (p := 43 + j) (q := 16 + j) (by omega) (by omega) (by omega) (by omega) (by omega), nI_1]
      exact ih
    · refine xG_run 4 rfl (by repeat' (first | exact trivial | assumption | exact xob_b rfl | exact xal_b rfl | (apply And.intro) | decide | exact ⟨5, 5, rfl, rfl, by decide, by decide, by decide, by decide, by decide, by decide, by decide⟩ | exact ⟨8, 8, rfl, rfl, by decide, by decide, by decide, by decide, by decide, by decide, by decide⟩)) ?_
      try dsimp only [xsto1, xsto2, xkill, xget, xset, gd_0, gd_s]
      refine xG_brT rfl (show nI 12 ≤ nI 12 from Int32.le_refl _) ?_
      refine xG_run 8 rfl (by repeat' (first | exact trivial | assumption | exact xob_b rfl | exact xal_b rfl | (apply And.intro) | decide | exact ⟨5, 5, rfl, rfl, by decide, by decide, by decide, by decide, by decide, by decide, by decide⟩ | exact ⟨8, 8, rfl, rfl, by decide, by decide, by decide, by decide, by decide, by decide, by decide⟩)) ?_
      try dsimp only [xsto1, xsto2, xkill, xget, xset, gd_0, gd_s]
      refine xG_run 8 rfl (by repeat' (first | exact trivial | assumption | exact xob_b rfl | exact xal_b rfl | (apply And.intro) | decide | exact ⟨5, 5, rfl, rfl, by decide, by decide, by decide, by decide, by decide, by decide, by decide⟩ | exact ⟨8, 8, rfl, rfl, by decide, by decide, by decide, by decide, by decide, by decide, by decide⟩)) ?_
      try dsimp only [xsto1, xsto2, xkill, xget, xset, gd_0, gd_s]
      refine xG_run 8 rfl (by repeat' (first | exact trivial | assumption | exact xob_b rfl | exact xal_b rfl | (apply And.intro) | decide | exact ⟨5, 5, rfl, rfl, by decide, by decide, by decide, by decide, by decide, by decide, by decide⟩ | exact ⟨8, 8, rfl, rfl, by decide, by decide, by decide, by decide, by decide, by decide, by decide⟩)) ?_
      try dsimp only [xsto1, xsto2, xkill, xget, xset, gd_0, gd_s]
      refine xG_run 8 rfl (by repeat' (first | exact trivial | assumption | exact xob_b rfl | exact xal_b rfl | (apply And.intro) | decide | exact ⟨5, 5, rfl, rfl, by decide, by decide, by decide, by decide, by decide, by decide, by decide⟩ | exact ⟨8, 8, rfl, rfl, by decide, by decide, by decide, by decide, by decide, by decide, by decide⟩)) ?_
      try dsimp only [xsto1, xsto2, xkill, xget, xset, gd_0, gd_s]
      refine xG_run 8 rfl (by repeat' (first | exact trivial | assumption | exact xob_b rfl | exact xal_b rfl | (apply And.intro) | decide | exact ⟨5, 5, rfl, rfl, by decide, by decide, by decide, by decide, by decide, by decide, by decide⟩ | exact ⟨8, 8, rfl, rfl, by decide, by decide, by decide, by decide, by decide, by decide, by decide⟩)) ?_
      try dsimp only [xsto1, xsto2, xkill, xget, xset, gd_0, gd_s]
      refine r2_v rfl rfl ?_
      exact ⟨rfl, rfl⟩
set_option maxRecDepth 4000 in
theorem e_take75_1 {κ : xKK} {d : Nat} {M : xM} (hd : 1 ≤ d) : xE2 κ mX1_takeFrom d [.ref 75, .ref 1] M (fun v M' => v = none ∧ M' = tkM M 75 1) := by
  refine xE2_of ci_X1_takeFrom cl_X1_takeFrom cw_X1_takeFrom rfl (L := [some (.ref 75), some (.ref 1), none]) rfl ?_
  refine xG_run 2 rfl (by repeat' (first | exact trivial | assumption | exact xob_b rfl | exact xal_b rfl | (apply And.intro) | decide)) ?_
  try dsimp only [xsto1, xsto2, xkill, xget, xset, gd_0, gd_s]
  have e0 : M = rgM M 75 1 5 5 8 := rgM_0.symm
  show xG κ mX1_takeFrom _ (2, [some (.ref 75), some (.ref 1), some (.int (nI 0))], [], M, z2) _
  conv => arg 4; rw [e0]
  refine xG_up (fun j => (2, [some (.ref 75), some (.ref 1), some (.int (nI j))], [], rgM M 75 1 5 (5 + j) 8, z2)) 10 ?_ ?_ 0 (Nat.zero_le _)
  · intro j hj ih
    have hj1 : (nI j).toNatClampNeg = j := nI_cl (by omega)
    have hxa : xob (80 + (nI j).toNatClampNeg) 3 182 := by rw [hj1]; exact xob_p75 (by omega)
    have hxb : xob (6 + (nI j).toNatClampNeg) 3 182 := by rw [hj1]; exact xob_p1 (by omega)
    have hqa : xqr 76 182 (nI j) := xqr_n rfl 10 rfl (by omega) (by omega)
    have hqb : xqr 2 182 (nI j) := xqr_n rfl 10 rfl (by omega) (by omega)
    refine xG_run 4 rfl (by repeat' (first | exact trivial | assumption | exact xob_b rfl | exact xal_b rfl | (apply And.intro) | decide)) ?_
    try dsimp only [xsto1, xsto2, xkill, xget, xset, gd_0, gd_s]
    refine xG_brF rfl (show ¬ nI 10 ≤ nI j from nI_ge hj (by omega)) ?_
    refine xG_run 8 rfl (by repeat' (first | exact trivial | assumption | exact xob_b rfl | exact xal_b rfl | (apply And.intro) | decide)) ?_
    try dsimp only [xsto1, xsto2, xkill, xget, xset, gd_0, gd_s]
    refine xG_c2 1 rfl (by repeat' (first | exact trivial | assumption | exact xob_b rfl | exact xal_b rfl | (apply And.intro) | decide)) rfl rfl (by decide) cw_X3_takeFrom (d' := d - 1) (e_takeP hxa hxb (by rw [hj1]; omega)) (by omega) ?_
    rintro v M' ⟨rfl, hM⟩
    subst hM
    dsimp only [Option.toList, List.cons_append, List.nil_append]
    rw [hj1]
    refine xG_run 2 rfl (by repeat' (first | exact trivial | assumption | exact xob_b rfl | exact xal_b rfl | (apply And.intro) | decide)) ?_
    try dsimp only [xsto1, xsto2, xkill, xget, xset, gd_0, gd_s]
    rw [rgM_s (p := 80 + j) (q := 6 + j) (by omega) (by omega) (by omega) (by omega) (by omega), nI_1]
    exact ih
  · refine xG_run 4 rfl (by repeat' (first | exact trivial | assumption | exact xob_b rfl | exact xal_b rfl | (apply And.intro) | decide)) ?_
    try dsimp only [xsto1, xsto2, xkill, xget, xset, gd_0, gd_s]
    refine xG_brT rfl (show nI 10 ≤ nI 10 from Int32.le_refl _) ?_
    refine xG_run 6 rfl (by repeat' (first | exact trivial | assumption | exact xob_b rfl | exact xal_b rfl | (apply And.intro) | decide)) ?_
    try dsimp only [xsto1, xsto2, xkill, xget, xset, gd_0, gd_s]
    have e0 : (sI (rgM M 75 1 5 15 8) 75 1 (gI (rgM M 75 1 5 15 8) 1 1)) = rgM (sI (rgM M 75 1 5 15 8) 75 1 (gI (rgM M 75 1 5 15 8) 1 1)) 75 1 15 15 7 := rgM_0.symm
    show xG κ mX1_takeFrom _ (42, [some (.ref 75), some (.ref 1), some (.int (nI 0))], [], (sI (rgM M 75 1 5 15 8) 75 1 (gI (rgM M 75 1 5 15 8) 1 1)), z2) _
    rw [e0]
    refine xG_up (fun j => (42, [some (.ref 75), some (.ref 1), some (.int (nI j))], [], rgM (sI (rgM M 75 1 5 15 8) 75 1 (gI (rgM M 75 1 5 15 8) 1 1)) 75 1 15 (15 + j) 7, z2)) 12 ?_ ?_ 0 (Nat.zero_le _)
    · intro j hj ih
      have hj1 : (nI j).toNatClampNeg = j := nI_cl (by omega)
      have hxa : xob (90 + (nI j).toNatClampNeg) 5 182 := by rw [hj1]; exact xob_r75 (by omega)
      have hxb : xob (16 + (nI j).toNatClampNeg) 5 182 := by rw [hj1]; exact xob_r1 (by omega)
      have hqa : xqr 77 182 (nI j) := xqr_n rfl 12 rfl (by omega) (by omega)
      have hqb : xqr 3 182 (nI j) := xqr_n rfl 12 rfl (by omega) (by omega)
      refine xG_run 4 rfl (by repeat' (first | exact trivial | assumption | exact xob_b rfl | exact xal_b rfl | (apply And.intro) | decide)) ?_
      try dsimp only [xsto1, xsto2, xkill, xget, xset, gd_0, gd_s]
      refine xG_brF rfl (show ¬ nI 12 ≤ nI j from nI_ge hj (by omega)) ?_
      refine xG_run 8 rfl (by repeat' (first | exact trivial | assumption | exact xob_b rfl | exact xal_b rfl | (apply And.intro) | decide)) ?_
      try dsimp only [xsto1, xsto2, xkill, xget, xset, gd_0, gd_s]
      refine xG_c2 1 rfl (by repeat' (first | exact trivial | assumption | exact xob_b rfl | exact xal_b rfl | (apply And.intro) | decide)) rfl rfl (by decide) cw_X5_takeFrom (d' := d - 1) (e_takeR hxa hxb (by rw [hj1]; omega)) (by omega) ?_
      rintro v M' ⟨rfl, hM⟩
      subst hM
      dsimp only [Option.toList, List.cons_append, List.nil_append]
      rw [hj1]
      refine xG_run 2 rfl (by repeat' (first | exact trivial | assumption | exact xob_b rfl | exact xal_b rfl | (apply And.intro) | decide)) ?_
      try dsimp only [xsto1, xsto2, xkill, xget, xset, gd_0, gd_s]
      rw [rgM_s (p := 90 + j) (q := 16 + j) (by omega) (by omega) (by omega) (by omega) (by omega), nI_1]
      exact ih
    · refine xG_run 4 rfl (by repeat' (first | exact trivial | assumption | exact xob_b rfl | exact xal_b rfl | (apply And.intro) | decide | exact ⟨5, 5, rfl, rfl, by decide, by decide, by decide, by decide, by decide, by decide, by decide⟩ | exact ⟨8, 8, rfl, rfl, by decide, by decide, by decide, by decide, by decide, by decide, by decide⟩)) ?_
      try dsimp only [xsto1, xsto2, xkill, xget, xset, gd_0, gd_s]
      refine xG_brT rfl (show nI 12 ≤ nI 12 from Int32.le_refl _) ?_
      refine xG_run 8 rfl (by repeat' (first | exact trivial | assumption | exact xob_b rfl | exact xal_b rfl | (apply And.intro) | decide | exact ⟨5, 5, rfl, rfl, by decide, by decide, by decide, by decide, by decide, by decide, by decide⟩ | exact ⟨8, 8, rfl, rfl, by decide, by decide, by decide, by decide, by decide, by decide, by decide⟩)) ?_
      try dsimp only [xsto1, xsto2, xkill, xget, xset, gd_0, gd_s]
      refine xG_run 8 rfl (by repeat' (first | exact trivial | assumption | exact xob_b rfl | exact xal_b rfl | (apply And.intro) | decide | exact ⟨5, 5, rfl, rfl, by decide, by decide, by decide, by decide, by decide, by decide, by decide⟩ | exact ⟨8, 8, rfl, rfl, by decide, by decide, by decide, by decide, by decide, by decide, by decide⟩)) ?_
      try dsimp only [xsto1, xsto2, xkill, xget, xset, gd_0, gd_s]
      refine xG_run 8 rfl (by repeat' (first | exact trivial | assumption | exact xob_b rfl | exact xal_b rfl | (apply And.intro) | decide | exact ⟨5, 5, rfl, rfl, by decide, by decide, by decide, by decide, by decide, by decide, by decide⟩ | exact ⟨8, 8, rfl, rfl, by decide, by decide, by decide, by decide, by decide, by decide, by decide⟩)) ?_
      try dsimp only [xsto1, xsto2, xkill, xget, xset, gd_0, gd_s]
      refine xG_run 8 rfl (by repeat' (first | exact trivial | assumption | exact xob_b rfl | exact xal_b rfl | (apply And.intro) | decide | exact ⟨5, 5, rfl, rfl, by decide, by decide, by decide, by decide, by decide, by decide, by decide⟩ | exact ⟨8, 8, rfl, rfl, by decide, by decide, by decide, by decide, by decide, by decide, by decide⟩)) ?_
      try dsimp only [xsto1, xsto2, xkill, xget, xset, gd_0, gd_s]
      refine xG_run 8 rfl (by repeat' (first | exact trivial | assumption | exact xob_b rfl | exact xal_b rfl | (apply And.intro) | decide | exact ⟨5, 5, rfl, rfl, by decide, by decide, by decide, by decide, by decide, by decide, by decide⟩ | exact ⟨8, 8, rfl, rfl, by decide, by decide, by decide, by decide, by decide, by decide, by decide⟩)) ?_
      try dsimp only [xsto1, xsto2, xkill, xget, xset, gd_0, gd_s]
      refine r2_v rfl rfl ?_
      exact ⟨rfl, rfl⟩
set_option maxRecDepth 4000 in
theorem e_take1_75 {κ : xKK} {d : Nat} {M : xM} (hd : 1 ≤ d) : xE2 κ mX1_takeFrom d [.ref 1, .ref 75] M (fun v M' => v = none ∧ M' = tkM M 1 75) := by
  refine xE2_of ci_X1_takeFrom cl_X1_takeFrom cw_X1_takeFrom rfl (L := [some (.ref 1), some (.ref 75), none]) rfl ?_
  refine xG_run 2 rfl (by repeat' (first | exact trivial | assumption | exact xob_b rfl | exact xal_b rfl | (apply And.intro) | decide)) ?_
  try dsimp only [xsto1, xsto2, xkill, xget, xset, gd_0, gd_s]
  have e0 : M = rgM M 1 75 5 5 8 := rgM_0.symm
  show xG κ mX1_takeFrom _ (2, [some (.ref 1), some (.ref 75), some (.int (nI 0))], [], M, z2) _
  conv => arg 4; rw [e0]
  refine xG_up (fun j => (2, [some (.ref 1), some (.ref 75), some (.int (nI j))], [], rgM M 1 75 5 (5 + j) 8, z2)) 10 ?_ ?_ 0 (Nat.zero_le _)
  · intro j hj ih
    have hj1 : (nI j).toNatClampNeg = j := nI_cl (by omega)
    have hxa : xob (6 + (nI j).toNatClampNeg) 3 182 := by rw [hj1]; exact xob_p1 (by omega)
    have hxb : xob (80 + (nI j).toNatClampNeg) 3 182 := by rw [hj1]; exact xob_p75 (by omega)
    have hqa : xqr 2 182 (nI j) := xqr_n rfl 10 rfl (by omega) (by omega)
    have hqb : xqr 76 182 (nI j) := xqr_n rfl 10 rfl (by omega) (by omega)
    refine xG_run 4 rfl (by repeat' (first | exact trivial | assumption | exact xob_b rfl | exact xal_b rfl | (apply And.intro) | decide)) ?_
    try dsimp only [xsto1, xsto2, xkill, xget, xset, gd_0, gd_s]
    refine xG_brF rfl (show ¬ nI 10 ≤ nI j from nI_ge hj (by omega)) ?_
    refine xG_run 8 rfl (by repeat' (first | exact trivial | assumption | exact xob_b rfl | exact xal_b rfl | (apply And.intro) | decide)) ?_
    try dsimp only [xsto1, xsto2, xkill, xget, xset, gd_0, gd_s]
    refine xG_c2 1 rfl (by repeat' (first | exact trivial | assumption | exact xob_b rfl | exact xal_b rfl | (apply And.intro) | decide)) rfl rfl (by decide) cw_X3_takeFrom (d' := d - 1) (e_takeP hxa hxb (by rw [hj1]; omega)) (by omega) ?_
    rintro v M' ⟨rfl, hM⟩
    subst hM
    dsimp only [Option.toList, List.cons_append, List.nil_append]
    rw [hj1]
    refine xG_run 2 rfl (by repeat' (first | exact trivial | assumption | exact xob_b rfl | exact xal_b rfl | (apply And.intro) | decide)) ?_
    try dsimp only [xsto1, xsto2, xkill, xget, xset, gd_0, gd_s]
    rw [rgM_s (p := 6 + j) (q := 80 + j) (by omega) (by omega) (by omega) (by omega) (by omega), nI_1]
    exact ih
  · refine xG_run 4 rfl (by repeat' (first | exact trivial | assumption | exact xob_b rfl | exact xal_b rfl | (apply And.intro) | decide)) ?_
    try dsimp only [xsto1, xsto2, xkill, xget, xset, gd_0, gd_s]
    refine xG_brT rfl (show nI 10 ≤ nI 10 from Int32.le_refl _) ?_
    refine xG_run 6 rfl (by repeat' (first | exact trivial | assumption | exact xob_b rfl | exact xal_b rfl | (apply And.intro) | decide)) ?_
    try dsimp only [xsto1, xsto2, xkill, xget, xset, gd_0, gd_s]
    have e0 : (sI (rgM M 1 75 5 15 8) 1 1 (gI (rgM M 1 75 5 15 8) 75 1)) = rgM (sI (rgM M 1 75 5 15 8) 1 1 (gI (rgM M 1 75 5 15 8) 75 1)) 1 75 15 15 7 := rgM_0.symm
    show xG κ mX1_takeFrom _ (42, [some (.ref 1), some (.ref 75), some (.int (nI 0))], [], (sI (rgM M 1 75 5 15 8) 1 1 (gI (rgM M 1 75 5 15 8) 75 1)), z2) _
    rw [e0]
    refine xG_up (fun j => (42, [some (.ref 1), some (.ref 75), some (.int (nI j))], [], rgM (sI (rgM M 1 75 5 15 8) 1 1 (gI (rgM M 1 75 5 15 8) 75 1)) 1 75 15 (15 + j) 7, z2)) 12 ?_ ?_ 0 (Nat.zero_le _)
    · intro j hj ih
      have hj1 : (nI j).toNatClampNeg = j := nI_cl (by omega)
      have hxa : xob (16 + (nI j).toNatClampNeg) 5 182 := by rw [hj1]; exact xob_r1 (by omega)
      have hxb : xob (90 + (nI j).toNatClampNeg) 5 182 := by rw [hj1]; exact xob_r75 (by omega)
      have hqa : xqr 3 182 (nI j) := xqr_n rfl 12 rfl (by omega) (by omega)
      have hqb : xqr 77 182 (nI j) := xqr_n rfl 12 rfl (by omega) (by omega)
      refine xG_run 4 rfl (by repeat' (first | exact trivial | assumption | exact xob_b rfl | exact xal_b rfl | (apply And.intro) | decide)) ?_
      try dsimp only [xsto1, xsto2, xkill, xget, xset, gd_0, gd_s]
      refine xG_brF rfl (show ¬ nI 12 ≤ nI j from nI_ge hj (by omega)) ?_
      refine xG_run 8 rfl (by repeat' (first | exact trivial | assumption | exact xob_b rfl | exact xal_b rfl | (apply And.intro) | decide)) ?_
      try dsimp only [xsto1, xsto2, xkill, xget, xset, gd_0, gd_s]
      refine xG_c2 1 rfl (by repeat' (first | exact trivial | assumption | exact xob_b rfl | exact xal_b rfl | (apply And.intro) | decide)) rfl rfl (by decide) cw_X5_takeFrom (d' := d - 1) (e_takeR hxa hxb (by rw [hj1]; omega)) (by omega) ?_
      rintro v M' ⟨rfl, hM⟩
      subst hM
      dsimp only [Option.toList, List.cons_append, List.nil_append]
      rw [hj1]
      refine xG_run 2 rfl (by repeat' (first | exact trivial | assumption | exact xob_b rfl | exact xal_b rfl | (apply And.intro) | decide)) ?_
      try dsimp only [xsto1, xsto2, xkill, xget, xset, gd_0, gd_s]
      rw [rgM_s (p := 16 + j) (q := 90 + j) (by omega) (by omega) (by omega) (by omega) (by omega), nI_1]
      exact ih
    · refine xG_run 4 rfl (by repeat' (first | exact trivial | assumption | exact xob_b rfl | exact xal_b rfl | (apply And.intro) | decide | exact ⟨5, 5, rfl, rfl, by decide, by decide, by decide, by decide, by decide, by decide, by decide⟩ | exact ⟨8, 8, rfl, rfl, by decide, by decide, by decide, by decide, by decide, by decide, by decide⟩)) ?_
      try dsimp only [xsto1, xsto2, xkill, xget, xset, gd_0, gd_s]
      refine xG_brT rfl (show nI 12 ≤ nI 12 from Int32.le_refl _) ?_
      refine xG_run 8 rfl (by repeat' (first | exact trivial | assumption | exact xob_b rfl | exact xal_b rfl | (apply And.intro) | decide | exact ⟨5, 5, rfl, rfl, by decide, by decide, by decide, by decide, by decide, by decide, by decide⟩ | exact ⟨8, 8, rfl, rfl, by decide, by decide, by decide, by decide, by decide, by decide, by decide⟩)) ?_
      try dsimp only [xsto1, xsto2, xkill, xget, xset, gd_0, gd_s]
      refine xG_run 8 rfl (by repeat' (first | exact trivial | assumption | exact xob_b rfl | exact xal_b rfl | (apply And.intro) | decide | exact ⟨5, 5, rfl, rfl, by decide, by decide, by decide, by decide, by decide, by decide, by decide⟩ | exact ⟨8, 8, rfl, rfl, by decide, by decide, by decide, by decide, by decide, by decide, by decide⟩)) ?_
      try dsimp only [xsto1, xsto2, xkill, xget, xset, gd_0, gd_s]
      refine xG_run 8 rfl (by repeat' (first | exact trivial | assumption | exact xob_b rfl | exact xal_b rfl | (apply And.intro) | decide | exact ⟨5, 5, rfl, rfl, by decide, by decide, by decide, by decide, by decide, by decide, by decide⟩ | exact ⟨8, 8, rfl, rfl, by decide, by decide, by decide, by decide, by decide, by decide, by decide⟩)) ?_
      try dsimp only [xsto1, xsto2, xkill, xget, xset, gd_0, gd_s]
      refine xG_run 8 rfl (by repeat' (first | exact trivial | assumption | exact xob_b rfl | exact xal_b rfl | (apply And.intro) | decide | exact ⟨5, 5, rfl, rfl, by decide, by decide, by decide, by decide, by decide, by decide, by decide⟩ | exact ⟨8, 8, rfl, rfl, by decide, by decide, by decide, by decide, by decide, by decide, by decide⟩)) ?_
      try dsimp only [xsto1, xsto2, xkill, xget, xset, gd_0, gd_s]
      refine xG_run 8 rfl (by repeat' (first | exact trivial | assumption | exact xob_b rfl | exact xal_b rfl | (apply And.intro) | decide | exact ⟨5, 5, rfl, rfl, by decide, by decide, by decide, by decide, by decide, by decide, by decide⟩ | exact ⟨8, 8, rfl, rfl, by decide, by decide, by decide, by decide, by decide, by decide, by decide⟩)) ?_
      try dsimp only [xsto1, xsto2, xkill, xget, xset, gd_0, gd_s]
      refine r2_v rfl rfl ?_
      exact ⟨rfl, rfl⟩
