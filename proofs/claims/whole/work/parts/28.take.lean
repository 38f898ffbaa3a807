/-! ===== one part's fields over another's; a mast's over another's ===== -/
theorem cpM_g {M : xM} {a b n x k : Nat} : gI (cpM M a b n) x k = if x = a ∧ k < n then gI M b k else gI M x k := rfl
theorem cpM_s {M : xM} {a b n n' : Nat} (h : a ≠ b) (e : n' = n + 1) : sI (cpM M a b n) a n (gI (cpM M a b n) b n) = cpM M a b n' := by
  subst e
  refine xM_ext (fun x k => ?_) (fun _ _ => rfl) (fun _ _ => rfl)
  rw [gIsI, cpM_g, cpM_g, cpM_g]
  by_cases c : x = a
  · by_cases c2 : k = n
    · rw [if_pos ⟨c, c2⟩, if_neg (show ¬ (b = a ∧ n < n) from fun q => h q.1.symm), if_pos ⟨c, by omega⟩, c2]
    · rw [if_neg (fun q => c2 q.2)]
      by_cases c3 : k < n
      · rw [if_pos ⟨c, c3⟩, if_pos ⟨c, by omega⟩]
      · rw [if_neg (fun q => c3 q.2), if_neg (fun q => c3 (by omega))]
  · rw [if_neg (fun q => c q.1), if_neg (fun q => c q.1), if_neg (fun q => c q.1)]
theorem cpM_1 {M : xM} {a b : Nat} (h : a ≠ b) : sI M a 0 (gI M b 0) = cpM M a b 1 := by
  have e : cpM M a b 0 = M := xM_ext (fun x k => by rw [cpM_g, if_neg (fun q => absurd q.2 (by omega))]) (fun _ _ => rfl) (fun _ _ => rfl)
  have := cpM_s (M := M) (n := 0) h rfl
  rw [e] at this
  exact this
set_option maxRecDepth 4000 in
theorem e_takeP {κ : xKK} {d : Nat} {M : xM} {a b : Nat} (ha : xob a 3 182) (hb : xob b 3 182) (hab : a ≠ b) : xE2 κ mX3_takeFrom d [.ref a, .ref b] M (fun v M' => v = none ∧ M' = cpM M a b 8) := by
  refine xE2_of ci_X3_takeFrom cl_X3_takeFrom cw_X3_takeFrom rfl (L := [some (.ref a), some (.ref b)]) rfl ?_
  refine xG_run 8 rfl (by repeat' (first | exact trivial | assumption | exact xob_b rfl | exact xal_b rfl | (apply And.intro) | decide)) ?_
  try dsimp only [xsto1, xsto2, xkill, xget, xset, gd_0, gd_s]
  refine xG_run 8 rfl (by repeat' (first | exact trivial | assumption | exact xob_b rfl | exact xal_b rfl | (apply And.intro) | decide)) ?_
  try dsimp only [xsto1, xsto2, xkill, xget, xset, gd_0, gd_s]
  refine xG_run 8 rfl (by repeat' (first | exact trivial | assumption | exact xob_b rfl | exact xal_b rfl | (apply And.intro) | decide)) ?_
  try dsimp only [xsto1, xsto2, xkill, xget, xset, gd_0, gd_s]
  refine xG_run 8 rfl (by repeat' (first | exact trivial | assumption | exact xob_b rfl | exact xal_b rfl | (apply And.intro) | decide)) ?_
  try dsimp only [xsto1, xsto2, xkill, xget, xset, gd_0, gd_s]
  refine r2_v rfl rfl ?_
  refine ⟨rfl, ?_⟩
  rw [cpM_1 hab, cpM_s (n := 1) (n' := 2) hab rfl, cpM_s (n := 2) (n' := 3) hab rfl, cpM_s (n := 3) (n' := 4) hab rfl, cpM_s (n := 4) (n' := 5) hab rfl, cpM_s (n := 5) (n' := 6) hab rfl, cpM_s (n := 6) (n' := 7) hab rfl, cpM_s (n := 7) (n' := 8) hab rfl]
set_option maxRecDepth 4000 in
theorem e_takeR {κ : xKK} {d : Nat} {M : xM} {a b : Nat} (ha : xob a 5 182) (hb : xob b 5 182) (hab : a ≠ b) : xE2 κ mX5_takeFrom d [.ref a, .ref b] M (fun v M' => v = none ∧ M' = cpM M a b 7) := by
  refine xE2_of ci_X5_takeFrom cl_X5_takeFrom cw_X5_takeFrom rfl (L := [some (.ref a), some (.ref b)]) rfl ?_
  refine xG_run 8 rfl (by repeat' (first | exact trivial | assumption | exact xob_b rfl | exact xal_b rfl | (apply And.intro) | decide)) ?_
  try dsimp only [xsto1, xsto2, xkill, xget, xset, gd_0, gd_s]
  refine xG_run 8 rfl (by repeat' (first | exact trivial | assumption | exact xob_b rfl | exact xal_b rfl | (apply And.intro) | decide)) ?_
  try dsimp only [xsto1, xsto2, xkill, xget, xset, gd_0, gd_s]
  refine xG_run 8 rfl (by repeat' (first | exact trivial | assumption | exact xob_b rfl | exact xal_b rfl | (apply And.intro) | decide)) ?_
  try dsimp only [xsto1, xsto2, xkill, xget, xset, gd_0, gd_s]
  refine xG_run 4 rfl (by repeat' (first | exact trivial | assumption | exact xob_b rfl | exact xal_b rfl | (apply And.intro) | decide)) ?_
  try dsimp only [xsto1, xsto2, xkill, xget, xset, gd_0, gd_s]
  refine r2_v rfl rfl ?_
  refine ⟨rfl, ?_⟩
  rw [cpM_1 hab, cpM_s (n := 1) (n' := 2) hab rfl, cpM_s (n := 2) (n' := 3) hab rfl, cpM_s (n := 3) (n' := 4) hab rfl, cpM_s (n := 4) (n' := 5) hab rfl, cpM_s (n := 5) (n' := 6) hab rfl, cpM_s (n := 6) (n' := 7) hab rfl]
