theorem gwo_3 : Cond.methodLink mX3_init.1.1 3 Lib.objectInit ∈ GW := xw1 (by decide +kernel)
theorem gwo_5 : Cond.methodLink mX5_init.1.1 3 Lib.objectInit ∈ GW := xw1 (by decide +kernel)
theorem gwo_8 : Cond.methodLink mX8_init.1.1 3 Lib.objectInit ∈ GW := xw1 (by decide +kernel)
theorem gwc_8_15 : Cond.classLink mX8_init.1.1 15 "MastWind$Piece" ∈ GW := xw1 (by decide +kernel)
theorem gwn_3 : Cond.instantiable "MastWind$Piece" 8 ∈ GW := xw1 (by decide +kernel)
theorem gwi_3 : Cond.initialized "MastWind$Piece" ∈ GW := xw1 (by decide +kernel)
theorem gwo_1 : Cond.methodLink mX1_init.1.1 3 Lib.objectInit ∈ GW := xw1 (by decide +kernel)
theorem gwc_1_9 : Cond.classLink mX1_init.1.1 9 "MastWind$Piece" ∈ GW := xw1 (by decide +kernel)
theorem gwc_1_17 : Cond.classLink mX1_init.1.1 17 "MastWind$Rope" ∈ GW := xw1 (by decide +kernel)
theorem gwn_5 : Cond.instantiable "MastWind$Rope" 7 ∈ GW := xw1 (by decide +kernel)
theorem gwi_5 : Cond.initialized "MastWind$Rope" ∈ GW := xw1 (by decide +kernel)
/-- c new cells from n on, put into the array a -/
def puF (M : xM) (a n : Nat) : Nat → xM
  | 0 => M
  | c + 1 => sP (zN (puF M a n c) (n + c)) a c (some (n + c))
theorem gIpuF (M : xM) (a n x k : Nat) : ∀ c, gI (puF M a n c) x k = if n ≤ x ∧ x < n + c then 0 else gI M x k
  | 0 => by rw [if_neg (by omega)]; rfl
  | c + 1 => by
    rw [puF, gIsP, gIzN, gIpuF M a n x k c]
    by_cases h : x = n + c
    · rw [if_pos h, if_pos (by omega)]
    · rw [if_neg h]
      by_cases h2 : n ≤ x ∧ x < n + c
      · rw [if_pos h2, if_pos (by omega)]
      · rw [if_neg h2, if_neg (by omega)]
theorem gJpuF (M : xM) (a n x k : Nat) : ∀ c, gJ (puF M a n c) x k = if n ≤ x ∧ x < n + c then 0 else gJ M x k
  | 0 => by rw [if_neg (by omega)]; rfl
  | c + 1 => by
    rw [puF, gJsP, gJzN, gJpuF M a n x k c]
    by_cases h : x = n + c
    · rw [if_pos h, if_pos (by omega)]
    · rw [if_neg h]
      by_cases h2 : n ≤ x ∧ x < n + c
      · rw [if_pos h2, if_pos (by omega)]
      · rw [if_neg h2, if_neg (by omega)]
theorem gPpuF (M : xM) (a n x k : Nat) (ha : a < n) : ∀ c, gP (puF M a n c) x k = if x = a ∧ k < c then some (n + k) else if n ≤ x ∧ x < n + c then none else gP M x k
  | 0 => by rw [if_neg (by omega), if_neg (by omega)]; rfl
  | c + 1 => by
    rw [puF, gPsP, gPzN, gPpuF M a n x k ha c]
    by_cases h0 : x = a ∧ k = c
    · obtain ⟨h1, h2⟩ := h0
      subst h2
      rw [if_pos ⟨h1, rfl⟩, if_pos (by omega)]
    · rw [if_neg h0]
      by_cases h : x = n + c
      · rw [if_pos h, if_neg (by omega), if_pos (by omega)]
      · rw [if_neg h]
        by_cases h3 : x = a ∧ k < c
        · rw [if_pos h3, if_pos (by omega)]
        · rw [if_neg h3, if_neg (show ¬ (x = a ∧ k < c + 1) by omega)]
          by_cases h2 : n ≤ x ∧ x < n + c
          · rw [if_pos h2, if_pos (by omega)]
          · rw [if_neg h2, if_neg (by omega)]
theorem k_X3 {κ : xKK} {M : xM} {o n : Nat} : xEz κ mX3_init (0, 0, 0) [.ref o] M n (fun v M' n' => v = none ∧ M' = M ∧ n' = n) := by
  refine xEz_of ci_X3_init cl_X3_init cw_X3_init rfl (L := [some (.ref o)]) rfl ?_
  refine xGh_run 1 rfl trivial ?_
  refine xGh_obj rfl gwo_3 rfl ?_
  refine xGh_done ⟨_, rfl, rfl, Or.inr (Or.inr (Or.inr ⟨rfl, rfl, rfl, rfl, rfl, rfl⟩))⟩
theorem k_X5 {κ : xKK} {M : xM} {o n : Nat} : xEz κ mX5_init (0, 0, 0) [.ref o] M n (fun v M' n' => v = none ∧ M' = M ∧ n' = n) := by
  refine xEz_of ci_X5_init cl_X5_init cw_X5_init rfl (L := [some (.ref o)]) rfl ?_
  refine xGh_run 1 rfl trivial ?_
  refine xGh_obj rfl gwo_5 rfl ?_
  refine xGh_done ⟨_, rfl, rfl, Or.inr (Or.inr (Or.inr ⟨rfl, rfl, rfl, rfl, rfl, rfl⟩))⟩
set_option maxRecDepth 8000 in
set_option maxHeartbeats 2000000 in
theorem k_X8_142 {κ : xKK} {M : xM} (hb : bl M 142) : xEz κ mX8_init (1, 2, 128) [.ref 142] M 143 (cnP M 142 145) := by
  refine xEz_of ci_X8_init cl_X8_init cw_X8_init rfl (L := [some (.ref 142)]) rfl ?_
  refine xGh_run 1 rfl (by repeat' (first | exact trivial | assumption | exact xob_b rfl | exact xal_b rfl | exact xar_b rfl _ rfl (by decide) (by decide) | (apply And.intro) | decide)) ?_
  try dsimp only [xsto1, xsto2, xkill, xget, xset, gd_0, gd_s]
  refine xGh_obj rfl gwo_8 rfl ?_
  refine xGh_run 4 rfl (by repeat' (first | exact trivial | assumption | exact xob_b rfl | exact xal_b rfl | exact xar_b rfl _ rfl (by decide) (by decide) | (apply And.intro) | decide)) ?_
  try dsimp only [xsto1, xsto2, xkill, xget, xset, gd_0, gd_s]
  refine xGh_new (n' := 144) (k1' := 1) (k2' := 8) (cid := 3) rfl rfl rfl rfl rfl gwc_8_15 gwn_3 gwi_3 rfl (by decide) (by decide) ?_
  refine xGh_run 1 rfl (by repeat' (first | exact trivial | assumption | exact xob_b rfl | exact xal_b rfl | exact xar_b rfl _ rfl (by decide) (by decide) | (apply And.intro) | decide)) ?_
  try dsimp only [xsto1, xsto2, xkill, xget, xset, gd_0, gd_s]
  refine xGh_initN (my := mX3_init) (r' := (0, 0, 0)) rfl rfl rfl rfl rfl cw_X3_init (by decide +kernel) rfl k_X3 (fun _ h => h) ⟨by decide, by decide, by decide⟩ (fun v M' n' h => h.2.2) ?_
  rintro v M' n' ⟨rfl, rfl, rfl⟩
  dsimp only [Option.toList, List.nil_append, Nat.add_zero]
  refine xGh_run 3 rfl (by repeat' (first | exact trivial | assumption | exact xob_b rfl | exact xal_b rfl | exact xar_b rfl _ rfl (by decide) (by decide) | (apply And.intro) | decide)) ?_
  try dsimp only [xsto1, xsto2, xkill, xget, xset, gd_0, gd_s]
  refine xGh_na (n' := 145) (k1' := 2) (k2' := 128) rfl rfl rfl rfl rfl rfl (Or.inl ⟨rfl, rfl⟩) (by decide) rfl (by decide) (by decide) (by decide) ?_
  refine xGh_run 1 rfl (by repeat' (first | exact trivial | assumption | exact xob_b rfl | exact xal_b rfl | exact xar_b rfl _ rfl (by decide) (by decide) | (apply And.intro) | decide)) ?_
  try dsimp only [xsto1, xsto2, xkill, xget, xset, gd_0, gd_s]
  refine xGh_done ⟨_, rfl, rfl, Or.inr (Or.inr (Or.inr ⟨rfl, rfl, rfl, ?_⟩))⟩
  refine ⟨rfl, rfl, fun x k hx => ⟨?_, ?_, ?_⟩, fun x hx1 hx2 => ?_⟩
  · simp (disch := omega) only [gIzN, gIsP, gIsI, gIsJ, gJzN, gJsP, gJsI, gJsJ, gPzN, gPsI, gPsJ, gPsP, gIzG, gJzG, gPzG, if_neg]
  · simp (disch := omega) only [gIzN, gIsP, gIsI, gIsJ, gJzN, gJsP, gJsI, gJsJ, gPzN, gPsI, gPsJ, gPsP, gIzG, gJzG, gPzG, if_neg]
  · simp (disch := omega) only [gIzN, gIsP, gIsI, gIsJ, gJzN, gJsP, gJsI, gJsJ, gPzN, gPsI, gPsJ, gPsP, gIzG, gJzG, gPzG, if_neg]
  · obtain rfl | rfl | rfl : x = 142 ∨ x = 143 ∨ x = 144 := by omega
    · refine ⟨fun k => ?_, fun k => ?_, ?_⟩
      · show _ = (0 : Int32)
        simp [gIzN, gIsP, gIsI, gIsJ, gJzN, gJsP, gJsI, gJsJ, gPzN, gPsI, gPsJ, gPsP, gIzG, gJzG, gPzG, hb k]
      · simp [gIzN, gIsP, gIsI, gIsJ, gJzN, gJsP, gJsI, gJsJ, gPzN, gPsI, gPsJ, gPsP, gIzG, gJzG, gPzG, hb k]
      · show ∀ k ∈ ([1, 4] : List Nat), _
        refine List.forall_mem_cons.mpr ⟨?_, ?_⟩
        · show _ = some 143
          simp [gIzN, gIsP, gIsI, gIsJ, gJzN, gJsP, gJsI, gJsJ, gPzN, gPsI, gPsJ, gPsP, gIzG, gJzG, gPzG]
        refine List.forall_mem_cons.mpr ⟨?_, ?_⟩
        · show _ = some 144
          simp [gIzN, gIsP, gIsI, gIsJ, gJzN, gJsP, gJsI, gJsJ, gPzN, gPsI, gPsJ, gPsP, gIzG, gJzG, gPzG]
        exact List.forall_mem_nil _
    · refine ⟨fun k => ?_, fun k => ?_, ?_⟩
      · show _ = (0 : Int32)
        simp [gIzN, gIsP, gIsI, gIsJ, gJzN, gJsP, gJsI, gJsJ, gPzN, gPsI, gPsJ, gPsP, gIzG, gJzG, gPzG, hb k]
      · simp [gIzN, gIsP, gIsI, gIsJ, gJzN, gJsP, gJsI, gJsJ, gPzN, gPsI, gPsJ, gPsP, gIzG, gJzG, gPzG, hb k]
      · show ∀ k ∈ ([] : List Nat), _
        exact List.forall_mem_nil _
    · refine ⟨fun k => ?_, fun k => ?_, ?_⟩
      · show _ = (0 : Int32)
        simp [gIzN, gIsP, gIsI, gIsJ, gJzN, gJsP, gJsI, gJsJ, gPzN, gPsI, gPsJ, gPsP, gIzG, gJzG, gPzG, hb k]
      · simp [gIzN, gIsP, gIsI, gIsJ, gJzN, gJsP, gJsI, gJsJ, gPzN, gPsI, gPsJ, gPsP, gIzG, gJzG, gPzG, hb k]
      · show ∀ k ∈ ([] : List Nat), _
        exact List.forall_mem_nil _
set_option maxRecDepth 8000 in
set_option maxHeartbeats 2000000 in
theorem k_X8_145 {κ : xKK} {M : xM} (hb : bl M 145) : xEz κ mX8_init (1, 2, 128) [.ref 145] M 146 (cnP M 145 148) := by
  refine xEz_of ci_X8_init cl_X8_init cw_X8_init rfl (L := [some (.ref 145)]) rfl ?_
  refine xGh_run 1 rfl (by repeat' (first | exact trivial | assumption | exact xob_b rfl | exact xal_b rfl | exact xar_b rfl _ rfl (by decide) (by decide) | (apply And.intro) | decide)) ?_
  try dsimp only [xsto1, xsto2, xkill, xget, xset, gd_0, gd_s]
  refine xGh_obj rfl gwo_8 rfl ?_
  refine xGh_run 4 rfl (by repeat' (first | exact trivial | assumption | exact xob_b rfl | exact xal_b rfl | exact xar_b rfl _ rfl (by decide) (by decide) | (apply And.intro) | decide)) ?_
  try dsimp only [xsto1, xsto2, xkill, xget, xset, gd_0, gd_s]
  refine xGh_new (n' := 147) (k1' := 1) (k2' := 8) (cid := 3) rfl rfl rfl rfl rfl gwc_8_15 gwn_3 gwi_3 rfl (by decide) (by decide) ?_
  refine xGh_run 1 rfl (by repeat' (first | exact trivial | assumption | exact xob_b rfl | exact xal_b rfl | exact xar_b rfl _ rfl (by decide) (by decide) | (apply And.intro) | decide)) ?_
  try dsimp only [xsto1, xsto2, xkill, xget, xset, gd_0, gd_s]
  refine xGh_initN (my := mX3_init) (r' := (0, 0, 0)) rfl rfl rfl rfl rfl cw_X3_init (by decide +kernel) rfl k_X3 (fun _ h => h) ⟨by decide, by decide, by decide⟩ (fun v M' n' h => h.2.2) ?_
  rintro v M' n' ⟨rfl, rfl, rfl⟩
  dsimp only [Option.toList, List.nil_append, Nat.add_zero]
  refine xGh_run 3 rfl (by repeat' (first | exact trivial | assumption | exact xob_b rfl | exact xal_b rfl | exact xar_b rfl _ rfl (by decide) (by decide) | (apply And.intro) | decide)) ?_
  try dsimp only [xsto1, xsto2, xkill, xget, xset, gd_0, gd_s]
  refine xGh_na (n' := 148) (k1' := 2) (k2' := 128) rfl rfl rfl rfl rfl rfl (Or.inl ⟨rfl, rfl⟩) (by decide) rfl (by decide) (by decide) (by decide) ?_
  refine xGh_run 1 rfl (by repeat' (first | exact trivial | assumption | exact xob_b rfl | exact xal_b rfl | exact xar_b rfl _ rfl (by decide) (by decide) | (apply And.intro) | decide)) ?_
  try dsimp only [xsto1, xsto2, xkill, xget, xset, gd_0, gd_s]
  refine xGh_done ⟨_, rfl, rfl, Or.inr (Or.inr (Or.inr ⟨rfl, rfl, rfl, ?_⟩))⟩
  refine ⟨rfl, rfl, fun x k hx => ⟨?_, ?_, ?_⟩, fun x hx1 hx2 => ?_⟩
  · simp (disch := omega) only [gIzN, gIsP, gIsI, gIsJ, gJzN, gJsP, gJsI, gJsJ, gPzN, gPsI, gPsJ, gPsP, gIzG, gJzG, gPzG, if_neg]
  · simp (disch := omega) only [gIzN, gIsP, gIsI, gIsJ, gJzN, gJsP, gJsI, gJsJ, gPzN, gPsI, gPsJ, gPsP, gIzG, gJzG, gPzG, if_neg]
  · simp (disch := omega) only [gIzN, gIsP, gIsI, gIsJ, gJzN, gJsP, gJsI, gJsJ, gPzN, gPsI, gPsJ, gPsP, gIzG, gJzG, gPzG, if_neg]
  · obtain rfl | rfl | rfl : x = 145 ∨ x = 146 ∨ x = 147 := by omega
    · refine ⟨fun k => ?_, fun k => ?_, ?_⟩
      · show _ = (0 : Int32)
        simp [gIzN, gIsP, gIsI, gIsJ, gJzN, gJsP, gJsI, gJsJ, gPzN, gPsI, gPsJ, gPsP, gIzG, gJzG, gPzG, hb k]
      · simp [gIzN, gIsP, gIsI, gIsJ, gJzN, gJsP, gJsI, gJsJ, gPzN, gPsI, gPsJ, gPsP, gIzG, gJzG, gPzG, hb k]
      · show ∀ k ∈ ([1, 4] : List Nat), _
        refine List.forall_mem_cons.mpr ⟨?_, ?_⟩
        · show _ = some 146
          simp [gIzN, gIsP, gIsI, gIsJ, gJzN, gJsP, gJsI, gJsJ, gPzN, gPsI, gPsJ, gPsP, gIzG, gJzG, gPzG]
        refine List.forall_mem_cons.mpr ⟨?_, ?_⟩
        · show _ = some 147
          simp [gIzN, gIsP, gIsI, gIsJ, gJzN, gJsP, gJsI, gJsJ, gPzN, gPsI, gPsJ, gPsP, gIzG, gJzG, gPzG]
        exact List.forall_mem_nil _
    · refine ⟨fun k => ?_, fun k => ?_, ?_⟩
      · show _ = (0 : Int32)
        simp [gIzN, gIsP, gIsI, gIsJ, gJzN, gJsP, gJsI, gJsJ, gPzN, gPsI, gPsJ, gPsP, gIzG, gJzG, gPzG, hb k]
      · simp [gIzN, gIsP, gIsI, gIsJ, gJzN, gJsP, gJsI, gJsJ, gPzN, gPsI, gPsJ, gPsP, gIzG, gJzG, gPzG, hb k]
      · show ∀ k ∈ ([] : List Nat), _
        exact List.forall_mem_nil _
    · refine ⟨fun k => ?_, fun k => ?_, ?_⟩
      · show _ = (0 : Int32)
        simp [gIzN, gIsP, gIsI, gIsJ, gJzN, gJsP, gJsI, gJsJ, gPzN, gPsI, gPsJ, gPsP, gIzG, gJzG, gPzG, hb k]
      · simp [gIzN, gIsP, gIsI, gIsJ, gJzN, gJsP, gJsI, gJsJ, gPzN, gPsI, gPsJ, gPsP, gIzG, gJzG, gPzG, hb k]
      · show ∀ k ∈ ([] : List Nat), _
        exact List.forall_mem_nil _
set_option maxRecDepth 8000 in
set_option maxHeartbeats 2000000 in
theorem k_X8_148 {κ : xKK} {M : xM} (hb : bl M 148) : xEz κ mX8_init (1, 2, 128) [.ref 148] M 149 (cnP M 148 151) := by
  refine xEz_of ci_X8_init cl_X8_init cw_X8_init rfl (L := [some (.ref 148)]) rfl ?_
  refine xGh_run 1 rfl (by repeat' (first | exact trivial | assumption | exact xob_b rfl | exact xal_b rfl | exact xar_b rfl _ rfl (by decide) (by decide) | (apply And.intro) | decide)) ?_
  try dsimp only [xsto1, xsto2, xkill, xget, xset, gd_0, gd_s]
  refine xGh_obj rfl gwo_8 rfl ?_
  refine xGh_run 4 rfl (by repeat' (first | exact trivial | assumption | exact xob_b rfl | exact xal_b rfl | exact xar_b rfl _ rfl (by decide) (by decide) | (apply And.intro) | decide)) ?_
  try dsimp only [xsto1, xsto2, xkill, xget, xset, gd_0, gd_s]
  refine xGh_new (n' := 150) (k1' := 1) (k2' := 8) (cid := 3) rfl rfl rfl rfl rfl gwc_8_15 gwn_3 gwi_3 rfl (by decide) (by decide) ?_
  refine xGh_run 1 rfl (by repeat' (first | exact trivial | assumption | exact xob_b rfl | exact xal_b rfl | exact xar_b rfl _ rfl (by decide) (by decide) | (apply And.intro) | decide)) ?_
  try dsimp only [xsto1, xsto2, xkill, xget, xset, gd_0, gd_s]
  refine xGh_initN (my := mX3_init) (r' := (0, 0, 0)) rfl rfl rfl rfl rfl cw_X3_init (by decide +kernel) rfl k_X3 (fun _ h => h) ⟨by decide, by decide, by decide⟩ (fun v M' n' h => h.2.2) ?_
  rintro v M' n' ⟨rfl, rfl, rfl⟩
  dsimp only [Option.toList, List.nil_append, Nat.add_zero]
  refine xGh_run 3 rfl (by repeat' (first | exact trivial | assumption | exact xob_b rfl | exact xal_b rfl | exact xar_b rfl _ rfl (by decide) (by decide) | (apply And.intro) | decide)) ?_
  try dsimp only [xsto1, xsto2, xkill, xget, xset, gd_0, gd_s]
  refine xGh_na (n' := 151) (k1' := 2) (k2' := 128) rfl rfl rfl rfl rfl rfl (Or.inl ⟨rfl, rfl⟩) (by decide) rfl (by decide) (by decide) (by decide) ?_
  refine xGh_run 1 rfl (by repeat' (first | exact trivial | assumption | exact xob_b rfl | exact xal_b rfl | exact xar_b rfl _ rfl (by decide) (by decide) | (apply And.intro) | decide)) ?_
  try dsimp only [xsto1, xsto2, xkill, xget, xset, gd_0, gd_s]
  refine xGh_done ⟨_, rfl, rfl, Or.inr (Or.inr (Or.inr ⟨rfl, rfl, rfl, ?_⟩))⟩
  refine ⟨rfl, rfl, fun x k hx => ⟨?_, ?_, ?_⟩, fun x hx1 hx2 => ?_⟩
  · simp (disch := omega) only [gIzN, gIsP, gIsI, gIsJ, gJzN, gJsP, gJsI, gJsJ, gPzN, gPsI, gPsJ, gPsP, gIzG, gJzG, gPzG, if_neg]
  · simp (disch := omega) only [gIzN, gIsP, gIsI, gIsJ, gJzN, gJsP, gJsI, gJsJ, gPzN, gPsI, gPsJ, gPsP, gIzG, gJzG, gPzG, if_neg]
  · simp (disch := omega) only [gIzN, gIsP, gIsI, gIsJ, gJzN, gJsP, gJsI, gJsJ, gPzN, gPsI, gPsJ, gPsP, gIzG, gJzG, gPzG, if_neg]
  · obtain rfl | rfl | rfl : x = 148 ∨ x = 149 ∨ x = 150 := by omega
    · refine ⟨fun k => ?_, fun k => ?_, ?_⟩
      · show _ = (0 : Int32)
        simp [gIzN, gIsP, gIsI, gIsJ, gJzN, gJsP, gJsI, gJsJ, gPzN, gPsI, gPsJ, gPsP, gIzG, gJzG, gPzG, hb k]
      · simp [gIzN, gIsP, gIsI, gIsJ, gJzN, gJsP, gJsI, gJsJ, gPzN, gPsI, gPsJ, gPsP, gIzG, gJzG, gPzG, hb k]
      · show ∀ k ∈ ([1, 4] : List Nat), _
        refine List.forall_mem_cons.mpr ⟨?_, ?_⟩
        · show _ = some 149
          simp [gIzN, gIsP, gIsI, gIsJ, gJzN, gJsP, gJsI, gJsJ, gPzN, gPsI, gPsJ, gPsP, gIzG, gJzG, gPzG]
        refine List.forall_mem_cons.mpr ⟨?_, ?_⟩
        · show _ = some 150
          simp [gIzN, gIsP, gIsI, gIsJ, gJzN, gJsP, gJsI, gJsJ, gPzN, gPsI, gPsJ, gPsP, gIzG, gJzG, gPzG]
        exact List.forall_mem_nil _
    · refine ⟨fun k => ?_, fun k => ?_, ?_⟩
      · show _ = (0 : Int32)
        simp [gIzN, gIsP, gIsI, gIsJ, gJzN, gJsP, gJsI, gJsJ, gPzN, gPsI, gPsJ, gPsP, gIzG, gJzG, gPzG, hb k]
      · simp [gIzN, gIsP, gIsI, gIsJ, gJzN, gJsP, gJsI, gJsJ, gPzN, gPsI, gPsJ, gPsP, gIzG, gJzG, gPzG, hb k]
      · show ∀ k ∈ ([] : List Nat), _
        exact List.forall_mem_nil _
    · refine ⟨fun k => ?_, fun k => ?_, ?_⟩
      · show _ = (0 : Int32)
        simp [gIzN, gIsP, gIsI, gIsJ, gJzN, gJsP, gJsI, gJsJ, gPzN, gPsI, gPsJ, gPsP, gIzG, gJzG, gPzG, hb k]
      · simp [gIzN, gIsP, gIsI, gIsJ, gJzN, gJsP, gJsI, gJsJ, gPzN, gPsI, gPsJ, gPsP, gIzG, gJzG, gPzG, hb k]
      · show ∀ k ∈ ([] : List Nat), _
        exact List.forall_mem_nil _
set_option maxRecDepth 8000 in
set_option maxHeartbeats 2000000 in
theorem k_X8_151 {κ : xKK} {M : xM} (hb : bl M 151) : xEz κ mX8_init (1, 2, 128) [.ref 151] M 152 (cnP M 151 154) := by
  refine xEz_of ci_X8_init cl_X8_init cw_X8_init rfl (L := [some (.ref 151)]) rfl ?_
  refine xGh_run 1 rfl (by repeat' (first | exact trivial | assumption | exact xob_b rfl | exact xal_b rfl | exact xar_b rfl _ rfl (by decide) (by decide) | (apply And.intro) | decide)) ?_
  try dsimp only [xsto1, xsto2, xkill, xget, xset, gd_0, gd_s]
  refine xGh_obj rfl gwo_8 rfl ?_
  refine xGh_run 4 rfl (by repeat' (first | exact trivial | assumption | exact xob_b rfl | exact xal_b rfl | exact xar_b rfl _ rfl (by decide) (by decide) | (apply And.intro) | decide)) ?_
  try dsimp only [xsto1, xsto2, xkill, xget, xset, gd_0, gd_s]
  refine xGh_new (n' := 153) (k1' := 1) (k2' := 8) (cid := 3) rfl rfl rfl rfl rfl gwc_8_15 gwn_3 gwi_3 rfl (by decide) (by decide) ?_
  refine xGh_run 1 rfl (by repeat' (first | exact trivial | assumption | exact xob_b rfl | exact xal_b rfl | exact xar_b rfl _ rfl (by decide) (by decide) | (apply And.intro) | decide)) ?_
  try dsimp only [xsto1, xsto2, xkill, xget, xset, gd_0, gd_s]
  refine xGh_initN (my := mX3_init) (r' := (0, 0, 0)) rfl rfl rfl rfl rfl cw_X3_init (by decide +kernel) rfl k_X3 (fun _ h => h) ⟨by decide, by decide, by decide⟩ (fun v M' n' h => h.2.2) ?_
  rintro v M' n' ⟨rfl, rfl, rfl⟩
  dsimp only [Option.toList, List.nil_append, Nat.add_zero]
  refine xGh_run 3 rfl (by repeat' (first | exact trivial | assumption | exact xob_b rfl | exact xal_b rfl | exact xar_b rfl _ rfl (by decide) (by decide) | (apply And.intro) | decide)) ?_
  try dsimp only [xsto1, xsto2, xkill, xget, xset, gd_0, gd_s]
  refine xGh_na (n' := 154) (k1' := 2) (k2' := 128) rfl rfl rfl rfl rfl rfl (Or.inl ⟨rfl, rfl⟩) (by decide) rfl (by decide) (by decide) (by decide) ?_
  refine xGh_run 1 rfl (by repeat' (first | exact trivial | assumption | exact xob_b rfl | exact xal_b rfl | exact xar_b rfl _ rfl (by decide) (by decide) | (apply And.intro) | decide)) ?_
  try dsimp only [xsto1, xsto2, xkill, xget, xset, gd_0, gd_s]
  refine xGh_done ⟨_, rfl, rfl, Or.inr (Or.inr (Or.inr ⟨rfl, rfl, rfl, ?_⟩))⟩
  refine ⟨rfl, rfl, fun x k hx => ⟨?_, ?_, ?_⟩, fun x hx1 hx2 => ?_⟩
  · simp (disch := omega) only [gIzN, gIsP, gIsI, gIsJ, gJzN, gJsP, gJsI, gJsJ, gPzN, gPsI, gPsJ, gPsP, gIzG, gJzG, gPzG, if_neg]
  · simp (disch := omega) only [gIzN, gIsP, gIsI, gIsJ, gJzN, gJsP, gJsI, gJsJ, gPzN, gPsI, gPsJ, gPsP, gIzG, gJzG, gPzG, if_neg]
  · simp (disch := omega) only [gIzN, gIsP, gIsI, gIsJ, gJzN, gJsP, gJsI, gJsJ, gPzN, gPsI, gPsJ, gPsP, gIzG, gJzG, gPzG, if_neg]
  · obtain rfl | rfl | rfl : x = 151 ∨ x = 152 ∨ x = 153 := by omega
    · refine ⟨fun k => ?_, fun k => ?_, ?_⟩
      · show _ = (0 : Int32)
        simp [gIzN, gIsP, gIsI, gIsJ, gJzN, gJsP, gJsI, gJsJ, gPzN, gPsI, gPsJ, gPsP, gIzG, gJzG, gPzG, hb k]
      · simp [gIzN, gIsP, gIsI, gIsJ, gJzN, gJsP, gJsI, gJsJ, gPzN, gPsI, gPsJ, gPsP, gIzG, gJzG, gPzG, hb k]
      · show ∀ k ∈ ([1, 4] : List Nat), _
        refine List.forall_mem_cons.mpr ⟨?_, ?_⟩
        · show _ = some 152
          simp [gIzN, gIsP, gIsI, gIsJ, gJzN, gJsP, gJsI, gJsJ, gPzN, gPsI, gPsJ, gPsP, gIzG, gJzG, gPzG]
        refine List.forall_mem_cons.mpr ⟨?_, ?_⟩
        · show _ = some 153
          simp [gIzN, gIsP, gIsI, gIsJ, gJzN, gJsP, gJsI, gJsJ, gPzN, gPsI, gPsJ, gPsP, gIzG, gJzG, gPzG]
        exact List.forall_mem_nil _
    · refine ⟨fun k => ?_, fun k => ?_, ?_⟩
      · show _ = (0 : Int32)
        simp [gIzN, gIsP, gIsI, gIsJ, gJzN, gJsP, gJsI, gJsJ, gPzN, gPsI, gPsJ, gPsP, gIzG, gJzG, gPzG, hb k]
      · simp [gIzN, gIsP, gIsI, gIsJ, gJzN, gJsP, gJsI, gJsJ, gPzN, gPsI, gPsJ, gPsP, gIzG, gJzG, gPzG, hb k]
      · show ∀ k ∈ ([] : List Nat), _
        exact List.forall_mem_nil _
    · refine ⟨fun k => ?_, fun k => ?_, ?_⟩
      · show _ = (0 : Int32)
        simp [gIzN, gIsP, gIsI, gIsJ, gJzN, gJsP, gJsI, gJsJ, gPzN, gPsI, gPsJ, gPsP, gIzG, gJzG, gPzG, hb k]
      · simp [gIzN, gIsP, gIsI, gIsJ, gJzN, gJsP, gJsI, gJsJ, gPzN, gPsI, gPsJ, gPsP, gIzG, gJzG, gPzG, hb k]
      · show ∀ k ∈ ([] : List Nat), _
        exact List.forall_mem_nil _
set_option maxRecDepth 8000 in
set_option maxHeartbeats 2000000 in
theorem k_X8_154 {κ : xKK} {M : xM} (hb : bl M 154) : xEz κ mX8_init (1, 2, 128) [.ref 154] M 155 (cnP M 154 157) := by
  refine xEz_of ci_X8_init cl_X8_init cw_X8_init rfl (L := [some (.ref 154)]) rfl ?_
  refine xGh_run 1 rfl (by repeat' (first | exact trivial | assumption | exact xob_b rfl | exact xal_b rfl | exact xar_b rfl _ rfl (by decide) (by decide) | (apply And.intro) | decide)) ?_
  try dsimp only [xsto1, xsto2, xkill, xget, xset, gd_0, gd_s]
  refine xGh_obj rfl gwo_8 rfl ?_
  refine xGh_run 4 rfl (by repeat' (first | exact trivial | assumption | exact xob_b rfl | exact xal_b rfl | exact xar_b rfl _ rfl (by decide) (by decide) | (apply And.intro) | decide)) ?_
  try dsimp only [xsto1, xsto2, xkill, xget, xset, gd_0, gd_s]
  refine xGh_new (n' := 156) (k1' := 1) (k2' := 8) (cid := 3) rfl rfl rfl rfl rfl gwc_8_15 gwn_3 gwi_3 rfl (by decide) (by decide) ?_
  refine xGh_run 1 rfl (by repeat' (first | exact trivial | assumption | exact xob_b rfl | exact xal_b rfl | exact xar_b rfl _ rfl (by decide) (by decide) | (apply And.intro) | decide)) ?_
  try dsimp only [xsto1, xsto2, xkill, xget, xset, gd_0, gd_s]
  refine xGh_initN (my := mX3_init) (r' := (0, 0, 0)) rfl rfl rfl rfl rfl cw_X3_init (by decide +kernel) rfl k_X3 (fun _ h => h) ⟨by decide, by decide, by decide⟩ (fun v M' n' h => h.2.2) ?_
  rintro v M' n' ⟨rfl, rfl, rfl⟩
  dsimp only [Option.toList, List.nil_append, Nat.add_zero]
  refine xGh_run 3 rfl (by repeat' (first | exact trivial | assumption | exact xob_b rfl | exact xal_b rfl | exact xar_b rfl _ rfl (by decide) (by decide) | (apply And.intro) | decide)) ?_
  try dsimp only [xsto1, xsto2, xkill, xget, xset, gd_0, gd_s]
  refine xGh_na (n' := 157) (k1' := 2) (k2' := 128) rfl rfl rfl rfl rfl rfl (Or.inl ⟨rfl, rfl⟩) (by decide) rfl (by decide) (by decide) (by decide) ?_
  refine xGh_run 1 rfl (by repeat' (first | exact trivial | assumption | exact xob_b rfl | exact xal_b rfl | exact xar_b rfl _ rfl (by decide) (by decide) | (apply And.intro) | decide)) ?_
  try dsimp only [xsto1, xsto2, xkill, xget, xset, gd_0, gd_s]
  refine xGh_done ⟨_, rfl, rfl, Or.inr (Or.inr (Or.inr ⟨rfl, rfl, rfl, ?_⟩))⟩
  refine ⟨rfl, rfl, fun x k hx => ⟨?_, ?_, ?_⟩, fun x hx1 hx2 => ?_⟩
  · simp (disch := omega) only [gIzN, gIsP, gIsI, gIsJ, gJzN, gJsP, gJsI, gJsJ, gPzN, gPsI, gPsJ, gPsP, gIzG, gJzG, gPzG, if_neg]
  · simp (disch := omega) only [gIzN, gIsP, gIsI, gIsJ, gJzN, gJsP, gJsI, gJsJ, gPzN, gPsI, gPsJ, gPsP, gIzG, gJzG, gPzG, if_neg]
  · simp (disch := omega) only [gIzN, gIsP, gIsI, gIsJ, gJzN, gJsP, gJsI, gJsJ, gPzN, gPsI, gPsJ, gPsP, gIzG, gJzG, gPzG, if_neg]
  · obtain rfl | rfl | rfl : x = 154 ∨ x = 155 ∨ x = 156 := by omega
    · refine ⟨fun k => ?_, fun k => ?_, ?_⟩
      · show _ = (0 : Int32)
        simp [gIzN, gIsP, gIsI, gIsJ, gJzN, gJsP, gJsI, gJsJ, gPzN, gPsI, gPsJ, gPsP, gIzG, gJzG, gPzG, hb k]
      · simp [gIzN, gIsP, gIsI, gIsJ, gJzN, gJsP, gJsI, gJsJ, gPzN, gPsI, gPsJ, gPsP, gIzG, gJzG, gPzG, hb k]
      · show ∀ k ∈ ([1, 4] : List Nat), _
        refine List.forall_mem_cons.mpr ⟨?_, ?_⟩
        · show _ = some 155
          simp [gIzN, gIsP, gIsI, gIsJ, gJzN, gJsP, gJsI, gJsJ, gPzN, gPsI, gPsJ, gPsP, gIzG, gJzG, gPzG]
        refine List.forall_mem_cons.mpr ⟨?_, ?_⟩
        · show _ = some 156
          simp [gIzN, gIsP, gIsI, gIsJ, gJzN, gJsP, gJsI, gJsJ, gPzN, gPsI, gPsJ, gPsP, gIzG, gJzG, gPzG]
        exact List.forall_mem_nil _
    · refine ⟨fun k => ?_, fun k => ?_, ?_⟩
      · show _ = (0 : Int32)
        simp [gIzN, gIsP, gIsI, gIsJ, gJzN, gJsP, gJsI, gJsJ, gPzN, gPsI, gPsJ, gPsP, gIzG, gJzG, gPzG, hb k]
      · simp [gIzN, gIsP, gIsI, gIsJ, gJzN, gJsP, gJsI, gJsJ, gPzN, gPsI, gPsJ, gPsP, gIzG, gJzG, gPzG, hb k]
      · show ∀ k ∈ ([] : List Nat), _
        exact List.forall_mem_nil _
    · refine ⟨fun k => ?_, fun k => ?_, ?_⟩
      · show _ = (0 : Int32)
        simp [gIzN, gIsP, gIsI, gIsJ, gJzN, gJsP, gJsI, gJsJ, gPzN, gPsI, gPsJ, gPsP, gIzG, gJzG, gPzG, hb k]
      · simp [gIzN, gIsP, gIsI, gIsJ, gJzN, gJsP, gJsI, gJsJ, gPzN, gPsI, gPsJ, gPsP, gIzG, gJzG, gPzG, hb k]
      · show ∀ k ∈ ([] : List Nat), _
        exact List.forall_mem_nil _
set_option maxRecDepth 8000 in
set_option maxHeartbeats 2000000 in
theorem k_X8_157 {κ : xKK} {M : xM} (hb : bl M 157) : xEz κ mX8_init (1, 2, 128) [.ref 157] M 158 (cnP M 157 160) := by
  refine xEz_of ci_X8_init cl_X8_init cw_X8_init rfl (L := [some (.ref 157)]) rfl ?_
  refine xGh_run 1 rfl (by repeat' (first | exact trivial | assumption | exact xob_b rfl | exact xal_b rfl | exact xar_b rfl _ rfl (by decide) (by decide) | (apply And.intro) | decide)) ?_
  try dsimp only [xsto1, xsto2, xkill, xget, xset, gd_0, gd_s]
  refine xGh_obj rfl gwo_8 rfl ?_
  refine xGh_run 4 rfl (by repeat' (first | exact trivial | assumption | exact xob_b rfl | exact xal_b rfl | exact xar_b rfl _ rfl (by decide) (by decide) | (apply And.intro) | decide)) ?_
  try dsimp only [xsto1, xsto2, xkill, xget, xset, gd_0, gd_s]
  refine xGh_new (n' := 159) (k1' := 1) (k2' := 8) (cid := 3) rfl rfl rfl rfl rfl gwc_8_15 gwn_3 gwi_3 rfl (by decide) (by decide) ?_
  refine xGh_run 1 rfl (by repeat' (first | exact trivial | assumption | exact xob_b rfl | exact xal_b rfl | exact xar_b rfl _ rfl (by decide) (by decide) | (apply And.intro) | decide)) ?_
  try dsimp only [xsto1, xsto2, xkill, xget, xset, gd_0, gd_s]
  refine xGh_initN (my := mX3_init) (r' := (0, 0, 0)) rfl rfl rfl rfl rfl cw_X3_init (by decide +kernel) rfl k_X3 (fun _ h => h) ⟨by decide, by decide, by decide⟩ (fun v M' n' h => h.2.2) ?_
  rintro v M' n' ⟨rfl, rfl, rfl⟩
  dsimp only [Option.toList, List.nil_append, Nat.add_zero]
  refine xGh_run 3 rfl (by repeat' (first | exact trivial | assumption | exact xob_b rfl | exact xal_b rfl | exact xar_b rfl _ rfl (by decide) (by decide) | (apply And.intro) | decide)) ?_
  try dsimp only [xsto1, xsto2, xkill, xget, xset, gd_0, gd_s]
  refine xGh_na (n' := 160) (k1' := 2) (k2' := 128) rfl rfl rfl rfl rfl rfl (Or.inl ⟨rfl, rfl⟩) (by decide) rfl (by decide) (by decide) (by decide) ?_
  refine xGh_run 1 rfl (by repeat' (first | exact trivial | assumption | exact xob_b rfl | exact xal_b rfl | exact xar_b rfl _ rfl (by decide) (by decide) | (apply And.intro) | decide)) ?_
  try dsimp only [xsto1, xsto2, xkill, xget, xset, gd_0, gd_s]
  refine xGh_done ⟨_, rfl, rfl, Or.inr (Or.inr (Or.inr ⟨rfl, rfl, rfl, ?_⟩))⟩
  refine ⟨rfl, rfl, fun x k hx => ⟨?_, ?_, ?_⟩, fun x hx1 hx2 => ?_⟩
  · simp (disch := omega) only [gIzN, gIsP, gIsI, gIsJ, gJzN, gJsP, gJsI, gJsJ, gPzN, gPsI, gPsJ, gPsP, gIzG, gJzG, gPzG, if_neg]
  · simp (disch := omega) only [gIzN, gIsP, gIsI, gIsJ, gJzN, gJsP, gJsI, gJsJ, gPzN, gPsI, gPsJ, gPsP, gIzG, gJzG, gPzG, if_neg]
  · simp (disch := omega) only [gIzN, gIsP, gIsI, gIsJ, gJzN, gJsP, gJsI, gJsJ, gPzN, gPsI, gPsJ, gPsP, gIzG, gJzG, gPzG, if_neg]
  · obtain rfl | rfl | rfl : x = 157 ∨ x = 158 ∨ x = 159 := by omega
    · refine ⟨fun k => ?_, fun k => ?_, ?_⟩
      · show _ = (0 : Int32)
        simp [gIzN, gIsP, gIsI, gIsJ, gJzN, gJsP, gJsI, gJsJ, gPzN, gPsI, gPsJ, gPsP, gIzG, gJzG, gPzG, hb k]
      · simp [gIzN, gIsP, gIsI, gIsJ, gJzN, gJsP, gJsI, gJsJ, gPzN, gPsI, gPsJ, gPsP, gIzG, gJzG, gPzG, hb k]
      · show ∀ k ∈ ([1, 4] : List Nat), _
        refine List.forall_mem_cons.mpr ⟨?_, ?_⟩
        · show _ = some 158
          simp [gIzN, gIsP, gIsI, gIsJ, gJzN, gJsP, gJsI, gJsJ, gPzN, gPsI, gPsJ, gPsP, gIzG, gJzG, gPzG]
        refine List.forall_mem_cons.mpr ⟨?_, ?_⟩
        · show _ = some 159
          simp [gIzN, gIsP, gIsI, gIsJ, gJzN, gJsP, gJsI, gJsJ, gPzN, gPsI, gPsJ, gPsP, gIzG, gJzG, gPzG]
        exact List.forall_mem_nil _
    · refine ⟨fun k => ?_, fun k => ?_, ?_⟩
      · show _ = (0 : Int32)
        simp [gIzN, gIsP, gIsI, gIsJ, gJzN, gJsP, gJsI, gJsJ, gPzN, gPsI, gPsJ, gPsP, gIzG, gJzG, gPzG, hb k]
      · simp [gIzN, gIsP, gIsI, gIsJ, gJzN, gJsP, gJsI, gJsJ, gPzN, gPsI, gPsJ, gPsP, gIzG, gJzG, gPzG, hb k]
      · show ∀ k ∈ ([] : List Nat), _
        exact List.forall_mem_nil _
    · refine ⟨fun k => ?_, fun k => ?_, ?_⟩
      · show _ = (0 : Int32)
        simp [gIzN, gIsP, gIsI, gIsJ, gJzN, gJsP, gJsI, gJsJ, gPzN, gPsI, gPsJ, gPsP, gIzG, gJzG, gPzG, hb k]
      · simp [gIzN, gIsP, gIsI, gIsJ, gJzN, gJsP, gJsI, gJsJ, gPzN, gPsI, gPsJ, gPsP, gIzG, gJzG, gPzG, hb k]
      · show ∀ k ∈ ([] : List Nat), _
        exact List.forall_mem_nil _
set_option maxRecDepth 8000 in
set_option maxHeartbeats 2000000 in
theorem k_X8_160 {κ : xKK} {M : xM} (hb : bl M 160) : xEz κ mX8_init (1, 2, 128) [.ref 160] M 161 (cnP M 160 163) := by
  refine xEz_of ci_X8_init cl_X8_init cw_X8_init rfl (L := [some (.ref 160)]) rfl ?_
  refine xGh_run 1 rfl (by repeat' (first | exact trivial | assumption | exact xob_b rfl | exact xal_b rfl | exact xar_b rfl _ rfl (by decide) (by decide) | (apply And.intro) | decide)) ?_
  try dsimp only [xsto1, xsto2, xkill, xget, xset, gd_0, gd_s]
  refine xGh_obj rfl gwo_8 rfl ?_
  refine xGh_run 4 rfl (by repeat' (first | exact trivial | assumption | exact xob_b rfl | exact xal_b rfl | exact xar_b rfl _ rfl (by decide) (by decide) | (apply And.intro) | decide)) ?_
  try dsimp only [xsto1, xsto2, xkill, xget, xset, gd_0, gd_s]
  refine xGh_new (n' := 162) (k1' := 1) (k2' := 8) (cid := 3) rfl rfl rfl rfl rfl gwc_8_15 gwn_3 gwi_3 rfl (by decide) (by decide) ?_
  refine xGh_run 1 rfl (by repeat' (first | exact trivial | assumption | exact xob_b rfl | exact xal_b rfl | exact xar_b rfl _ rfl (by decide) (by decide) | (apply And.intro) | decide)) ?_
  try dsimp only [xsto1, xsto2, xkill, xget, xset, gd_0, gd_s]
  refine xGh_initN (my := mX3_init) (r' := (0, 0, 0)) rfl rfl rfl rfl rfl cw_X3_init (by decide +kernel) rfl k_X3 (fun _ h => h) ⟨by decide, by decide, by decide⟩ (fun v M' n' h => h.2.2) ?_
  rintro v M' n' ⟨rfl, rfl, rfl⟩
  dsimp only [Option.toList, List.nil_append, Nat.add_zero]
  refine xGh_run 3 rfl (by repeat' (first | exact trivial | assumption | exact xob_b rfl | exact xal_b rfl | exact xar_b rfl _ rfl (by decide) (by decide) | (apply And.intro) | decide)) ?_
  try dsimp only [xsto1, xsto2, xkill, xget, xset, gd_0, gd_s]
  refine xGh_na (n' := 163) (k1' := 2) (k2' := 128) rfl rfl rfl rfl rfl rfl (Or.inl ⟨rfl, rfl⟩) (by decide) rfl (by decide) (by decide) (by decide) ?_
  refine xGh_run 1 rfl (by repeat' (first | exact trivial | assumption | exact xob_b rfl | exact xal_b rfl | exact xar_b rfl _ rfl (by decide) (by decide) | (apply And.intro) | decide)) ?_
  try dsimp only [xsto1, xsto2, xkill, xget, xset, gd_0, gd_s]
  refine xGh_done ⟨_, rfl, rfl, Or.inr (Or.inr (Or.inr ⟨rfl, rfl, rfl, ?_⟩))⟩
  refine ⟨rfl, rfl, fun x k hx => ⟨?_, ?_, ?_⟩, fun x hx1 hx2 => ?_⟩
  · simp (disch := omega) only [gIzN, gIsP, gIsI, gIsJ, gJzN, gJsP, gJsI, gJsJ, gPzN, gPsI, gPsJ, gPsP, gIzG, gJzG, gPzG, if_neg]
  · simp (disch := omega) only [gIzN, gIsP, gIsI, gIsJ, gJzN, gJsP, gJsI, gJsJ, gPzN, gPsI, gPsJ, gPsP, gIzG, gJzG, gPzG, if_neg]
  · simp (disch := omega) only [gIzN, gIsP, gIsI, gIsJ, gJzN, gJsP, gJsI, gJsJ, gPzN, gPsI, gPsJ, gPsP, gIzG, gJzG, gPzG, if_neg]
  · obtain rfl | rfl | rfl : x = 160 ∨ x = 161 ∨ x = 162 := by omega
    · refine ⟨fun k => ?_, fun k => ?_, ?_⟩
      · show _ = (0 : Int32)
        simp [gIzN, gIsP, gIsI, gIsJ, gJzN, gJsP, gJsI, gJsJ, gPzN, gPsI, gPsJ, gPsP, gIzG, gJzG, gPzG, hb k]
      · simp [gIzN, gIsP, gIsI, gIsJ, gJzN, gJsP, gJsI, gJsJ, gPzN, gPsI, gPsJ, gPsP, gIzG, gJzG, gPzG, hb k]
      · show ∀ k ∈ ([1, 4] : List Nat), _
        refine List.forall_mem_cons.mpr ⟨?_, ?_⟩
        · show _ = some 161
          simp [gIzN, gIsP, gIsI, gIsJ, gJzN, gJsP, gJsI, gJsJ, gPzN, gPsI, gPsJ, gPsP, gIzG, gJzG, gPzG]
        refine List.forall_mem_cons.mpr ⟨?_, ?_⟩
        · show _ = some 162
          simp [gIzN, gIsP, gIsI, gIsJ, gJzN, gJsP, gJsI, gJsJ, gPzN, gPsI, gPsJ, gPsP, gIzG, gJzG, gPzG]
        exact List.forall_mem_nil _
    · refine ⟨fun k => ?_, fun k => ?_, ?_⟩
      · show _ = (0 : Int32)
        simp [gIzN, gIsP, gIsI, gIsJ, gJzN, gJsP, gJsI, gJsJ, gPzN, gPsI, gPsJ, gPsP, gIzG, gJzG, gPzG, hb k]
      · simp [gIzN, gIsP, gIsI, gIsJ, gJzN, gJsP, gJsI, gJsJ, gPzN, gPsI, gPsJ, gPsP, gIzG, gJzG, gPzG, hb k]
      · show ∀ k ∈ ([] : List Nat), _
        exact List.forall_mem_nil _
    · refine ⟨fun k => ?_, fun k => ?_, ?_⟩
      · show _ = (0 : Int32)
        simp [gIzN, gIsP, gIsI, gIsJ, gJzN, gJsP, gJsI, gJsJ, gPzN, gPsI, gPsJ, gPsP, gIzG, gJzG, gPzG, hb k]
      · simp [gIzN, gIsP, gIsI, gIsJ, gJzN, gJsP, gJsI, gJsJ, gPzN, gPsI, gPsJ, gPsP, gIzG, gJzG, gPzG, hb k]
      · show ∀ k ∈ ([] : List Nat), _
        exact List.forall_mem_nil _
set_option maxRecDepth 8000 in
set_option maxHeartbeats 2000000 in
theorem k_X8_163 {κ : xKK} {M : xM} (hb : bl M 163) : xEz κ mX8_init (1, 2, 128) [.ref 163] M 164 (cnP M 163 166) := by
  refine xEz_of ci_X8_init cl_X8_init cw_X8_init rfl (L := [some (.ref 163)]) rfl ?_
  refine xGh_run 1 rfl (by repeat' (first | exact trivial | assumption | exact xob_b rfl | exact xal_b rfl | exact xar_b rfl _ rfl (by decide) (by decide) | (apply And.intro) | decide)) ?_
  try dsimp only [xsto1, xsto2, xkill, xget, xset, gd_0, gd_s]
  refine xGh_obj rfl gwo_8 rfl ?_
  refine xGh_run 4 rfl (by repeat' (first | exact trivial | assumption | exact xob_b rfl | exact xal_b rfl | exact xar_b rfl _ rfl (by decide) (by decide) | (apply And.intro) | decide)) ?_
  try dsimp only [xsto1, xsto2, xkill, xget, xset, gd_0, gd_s]
  refine xGh_new (n' := 165) (k1' := 1) (k2' := 8) (cid := 3) rfl rfl rfl rfl rfl gwc_8_15 gwn_3 gwi_3 rfl (by decide) (by decide) ?_
  refine xGh_run 1 rfl (by repeat' (first | exact trivial | assumption | exact xob_b rfl | exact xal_b rfl | exact xar_b rfl _ rfl (by decide) (by decide) | (apply And.intro) | decide)) ?_
  try dsimp only [xsto1, xsto2, xkill, xget, xset, gd_0, gd_s]
  refine xGh_initN (my := mX3_init) (r' := (0, 0, 0)) rfl rfl rfl rfl rfl cw_X3_init (by decide +kernel) rfl k_X3 (fun _ h => h) ⟨by decide, by decide, by decide⟩ (fun v M' n' h => h.2.2) ?_
  rintro v M' n' ⟨rfl, rfl, rfl⟩
  dsimp only [Option.toList, List.nil_append, Nat.add_zero]
  refine xGh_run 3 rfl (by repeat' (first | exact trivial | assumption | exact xob_b rfl | exact xal_b rfl | exact xar_b rfl _ rfl (by decide) (by decide) | (apply And.intro) | decide)) ?_
  try dsimp only [xsto1, xsto2, xkill, xget, xset, gd_0, gd_s]
  refine xGh_na (n' := 166) (k1' := 2) (k2' := 128) rfl rfl rfl rfl rfl rfl (Or.inl ⟨rfl, rfl⟩) (by decide) rfl (by decide) (by decide) (by decide) ?_
  refine xGh_run 1 rfl (by repeat' (first | exact trivial | assumption | exact xob_b rfl | exact xal_b rfl | exact xar_b rfl _ rfl (by decide) (by decide) | (apply And.intro) | decide)) ?_
  try dsimp only [xsto1, xsto2, xkill, xget, xset, gd_0, gd_s]
  refine xGh_done ⟨_, rfl, rfl, Or.inr (Or.inr (Or.inr ⟨rfl, rfl, rfl, ?_⟩))⟩
  refine ⟨rfl, rfl, fun x k hx => ⟨?_, ?_, ?_⟩, fun x hx1 hx2 => ?_⟩
  · simp (disch := omega) only [gIzN, gIsP, gIsI, gIsJ, gJzN, gJsP, gJsI, gJsJ, gPzN, gPsI, gPsJ, gPsP, gIzG, gJzG, gPzG, if_neg]
  · simp (disch := omega) only [gIzN, gIsP, gIsI, gIsJ, gJzN, gJsP, gJsI, gJsJ, gPzN, gPsI, gPsJ, gPsP, gIzG, gJzG, gPzG, if_neg]
  · simp (disch := omega) only [gIzN, gIsP, gIsI, gIsJ, gJzN, gJsP, gJsI, gJsJ, gPzN, gPsI, gPsJ, gPsP, gIzG, gJzG, gPzG, if_neg]
  · obtain rfl | rfl | rfl : x = 163 ∨ x = 164 ∨ x = 165 := by omega
    · refine ⟨fun k => ?_, fun k => ?_, ?_⟩
      · show _ = (0 : Int32)
        simp [gIzN, gIsP, gIsI, gIsJ, gJzN, gJsP, gJsI, gJsJ, gPzN, gPsI, gPsJ, gPsP, gIzG, gJzG, gPzG, hb k]
      · simp [gIzN, gIsP, gIsI, gIsJ, gJzN, gJsP, gJsI, gJsJ, gPzN, gPsI, gPsJ, gPsP, gIzG, gJzG, gPzG, hb k]
      · show ∀ k ∈ ([1, 4] : List Nat), _
        refine List.forall_mem_cons.mpr ⟨?_, ?_⟩
        · show _ = some 164
          simp [gIzN, gIsP, gIsI, gIsJ, gJzN, gJsP, gJsI, gJsJ, gPzN, gPsI, gPsJ, gPsP, gIzG, gJzG, gPzG]
        refine List.forall_mem_cons.mpr ⟨?_, ?_⟩
        · show _ = some 165
          simp [gIzN, gIsP, gIsI, gIsJ, gJzN, gJsP, gJsI, gJsJ, gPzN, gPsI, gPsJ, gPsP, gIzG, gJzG, gPzG]
        exact List.forall_mem_nil _
    · refine ⟨fun k => ?_, fun k => ?_, ?_⟩
      · show _ = (0 : Int32)
        simp [gIzN, gIsP, gIsI, gIsJ, gJzN, gJsP, gJsI, gJsJ, gPzN, gPsI, gPsJ, gPsP, gIzG, gJzG, gPzG, hb k]
      · simp [gIzN, gIsP, gIsI, gIsJ, gJzN, gJsP, gJsI, gJsJ, gPzN, gPsI, gPsJ, gPsP, gIzG, gJzG, gPzG, hb k]
      · show ∀ k ∈ ([] : List Nat), _
        exact List.forall_mem_nil _
    · refine ⟨fun k => ?_, fun k => ?_, ?_⟩
      · show _ = (0 : Int32)
        simp [gIzN, gIsP, gIsI, gIsJ, gJzN, gJsP, gJsI, gJsJ, gPzN, gPsI, gPsJ, gPsP, gIzG, gJzG, gPzG, hb k]
      · simp [gIzN, gIsP, gIsI, gIsJ, gJzN, gJsP, gJsI, gJsJ, gPzN, gPsI, gPsJ, gPsP, gIzG, gJzG, gPzG, hb k]
      · show ∀ k ∈ ([] : List Nat), _
        exact List.forall_mem_nil _
def mA_1 (M : xM) : xM := sP (zN (sP (sI (sI (sI (sI (sI (zN (sI (sP (zN (sP (zN (M) 2) 1 0 (some 2)) 3) 1 2 (some 3)) 1 6 1) 4) 4 0 100) 4 1 100) 4 2 100) 4 3 100) 4 4 100) 1 7 (some 4)) 5) 1 8 (some 5)
set_option maxRecDepth 8000 in
set_option maxHeartbeats 4000000 in
theorem mA_ok_1 {M : xM} (hb : bl M 1) : cnP M 1 28 none (puF (puF (mA_1 M) 2 6 10) 3 16 12) 28 := by
  refine ⟨rfl, rfl, fun x k hx => ⟨?_, ?_, ?_⟩, fun x hx1 hx2 => ?_⟩
  · rw [gIpuF, if_neg (by omega), gIpuF, if_neg (by omega)]; unfold mA_1; simp (disch := omega) only [gIzN, gIsP, gIsI, gIsJ, gJzN, gJsP, gJsI, gJsJ, gPzN, gPsI, gPsJ, gPsP, gIzG, gJzG, gPzG, if_neg]
  · rw [gJpuF, if_neg (by omega), gJpuF, if_neg (by omega)]; unfold mA_1; simp (disch := omega) only [gIzN, gIsP, gIsI, gIsJ, gJzN, gJsP, gJsI, gJsJ, gPzN, gPsI, gPsJ, gPsP, gIzG, gJzG, gPzG, if_neg]
  · rw [gPpuF _ _ _ _ _ (by omega), if_neg (by omega), if_neg (by omega), gPpuF _ _ _ _ _ (by omega), if_neg (by omega), if_neg (by omega)]; unfold mA_1; simp (disch := omega) only [gIzN, gIsP, gIsI, gIsJ, gJzN, gJsP, gJsI, gJsJ, gPzN, gPsI, gPsJ, gPsP, gIzG, gJzG, gPzG, if_neg]
  · by_cases hc : 6 ≤ x
    · have e1 : ∀ k, gI (puF (puF (mA_1 M) 2 6 10) 3 16 12) x k = 0 := fun k => by
        rw [gIpuF]
        by_cases h2 : 16 ≤ x ∧ x < 16 + 12
        · rw [if_pos h2]
        · rw [if_neg h2, gIpuF, if_pos (by omega)]
      have e2 : ∀ k, gJ (puF (puF (mA_1 M) 2 6 10) 3 16 12) x k = 0 := fun k => by
        rw [gJpuF]
        by_cases h2 : 16 ≤ x ∧ x < 16 + 12
        · rw [if_pos h2]
        · rw [if_neg h2, gJpuF, if_pos (by omega)]
      have e3 : (∀ k, iI x k = 0) ∧ pl x = [] := by
        obtain rfl | rfl | rfl | rfl | rfl | rfl | rfl | rfl | rfl | rfl | rfl | rfl | rfl | rfl | rfl | rfl | rfl | rfl | rfl | rfl | rfl | rfl : x = 6 ∨ x = 7 ∨ x = 8 ∨ x = 9 ∨ x = 10 ∨ x = 11 ∨ x = 12 ∨ x = 13 ∨ x = 14 ∨ x = 15 ∨ x = 16 ∨ x = 17 ∨ x = 18 ∨ x = 19 ∨ x = 20 ∨ x = 21 ∨ x = 22 ∨ x = 23 ∨ x = 24 ∨ x = 25 ∨ x = 26 ∨ x = 27 := by omega
        all_goals exact ⟨fun _ => rfl, rfl⟩
      exact ⟨fun k => (e1 k).trans (e3.1 k).symm, e2, by rw [e3.2]; exact fun _ h => absurd h List.not_mem_nil⟩
    · obtain rfl | rfl | rfl | rfl | rfl : x = 1 ∨ x = 2 ∨ x = 3 ∨ x = 4 ∨ x = 5 := by omega
      · refine ⟨fun k => ?_, fun k => ?_, ?_⟩
        · rw [gIpuF, if_neg (by omega), gIpuF, if_neg (by omega)]
          show _ = (bif Nat.beq k 6 then (1 : Int32) else 0)
          by_cases hk : k = 6
          · subst hk; unfold mA_1; simp [gIzN, gIsP, gIsI, gIsJ, gJzN, gJsP, gJsI, gJsJ, gPzN, gPsI, gPsJ, gPsP, gIzG, gJzG, gPzG]
          · rw [beq_ne hk]; unfold mA_1; simp [gIzN, gIsP, gIsI, gIsJ, gJzN, gJsP, gJsI, gJsJ, gPzN, gPsI, gPsJ, gPsP, gIzG, gJzG, gPzG, hk, hb k]
        · rw [gJpuF, if_neg (by omega), gJpuF, if_neg (by omega)]; unfold mA_1; simp [gIzN, gIsP, gIsI, gIsJ, gJzN, gJsP, gJsI, gJsJ, gPzN, gPsI, gPsJ, gPsP, gIzG, gJzG, gPzG, hb k]
        · show ∀ k ∈ ([0, 2, 7, 8] : List Nat), _
          refine List.forall_mem_cons.mpr ⟨?_, ?_⟩
          · show _ = some 2
            rw [gPpuF _ _ _ _ _ (by omega), gPpuF _ _ _ _ _ (by omega)]; unfold mA_1; simp [gIzN, gIsP, gIsI, gIsJ, gJzN, gJsP, gJsI, gJsJ, gPzN, gPsI, gPsJ, gPsP, gIzG, gJzG, gPzG]
          refine List.forall_mem_cons.mpr ⟨?_, ?_⟩
          · show _ = some 3
            rw [gPpuF _ _ _ _ _ (by omega), gPpuF _ _ _ _ _ (by omega)]; unfold mA_1; simp [gIzN, gIsP, gIsI, gIsJ, gJzN, gJsP, gJsI, gJsJ, gPzN, gPsI, gPsJ, gPsP, gIzG, gJzG, gPzG]
          refine List.forall_mem_cons.mpr ⟨?_, ?_⟩
          · show _ = some 4
            rw [gPpuF _ _ _ _ _ (by omega), gPpuF _ _ _ _ _ (by omega)]; unfold mA_1; simp [gIzN, gIsP, gIsI, gIsJ, gJzN, gJsP, gJsI, gJsJ, gPzN, gPsI, gPsJ, gPsP, gIzG, gJzG, gPzG]
          refine List.forall_mem_cons.mpr ⟨?_, ?_⟩
          · show _ = some 5
            rw [gPpuF _ _ _ _ _ (by omega), gPpuF _ _ _ _ _ (by omega)]; unfold mA_1; simp [gIzN, gIsP, gIsI, gIsJ, gJzN, gJsP, gJsI, gJsJ, gPzN, gPsI, gPsJ, gPsP, gIzG, gJzG, gPzG]
          exact List.forall_mem_nil _
      · refine ⟨fun k => ?_, fun k => ?_, ?_⟩
        · rw [gIpuF, if_neg (by omega), gIpuF, if_neg (by omega)]
          show _ = (0 : Int32)
          unfold mA_1; simp [gIzN, gIsP, gIsI, gIsJ, gJzN, gJsP, gJsI, gJsJ, gPzN, gPsI, gPsJ, gPsP, gIzG, gJzG, gPzG]
        · rw [gJpuF, if_neg (by omega), gJpuF, if_neg (by omega)]; unfold mA_1; simp [gIzN, gIsP, gIsI, gIsJ, gJzN, gJsP, gJsI, gJsJ, gPzN, gPsI, gPsJ, gPsP, gIzG, gJzG, gPzG, hb k]
        · show ∀ k ∈ ([0, 1, 2, 3, 4, 5, 6, 7, 8, 9] : List Nat), _
          refine List.forall_mem_cons.mpr ⟨?_, ?_⟩
          · show _ = some 6
            rw [gPpuF _ _ _ _ _ (by omega), gPpuF _ _ _ _ _ (by omega)]; unfold mA_1; simp [gIzN, gIsP, gIsI, gIsJ, gJzN, gJsP, gJsI, gJsJ, gPzN, gPsI, gPsJ, gPsP, gIzG, gJzG, gPzG]
          refine List.forall_mem_cons.mpr ⟨?_, ?_⟩
          · show _ = some 7
            rw [gPpuF _ _ _ _ _ (by omega), gPpuF _ _ _ _ _ (by omega)]; unfold mA_1; simp [gIzN, gIsP, gIsI, gIsJ, gJzN, gJsP, gJsI, gJsJ, gPzN, gPsI, gPsJ, gPsP, gIzG, gJzG, gPzG]
          refine List.forall_mem_cons.mpr ⟨?_, ?_⟩
          · show _ = some 8
            rw [gPpuF _ _ _ _ _ (by omega), gPpuF _ _ _ _ _ (by omega)]; unfold mA_1; simp [gIzN, gIsP, gIsI, gIsJ, gJzN, gJsP, gJsI, gJsJ, gPzN, gPsI, gPsJ, gPsP, gIzG, gJzG, gPzG]
          refine List.forall_mem_cons.mpr ⟨?_, ?_⟩
          · show _ = some 9
            rw [gPpuF _ _ _ _ _ (by omega), gPpuF _ _ _ _ _ (by omega)]; unfold mA_1; simp [gIzN, gIsP, gIsI, gIsJ, gJzN, gJsP, gJsI, gJsJ, gPzN, gPsI, gPsJ, gPsP, gIzG, gJzG, gPzG]
          refine List.forall_mem_cons.mpr ⟨?_, ?_⟩
          · show _ = some 10
            rw [gPpuF _ _ _ _ _ (by omega), gPpuF _ _ _ _ _ (by omega)]; unfold mA_1; simp [gIzN, gIsP, gIsI, gIsJ, gJzN, gJsP, gJsI, gJsJ, gPzN, gPsI, gPsJ, gPsP, gIzG, gJzG, gPzG]
          refine List.forall_mem_cons.mpr ⟨?_, ?_⟩
          · show _ = some 11
            rw [gPpuF _ _ _ _ _ (by omega), gPpuF _ _ _ _ _ (by omega)]; unfold mA_1; simp [gIzN, gIsP, gIsI, gIsJ, gJzN, gJsP, gJsI, gJsJ, gPzN, gPsI, gPsJ, gPsP, gIzG, gJzG, gPzG]
          refine List.forall_mem_cons.mpr ⟨?_, ?_⟩
          · show _ = some 12
            rw [gPpuF _ _ _ _ _ (by omega), gPpuF _ _ _ _ _ (by omega)]; unfold mA_1; simp [gIzN, gIsP, gIsI, gIsJ, gJzN, gJsP, gJsI, gJsJ, gPzN, gPsI, gPsJ, gPsP, gIzG, gJzG, gPzG]
          refine List.forall_mem_cons.mpr ⟨?_, ?_⟩
          · show _ = some 13
            rw [gPpuF _ _ _ _ _ (by omega), gPpuF _ _ _ _ _ (by omega)]; unfold mA_1; simp [gIzN, gIsP, gIsI, gIsJ, gJzN, gJsP, gJsI, gJsJ, gPzN, gPsI, gPsJ, gPsP, gIzG, gJzG, gPzG]
          refine List.forall_mem_cons.mpr ⟨?_, ?_⟩
          · show _ = some 14
            rw [gPpuF _ _ _ _ _ (by omega), gPpuF _ _ _ _ _ (by omega)]; unfold mA_1; simp [gIzN, gIsP, gIsI, gIsJ, gJzN, gJsP, gJsI, gJsJ, gPzN, gPsI, gPsJ, gPsP, gIzG, gJzG, gPzG]
          refine List.forall_mem_cons.mpr ⟨?_, ?_⟩
          · show _ = some 15
            rw [gPpuF _ _ _ _ _ (by omega), gPpuF _ _ _ _ _ (by omega)]; unfold mA_1; simp [gIzN, gIsP, gIsI, gIsJ, gJzN, gJsP, gJsI, gJsJ, gPzN, gPsI, gPsJ, gPsP, gIzG, gJzG, gPzG]
          exact List.forall_mem_nil _
      · refine ⟨fun k => ?_, fun k => ?_, ?_⟩
        · rw [gIpuF, if_neg (by omega), gIpuF, if_neg (by omega)]
          show _ = (0 : Int32)
          unfold mA_1; simp [gIzN, gIsP, gIsI, gIsJ, gJzN, gJsP, gJsI, gJsJ, gPzN, gPsI, gPsJ, gPsP, gIzG, gJzG, gPzG]
        · rw [gJpuF, if_neg (by omega), gJpuF, if_neg (by omega)]; unfold mA_1; simp [gIzN, gIsP, gIsI, gIsJ, gJzN, gJsP, gJsI, gJsJ, gPzN, gPsI, gPsJ, gPsP, gIzG, gJzG, gPzG, hb k]
        · show ∀ k ∈ ([0, 1, 2, 3, 4, 5, 6, 7, 8, 9, 10, 11] : List Nat), _
          refine List.forall_mem_cons.mpr ⟨?_, ?_⟩
          · show _ = some 16
            rw [gPpuF _ _ _ _ _ (by omega), gPpuF _ _ _ _ _ (by omega)]; unfold mA_1; simp [gIzN, gIsP, gIsI, gIsJ, gJzN, gJsP, gJsI, gJsJ, gPzN, gPsI, gPsJ, gPsP, gIzG, gJzG, gPzG]
          refine List.forall_mem_cons.mpr ⟨?_, ?_⟩
          · show _ = some 17
            rw [gPpuF _ _ _ _ _ (by omega), gPpuF _ _ _ _ _ (by omega)]; unfold mA_1; simp [gIzN, gIsP, gIsI, gIsJ, gJzN, gJsP, gJsI, gJsJ, gPzN, gPsI, gPsJ, gPsP, gIzG, gJzG, gPzG]
          refine List.forall_mem_cons.mpr ⟨?_, ?_⟩
          · show _ = some 18
            rw [gPpuF _ _ _ _ _ (by omega), gPpuF _ _ _ _ _ (by omega)]; unfold mA_1; simp [gIzN, gIsP, gIsI, gIsJ, gJzN, gJsP, gJsI, gJsJ, gPzN, gPsI, gPsJ, gPsP, gIzG, gJzG, gPzG]
          refine List.forall_mem_cons.mpr ⟨?_, ?_⟩
          · show _ = some 19
            rw [gPpuF _ _ _ _ _ (by omega), gPpuF _ _ _ _ _ (by omega)]; unfold mA_1; simp [gIzN, gIsP, gIsI, gIsJ, gJzN, gJsP, gJsI, gJsJ, gPzN, gPsI, gPsJ, gPsP, gIzG, gJzG, gPzG]
          refine List.forall_mem_cons.mpr ⟨?_, ?_⟩
          · show _ = some 20
            rw [gPpuF _ _ _ _ _ (by omega), gPpuF _ _ _ _ _ (by omega)]; unfold mA_1; simp [gIzN, gIsP, gIsI, gIsJ, gJzN, gJsP, gJsI, gJsJ, gPzN, gPsI, gPsJ, gPsP, gIzG, gJzG, gPzG]
          refine List.forall_mem_cons.mpr ⟨?_, ?_⟩
          · show _ = some 21
            rw [gPpuF _ _ _ _ _ (by omega), gPpuF _ _ _ _ _ (by omega)]; unfold mA_1; simp [gIzN, gIsP, gIsI, gIsJ, gJzN, gJsP, gJsI, gJsJ, gPzN, gPsI, gPsJ, gPsP, gIzG, gJzG, gPzG]
          refine List.forall_mem_cons.mpr ⟨?_, ?_⟩
          · show _ = some 22
            rw [gPpuF _ _ _ _ _ (by omega), gPpuF _ _ _ _ _ (by omega)]; unfold mA_1; simp [gIzN, gIsP, gIsI, gIsJ, gJzN, gJsP, gJsI, gJsJ, gPzN, gPsI, gPsJ, gPsP, gIzG, gJzG, gPzG]
          refine List.forall_mem_cons.mpr ⟨?_, ?_⟩
          · show _ = some 23
            rw [gPpuF _ _ _ _ _ (by omega), gPpuF _ _ _ _ _ (by omega)]; unfold mA_1; simp [gIzN, gIsP, gIsI, gIsJ, gJzN, gJsP, gJsI, gJsJ, gPzN, gPsI, gPsJ, gPsP, gIzG, gJzG, gPzG]
          refine List.forall_mem_cons.mpr ⟨?_, ?_⟩
          · show _ = some 24
            rw [gPpuF _ _ _ _ _ (by omega), gPpuF _ _ _ _ _ (by omega)]; unfold mA_1; simp [gIzN, gIsP, gIsI, gIsJ, gJzN, gJsP, gJsI, gJsJ, gPzN, gPsI, gPsJ, gPsP, gIzG, gJzG, gPzG]
          refine List.forall_mem_cons.mpr ⟨?_, ?_⟩
          · show _ = some 25
            rw [gPpuF _ _ _ _ _ (by omega), gPpuF _ _ _ _ _ (by omega)]; unfold mA_1; simp [gIzN, gIsP, gIsI, gIsJ, gJzN, gJsP, gJsI, gJsJ, gPzN, gPsI, gPsJ, gPsP, gIzG, gJzG, gPzG]
          refine List.forall_mem_cons.mpr ⟨?_, ?_⟩
          · show _ = some 26
            rw [gPpuF _ _ _ _ _ (by omega), gPpuF _ _ _ _ _ (by omega)]; unfold mA_1; simp [gIzN, gIsP, gIsI, gIsJ, gJzN, gJsP, gJsI, gJsJ, gPzN, gPsI, gPsJ, gPsP, gIzG, gJzG, gPzG]
          refine List.forall_mem_cons.mpr ⟨?_, ?_⟩
          · show _ = some 27
            rw [gPpuF _ _ _ _ _ (by omega), gPpuF _ _ _ _ _ (by omega)]; unfold mA_1; simp [gIzN, gIsP, gIsI, gIsJ, gJzN, gJsP, gJsI, gJsJ, gPzN, gPsI, gPsJ, gPsP, gIzG, gJzG, gPzG]
          exact List.forall_mem_nil _
      · refine ⟨fun k => ?_, fun k => ?_, ?_⟩
        · rw [gIpuF, if_neg (by omega), gIpuF, if_neg (by omega)]
          show _ = (bif Nat.blt k 5 then (100 : Int32) else 0)
          rcases k with _ | _ | _ | _ | _ | k
          · unfold mA_1; simp [gIzN, gIsP, gIsI, gIsJ, gJzN, gJsP, gJsI, gJsJ, gPzN, gPsI, gPsJ, gPsP, gIzG, gJzG, gPzG]; try rfl
          · unfold mA_1; simp [gIzN, gIsP, gIsI, gIsJ, gJzN, gJsP, gJsI, gJsJ, gPzN, gPsI, gPsJ, gPsP, gIzG, gJzG, gPzG]; try rfl
          · unfold mA_1; simp [gIzN, gIsP, gIsI, gIsJ, gJzN, gJsP, gJsI, gJsJ, gPzN, gPsI, gPsJ, gPsP, gIzG, gJzG, gPzG]; try rfl
          · unfold mA_1; simp [gIzN, gIsP, gIsI, gIsJ, gJzN, gJsP, gJsI, gJsJ, gPzN, gPsI, gPsJ, gPsP, gIzG, gJzG, gPzG]; try rfl
          · unfold mA_1; simp [gIzN, gIsP, gIsI, gIsJ, gJzN, gJsP, gJsI, gJsJ, gPzN, gPsI, gPsJ, gPsP, gIzG, gJzG, gPzG]; try rfl
          · rw [show Nat.blt (k + 1 + 1 + 1 + 1 + 1) 5 = false from Bool.eq_false_iff.mpr (fun q => by have := Nat.le_of_ble_eq_true q; omega)]; unfold mA_1; simp [gIzN, gIsP, gIsI, gIsJ, gJzN, gJsP, gJsI, gJsJ, gPzN, gPsI, gPsJ, gPsP, gIzG, gJzG, gPzG]
        · rw [gJpuF, if_neg (by omega), gJpuF, if_neg (by omega)]; unfold mA_1; simp [gIzN, gIsP, gIsI, gIsJ, gJzN, gJsP, gJsI, gJsJ, gPzN, gPsI, gPsJ, gPsP, gIzG, gJzG, gPzG, hb k]
        · show ∀ k ∈ ([] : List Nat), _
          exact List.forall_mem_nil _
      · refine ⟨fun k => ?_, fun k => ?_, ?_⟩
        · rw [gIpuF, if_neg (by omega), gIpuF, if_neg (by omega)]
          show _ = (0 : Int32)
          unfold mA_1; simp [gIzN, gIsP, gIsI, gIsJ, gJzN, gJsP, gJsI, gJsJ, gPzN, gPsI, gPsJ, gPsP, gIzG, gJzG, gPzG]
        · rw [gJpuF, if_neg (by omega), gJpuF, if_neg (by omega)]; unfold mA_1; simp [gIzN, gIsP, gIsI, gIsJ, gJzN, gJsP, gJsI, gJsJ, gPzN, gPsI, gPsJ, gPsP, gIzG, gJzG, gPzG, hb k]
        · show ∀ k ∈ ([] : List Nat), _
          exact List.forall_mem_nil _
set_option maxRecDepth 8000 in
set_option maxHeartbeats 2000000 in
theorem k_X1_1 {κ : xKK} {M : xM} (hb : bl M 1) : xEz κ mX1_init (1, 26, 199) [.ref 1] M 2 (cnP M 1 28) := by
  refine xEz_of ci_X1_init cl_X1_init cw_X1_init rfl (L := [some (.ref 1), none]) rfl ?_
  refine xGh_run 1 rfl (by repeat' (first | exact trivial | assumption | exact xob_b rfl | exact xal_b rfl | exact xar_b rfl _ rfl (by decide) (by decide) | (apply And.intro) | decide)) ?_
  try dsimp only [xsto1, xsto2, xkill, xget, xset, gd_0, gd_s]
  refine xGh_obj rfl gwo_1 rfl ?_
  refine xGh_run 2 rfl (by repeat' (first | exact trivial | assumption | exact xob_b rfl | exact xal_b rfl | exact xar_b rfl _ rfl (by decide) (by decide) | (apply And.intro) | decide)) ?_
  try dsimp only [xsto1, xsto2, xkill, xget, xset, gd_0, gd_s]
  refine xGh_aa' (n' := 3) (k1' := 1) (k2' := 10) (C := "MastWind$Piece") rfl rfl rfl rfl rfl (Or.inl ⟨rfl, rfl⟩) gwc_1_9 (fun _ h => h.1) (by decide) rfl (by decide) (by decide) (by decide) ?_
  refine xGh_run 3 rfl (by repeat' (first | exact trivial | assumption | exact xob_b rfl | exact xal_b rfl | exact xar_b rfl _ rfl (by decide) (by decide) | (apply And.intro) | decide)) ?_
  try dsimp only [xsto1, xsto2, xkill, xget, xset, gd_0, gd_s]
  refine xGh_aa' (n' := 4) (k1' := 2) (k2' := 22) (C := "MastWind$Rope") rfl rfl rfl rfl rfl (Or.inr (Or.inl ⟨rfl, rfl⟩)) gwc_1_17 (fun _ h => h.2.1) (by decide) rfl (by decide) (by decide) (by decide) ?_
  refine xGh_run 6 rfl (by repeat' (first | exact trivial | assumption | exact xob_b rfl | exact xal_b rfl | exact xar_b rfl _ rfl (by decide) (by decide) | (apply And.intro) | decide)) ?_
  try dsimp only [xsto1, xsto2, xkill, xget, xset, gd_0, gd_s]
  refine xGh_na (n' := 5) (k1' := 3) (k2' := 27) rfl rfl rfl rfl rfl rfl (Or.inl ⟨rfl, rfl⟩) (by decide) rfl (by decide) (by decide) (by decide) ?_
  refine xGh_run 23 rfl (by repeat' (first | exact trivial | assumption | exact xob_b rfl | exact xal_b rfl | exact xar_b rfl _ rfl (by decide) (by decide) | (apply And.intro) | decide)) ?_
  try dsimp only [xsto1, xsto2, xkill, xget, xset, gd_0, gd_s]
  refine xGh_na (n' := 6) (k1' := 4) (k2' := 35) rfl rfl rfl rfl rfl rfl (Or.inl ⟨rfl, rfl⟩) (by decide) rfl (by decide) (by decide) (by decide) ?_
  refine xGh_run 7 rfl (by repeat' (first | exact trivial | assumption | exact xob_b rfl | exact xal_b rfl | exact xar_b rfl _ rfl (by decide) (by decide) | (apply And.intro) | decide)) ?_
  try dsimp only [xsto1, xsto2, xkill, xget, xset, gd_0, gd_s]
  refine xGh_brF rfl (by decide) ?_
  refine xGh_run 3 rfl (by repeat' (first | exact trivial | assumption | exact xob_b rfl | exact xal_b rfl | exact xar_b rfl _ rfl (by decide) (by decide) | (apply And.intro) | decide)) ?_
  try dsimp only [xsto1, xsto2, xkill, xget, xset, gd_0, gd_s]
  refine xGh_new (n' := 7) (k1' := 5) (k2' := 43) (cid := 3) rfl rfl rfl rfl rfl gwc_1_9 gwn_3 gwi_3 rfl (by decide) (by decide) ?_
  refine xGh_run 1 rfl (by repeat' (first | exact trivial | assumption | exact xob_b rfl | exact xal_b rfl | exact xar_b rfl _ rfl (by decide) (by decide) | (apply And.intro) | decide)) ?_
  try dsimp only [xsto1, xsto2, xkill, xget, xset, gd_0, gd_s]
  refine xGh_initN (my := mX3_init) (r' := (0, 0, 0)) rfl rfl rfl rfl rfl cw_X3_init (by decide +kernel) rfl k_X3 (fun _ h => h) ⟨by decide, by decide, by decide⟩ (fun v M' n' h => h.2.2) ?_
  rintro v M' n' ⟨rfl, rfl, rfl⟩
  dsimp only [Option.toList, List.nil_append, Nat.add_zero]
  refine xGh_run 3 rfl (by repeat' (first | exact trivial | assumption | exact xob_b rfl | exact xal_b rfl | exact xar_b rfl _ rfl (by decide) (by decide) | (apply And.intro) | decide)) ?_
  try dsimp only [xsto1, xsto2, xkill, xget, xset, gd_0, gd_s]
  change xGh κ xAO _ _ (69, [some (.ref 1), some (.int 1)], [], puF (mA_1 M) 2 6 1, 7, true, 5, 43) _
  refine xGh_run 4 rfl (by repeat' (first | exact trivial | assumption | exact xob_b rfl | exact xal_b rfl | exact xar_b rfl _ rfl (by decide) (by decide) | (apply And.intro) | decide)) ?_
  try dsimp only [xsto1, xsto2, xkill, xget, xset, gd_0, gd_s]
  refine xGh_brF rfl (by decide) ?_
  refine xGh_run 3 rfl (by repeat' (first | exact trivial | assumption | exact xob_b rfl | exact xal_b rfl | exact xar_b rfl _ rfl (by decide) (by decide) | (apply And.intro) | decide)) ?_
  try dsimp only [xsto1, xsto2, xkill, xget, xset, gd_0, gd_s]
  refine xGh_new (n' := 8) (k1' := 6) (k2' := 51) (cid := 3) rfl rfl rfl rfl rfl gwc_1_9 gwn_3 gwi_3 rfl (by decide) (by decide) ?_
  refine xGh_run 1 rfl (by repeat' (first | exact trivial | assumption | exact xob_b rfl | exact xal_b rfl | exact xar_b rfl _ rfl (by decide) (by decide) | (apply And.intro) | decide)) ?_
  try dsimp only [xsto1, xsto2, xkill, xget, xset, gd_0, gd_s]
  refine xGh_initN (my := mX3_init) (r' := (0, 0, 0)) rfl rfl rfl rfl rfl cw_X3_init (by decide +kernel) rfl k_X3 (fun _ h => h) ⟨by decide, by decide, by decide⟩ (fun v M' n' h => h.2.2) ?_
  rintro v M' n' ⟨rfl, rfl, rfl⟩
  dsimp only [Option.toList, List.nil_append, Nat.add_zero]
  refine xGh_run 3 rfl (by repeat' (first | exact trivial | assumption | exact xob_b rfl | exact xal_b rfl | exact xar_b rfl _ rfl (by decide) (by decide) | (apply And.intro) | decide)) ?_
  try dsimp only [xsto1, xsto2, xkill, xget, xset, gd_0, gd_s]
  change xGh κ xAO _ _ (69, [some (.ref 1), some (.int 2)], [], puF (mA_1 M) 2 6 2, 8, true, 6, 51) _
  refine xGh_run 4 rfl (by repeat' (first | exact trivial | assumption | exact xob_b rfl | exact xal_b rfl | exact xar_b rfl _ rfl (by decide) (by decide) | (apply And.intro) | decide)) ?_
  try dsimp only [xsto1, xsto2, xkill, xget, xset, gd_0, gd_s]
  refine xGh_brF rfl (by decide) ?_
  refine xGh_run 3 rfl (by repeat' (first | exact trivial | assumption | exact xob_b rfl | exact xal_b rfl | exact xar_b rfl _ rfl (by decide) (by decide) | (apply And.intro) | decide)) ?_
  try dsimp only [xsto1, xsto2, xkill, xget, xset, gd_0, gd_s]
  refine xGh_new (n' := 9) (k1' := 7) (k2' := 59) (cid := 3) rfl rfl rfl rfl rfl gwc_1_9 gwn_3 gwi_3 rfl (by decide) (by decide) ?_
  refine xGh_run 1 rfl (by repeat' (first | exact trivial | assumption | exact xob_b rfl | exact xal_b rfl | exact xar_b rfl _ rfl (by decide) (by decide) | (apply And.intro) | decide)) ?_
  try dsimp only [xsto1, xsto2, xkill, xget, xset, gd_0, gd_s]
  refine xGh_initN (my := mX3_init) (r' := (0, 0, 0)) rfl rfl rfl rfl rfl cw_X3_init (by decide +kernel) rfl k_X3 (fun _ h => h) ⟨by decide, by decide, by decide⟩ (fun v M' n' h => h.2.2) ?_
  rintro v M' n' ⟨rfl, rfl, rfl⟩
  dsimp only [Option.toList, List.nil_append, Nat.add_zero]
  refine xGh_run 3 rfl (by repeat' (first | exact trivial | assumption | exact xob_b rfl | exact xal_b rfl | exact xar_b rfl _ rfl (by decide) (by decide) | (apply And.intro) | decide)) ?_
  try dsimp only [xsto1, xsto2, xkill, xget, xset, gd_0, gd_s]
  change xGh κ xAO _ _ (69, [some (.ref 1), some (.int 3)], [], puF (mA_1 M) 2 6 3, 9, true, 7, 59) _
  refine xGh_run 4 rfl (by repeat' (first | exact trivial | assumption | exact xob_b rfl | exact xal_b rfl | exact xar_b rfl _ rfl (by decide) (by decide) | (apply And.intro) | decide)) ?_
  try dsimp only [xsto1, xsto2, xkill, xget, xset, gd_0, gd_s]
  refine xGh_brF rfl (by decide) ?_
  refine xGh_run 3 rfl (by repeat' (first | exact trivial | assumption | exact xob_b rfl | exact xal_b rfl | exact xar_b rfl _ rfl (by decide) (by decide) | (apply And.intro) | decide)) ?_
  try dsimp only [xsto1, xsto2, xkill, xget, xset, gd_0, gd_s]
  refine xGh_new (n' := 10) (k1' := 8) (k2' := 67) (cid := 3) rfl rfl rfl rfl rfl gwc_1_9 gwn_3 gwi_3 rfl (by decide) (by decide) ?_
  refine xGh_run 1 rfl (by repeat' (first | exact trivial | assumption | exact xob_b rfl | exact xal_b rfl | exact xar_b rfl _ rfl (by decide) (by decide) | (apply And.intro) | decide)) ?_
  try dsimp only [xsto1, xsto2, xkill, xget, xset, gd_0, gd_s]
  refine xGh_initN (my := mX3_init) (r' := (0, 0, 0)) rfl rfl rfl rfl rfl cw_X3_init (by decide +kernel) rfl k_X3 (fun _ h => h) ⟨by decide, by decide, by decide⟩ (fun v M' n' h => h.2.2) ?_
  rintro v M' n' ⟨rfl, rfl, rfl⟩
  dsimp only [Option.toList, List.nil_append, Nat.add_zero]
  refine xGh_run 3 rfl (by repeat' (first | exact trivial | assumption | exact xob_b rfl | exact xal_b rfl | exact xar_b rfl _ rfl (by decide) (by decide) | (apply And.intro) | decide)) ?_
  try dsimp only [xsto1, xsto2, xkill, xget, xset, gd_0, gd_s]
  change xGh κ xAO _ _ (69, [some (.ref 1), some (.int 4)], [], puF (mA_1 M) 2 6 4, 10, true, 8, 67) _
  refine xGh_run 4 rfl (by repeat' (first | exact trivial | assumption | exact xob_b rfl | exact xal_b rfl | exact xar_b rfl _ rfl (by decide) (by decide) | (apply And.intro) | decide)) ?_
  try dsimp only [xsto1, xsto2, xkill, xget, xset, gd_0, gd_s]
  refine xGh_brF rfl (by decide) ?_
  refine xGh_run 3 rfl (by repeat' (first | exact trivial | assumption | exact xob_b rfl | exact xal_b rfl | exact xar_b rfl _ rfl (by decide) (by decide) | (apply And.intro) | decide)) ?_
  try dsimp only [xsto1, xsto2, xkill, xget, xset, gd_0, gd_s]
  refine xGh_new (n' := 11) (k1' := 9) (k2' := 75) (cid := 3) rfl rfl rfl rfl rfl gwc_1_9 gwn_3 gwi_3 rfl (by decide) (by decide) ?_
  refine xGh_run 1 rfl (by repeat' (first | exact trivial | assumption | exact xob_b rfl | exact xal_b rfl | exact xar_b rfl _ rfl (by decide) (by decide) | (apply And.intro) | decide)) ?_
  try dsimp only [xsto1, xsto2, xkill, xget, xset, gd_0, gd_s]
  refine xGh_initN (my := mX3_init) (r' := (0, 0, 0)) rfl rfl rfl rfl rfl cw_X3_init (by decide +kernel) rfl k_X3 (fun _ h => h) ⟨by decide, by decide, by decide⟩ (fun v M' n' h => h.2.2) ?_
  rintro v M' n' ⟨rfl, rfl, rfl⟩
  dsimp only [Option.toList, List.nil_append, Nat.add_zero]
  refine xGh_run 3 rfl (by repeat' (first | exact trivial | assumption | exact xob_b rfl | exact xal_b rfl | exact xar_b rfl _ rfl (by decide) (by decide) | (apply And.intro) | decide)) ?_
  try dsimp only [xsto1, xsto2, xkill, xget, xset, gd_0, gd_s]
  change xGh κ xAO _ _ (69, [some (.ref 1), some (.int 5)], [], puF (mA_1 M) 2 6 5, 11, true, 9, 75) _
  refine xGh_run 4 rfl (by repeat' (first | exact trivial | assumption | exact xob_b rfl | exact xal_b rfl | exact xar_b rfl _ rfl (by decide) (by decide) | (apply And.intro) | decide)) ?_
  try dsimp only [xsto1, xsto2, xkill, xget, xset, gd_0, gd_s]
  refine xGh_brF rfl (by decide) ?_
  refine xGh_run 3 rfl (by repeat' (first | exact trivial | assumption | exact xob_b rfl | exact xal_b rfl | exact xar_b rfl _ rfl (by decide) (by decide) | (apply And.intro) | decide)) ?_
  try dsimp only [xsto1, xsto2, xkill, xget, xset, gd_0, gd_s]
  refine xGh_new (n' := 12) (k1' := 10) (k2' := 83) (cid := 3) rfl rfl rfl rfl rfl gwc_1_9 gwn_3 gwi_3 rfl (by decide) (by decide) ?_
  refine xGh_run 1 rfl (by repeat' (first | exact trivial | assumption | exact xob_b rfl | exact xal_b rfl | exact xar_b rfl _ rfl (by decide) (by decide) | (apply And.intro) | decide)) ?_
  try dsimp only [xsto1, xsto2, xkill, xget, xset, gd_0, gd_s]
  refine xGh_initN (my := mX3_init) (r' := (0, 0, 0)) rfl rfl rfl rfl rfl cw_X3_init (by decide +kernel) rfl k_X3 (fun _ h => h) ⟨by decide, by decide, by decide⟩ (fun v M' n' h => h.2.2) ?_
  rintro v M' n' ⟨rfl, rfl, rfl⟩
  dsimp only [Option.toList, List.nil_append, Nat.add_zero]
  refine xGh_run 3 rfl (by repeat' (first | exact trivial | assumption | exact xob_b rfl | exact xal_b rfl | exact xar_b rfl _ rfl (by decide) (by decide) | (apply And.intro) | decide)) ?_
  try dsimp only [xsto1, xsto2, xkill, xget, xset, gd_0, gd_s]
  change xGh κ xAO _ _ (69, [some (.ref 1), some (.int 6)], [], puF (mA_1 M) 2 6 6, 12, true, 10, 83) _
  refine xGh_run 4 rfl (by repeat' (first | exact trivial | assumption | exact xob_b rfl | exact xal_b rfl | exact xar_b rfl _ rfl (by decide) (by decide) | (apply And.intro) | decide)) ?_
  try dsimp only [xsto1, xsto2, xkill, xget, xset, gd_0, gd_s]
  refine xGh_brF rfl (by decide) ?_
  refine xGh_run 3 rfl (by repeat' (first | exact trivial | assumption | exact xob_b rfl | exact xal_b rfl | exact xar_b rfl _ rfl (by decide) (by decide) | (apply And.intro) | decide)) ?_
  try dsimp only [xsto1, xsto2, xkill, xget, xset, gd_0, gd_s]
  refine xGh_new (n' := 13) (k1' := 11) (k2' := 91) (cid := 3) rfl rfl rfl rfl rfl gwc_1_9 gwn_3 gwi_3 rfl (by decide) (by decide) ?_
  refine xGh_run 1 rfl (by repeat' (first | exact trivial | assumption | exact xob_b rfl | exact xal_b rfl | exact xar_b rfl _ rfl (by decide) (by decide) | (apply And.intro) | decide)) ?_
  try dsimp only [xsto1, xsto2, xkill, xget, xset, gd_0, gd_s]
  refine xGh_initN (my := mX3_init) (r' := (0, 0, 0)) rfl rfl rfl rfl rfl cw_X3_init (by decide +kernel) rfl k_X3 (fun _ h => h) ⟨by decide, by decide, by decide⟩ (fun v M' n' h => h.2.2) ?_
  rintro v M' n' ⟨rfl, rfl, rfl⟩
  dsimp only [Option.toList, List.nil_append, Nat.add_zero]
  refine xGh_run 3 rfl (by repeat' (first | exact trivial | assumption | exact xob_b rfl | exact xal_b rfl | exact xar_b rfl _ rfl (by decide) (by decide) | (apply And.intro) | decide)) ?_
  try dsimp only [xsto1, xsto2, xkill, xget, xset, gd_0, gd_s]
  change xGh κ xAO _ _ (69, [some (.ref 1), some (.int 7)], [], puF (mA_1 M) 2 6 7, 13, true, 11, 91) _
  refine xGh_run 4 rfl (by repeat' (first | exact trivial | assumption | exact xob_b rfl | exact xal_b rfl | exact xar_b rfl _ rfl (by decide) (by decide) | (apply And.intro) | decide)) ?_
  try dsimp only [xsto1, xsto2, xkill, xget, xset, gd_0, gd_s]
  refine xGh_brF rfl (by decide) ?_
  refine xGh_run 3 rfl (by repeat' (first | exact trivial | assumption | exact xob_b rfl | exact xal_b rfl | exact xar_b rfl _ rfl (by decide) (by decide) | (apply And.intro) | decide)) ?_
  try dsimp only [xsto1, xsto2, xkill, xget, xset, gd_0, gd_s]
  refine xGh_new (n' := 14) (k1' := 12) (k2' := 99) (cid := 3) rfl rfl rfl rfl rfl gwc_1_9 gwn_3 gwi_3 rfl (by decide) (by decide) ?_
  refine xGh_run 1 rfl (by repeat' (first | exact trivial | assumption | exact xob_b rfl | exact xal_b rfl | exact xar_b rfl _ rfl (by decide) (by decide) | (apply And.intro) | decide)) ?_
  try dsimp only [xsto1, xsto2, xkill, xget, xset, gd_0, gd_s]
  refine xGh_initN (my := mX3_init) (r' := (0, 0, 0)) rfl rfl rfl rfl rfl cw_X3_init (by decide +kernel) rfl k_X3 (fun _ h => h) ⟨by decide, by decide, by decide⟩ (fun v M' n' h => h.2.2) ?_
  rintro v M' n' ⟨rfl, rfl, rfl⟩
  dsimp only [Option.toList, List.nil_append, Nat.add_zero]
  refine xGh_run 3 rfl (by repeat' (first | exact trivial | assumption | exact xob_b rfl | exact xal_b rfl | exact xar_b rfl _ rfl (by decide) (by decide) | (apply And.intro) | decide)) ?_
  try dsimp only [xsto1, xsto2, xkill, xget, xset, gd_0, gd_s]
  change xGh κ xAO _ _ (69, [some (.ref 1), some (.int 8)], [], puF (mA_1 M) 2 6 8, 14, true, 12, 99) _
  refine xGh_run 4 rfl (by repeat' (first | exact trivial | assumption | exact xob_b rfl | exact xal_b rfl | exact xar_b rfl _ rfl (by decide) (by decide) | (apply And.intro) | decide)) ?_
  try dsimp only [xsto1, xsto2, xkill, xget, xset, gd_0, gd_s]
  refine xGh_brF rfl (by decide) ?_
  refine xGh_run 3 rfl (by repeat' (first | exact trivial | assumption | exact xob_b rfl | exact xal_b rfl | exact xar_b rfl _ rfl (by decide) (by decide) | (apply And.intro) | decide)) ?_
  try dsimp only [xsto1, xsto2, xkill, xget, xset, gd_0, gd_s]
  refine xGh_new (n' := 15) (k1' := 13) (k2' := 107) (cid := 3) rfl rfl rfl rfl rfl gwc_1_9 gwn_3 gwi_3 rfl (by decide) (by decide) ?_
  refine xGh_run 1 rfl (by repeat' (first | exact trivial | assumption | exact xob_b rfl | exact xal_b rfl | exact xar_b rfl _ rfl (by decide) (by decide) | (apply And.intro) | decide)) ?_
  try dsimp only [xsto1, xsto2, xkill, xget, xset, gd_0, gd_s]
  refine xGh_initN (my := mX3_init) (r' := (0, 0, 0)) rfl rfl rfl rfl rfl cw_X3_init (by decide +kernel) rfl k_X3 (fun _ h => h) ⟨by decide, by decide, by decide⟩ (fun v M' n' h => h.2.2) ?_
  rintro v M' n' ⟨rfl, rfl, rfl⟩
  dsimp only [Option.toList, List.nil_append, Nat.add_zero]
  refine xGh_run 3 rfl (by repeat' (first | exact trivial | assumption | exact xob_b rfl | exact xal_b rfl | exact xar_b rfl _ rfl (by decide) (by decide) | (apply And.intro) | decide)) ?_
  try dsimp only [xsto1, xsto2, xkill, xget, xset, gd_0, gd_s]
  change xGh κ xAO _ _ (69, [some (.ref 1), some (.int 9)], [], puF (mA_1 M) 2 6 9, 15, true, 13, 107) _
  refine xGh_run 4 rfl (by repeat' (first | exact trivial | assumption | exact xob_b rfl | exact xal_b rfl | exact xar_b rfl _ rfl (by decide) (by decide) | (apply And.intro) | decide)) ?_
  try dsimp only [xsto1, xsto2, xkill, xget, xset, gd_0, gd_s]
  refine xGh_brF rfl (by decide) ?_
  refine xGh_run 3 rfl (by repeat' (first | exact trivial | assumption | exact xob_b rfl | exact xal_b rfl | exact xar_b rfl _ rfl (by decide) (by decide) | (apply And.intro) | decide)) ?_
  try dsimp only [xsto1, xsto2, xkill, xget, xset, gd_0, gd_s]
  refine xGh_new (n' := 16) (k1' := 14) (k2' := 115) (cid := 3) rfl rfl rfl rfl rfl gwc_1_9 gwn_3 gwi_3 rfl (by decide) (by decide) ?_
  refine xGh_run 1 rfl (by repeat' (first | exact trivial | assumption | exact xob_b rfl | exact xal_b rfl | exact xar_b rfl _ rfl (by decide) (by decide) | (apply And.intro) | decide)) ?_
  try dsimp only [xsto1, xsto2, xkill, xget, xset, gd_0, gd_s]
  refine xGh_initN (my := mX3_init) (r' := (0, 0, 0)) rfl rfl rfl rfl rfl cw_X3_init (by decide +kernel) rfl k_X3 (fun _ h => h) ⟨by decide, by decide, by decide⟩ (fun v M' n' h => h.2.2) ?_
  rintro v M' n' ⟨rfl, rfl, rfl⟩
  dsimp only [Option.toList, List.nil_append, Nat.add_zero]
  refine xGh_run 3 rfl (by repeat' (first | exact trivial | assumption | exact xob_b rfl | exact xal_b rfl | exact xar_b rfl _ rfl (by decide) (by decide) | (apply And.intro) | decide)) ?_
  try dsimp only [xsto1, xsto2, xkill, xget, xset, gd_0, gd_s]
  change xGh κ xAO _ _ (69, [some (.ref 1), some (.int 10)], [], puF (mA_1 M) 2 6 10, 16, true, 14, 115) _
  refine xGh_run 4 rfl (by repeat' (first | exact trivial | assumption | exact xob_b rfl | exact xal_b rfl | exact xar_b rfl _ rfl (by decide) (by decide) | (apply And.intro) | decide)) ?_
  try dsimp only [xsto1, xsto2, xkill, xget, xset, gd_0, gd_s]
  refine xGh_brT rfl (by decide) ?_
  refine xGh_run 6 rfl (by repeat' (first | exact trivial | assumption | exact xob_b rfl | exact xal_b rfl | exact xar_b rfl _ rfl (by decide) (by decide) | (apply And.intro) | decide)) ?_
  try dsimp only [xsto1, xsto2, xkill, xget, xset, gd_0, gd_s]
  refine xGh_brF rfl (by decide) ?_
  refine xGh_run 3 rfl (by repeat' (first | exact trivial | assumption | exact xob_b rfl | exact xal_b rfl | exact xar_b rfl _ rfl (by decide) (by decide) | (apply And.intro) | decide)) ?_
  try dsimp only [xsto1, xsto2, xkill, xget, xset, gd_0, gd_s]
  refine xGh_new (n' := 17) (k1' := 15) (k2' := 122) (cid := 5) rfl rfl rfl rfl rfl gwc_1_17 gwn_5 gwi_5 rfl (by decide) (by decide) ?_
  refine xGh_run 1 rfl (by repeat' (first | exact trivial | assumption | exact xob_b rfl | exact xal_b rfl | exact xar_b rfl _ rfl (by decide) (by decide) | (apply And.intro) | decide)) ?_
  try dsimp only [xsto1, xsto2, xkill, xget, xset, gd_0, gd_s]
  refine xGh_initN (my := mX5_init) (r' := (0, 0, 0)) rfl rfl rfl rfl rfl cw_X5_init (by decide +kernel) rfl k_X5 (fun _ h => h) ⟨by decide, by decide, by decide⟩ (fun v M' n' h => h.2.2) ?_
  rintro v M' n' ⟨rfl, rfl, rfl⟩
  dsimp only [Option.toList, List.nil_append, Nat.add_zero]
  refine xGh_run 3 rfl (by repeat' (first | exact trivial | assumption | exact xob_b rfl | exact xal_b rfl | exact xar_b rfl _ rfl (by decide) (by decide) | (apply And.intro) | decide)) ?_
  try dsimp only [xsto1, xsto2, xkill, xget, xset, gd_0, gd_s]
  change xGh κ xAO _ _ (99, [some (.ref 1), some (.int 1)], [], puF (puF (mA_1 M) 2 6 10) 3 16 1, 17, true, 15, 122) _
  refine xGh_run 4 rfl (by repeat' (first | exact trivial | assumption | exact xob_b rfl | exact xal_b rfl | exact xar_b rfl _ rfl (by decide) (by decide) | (apply And.intro) | decide)) ?_
  try dsimp only [xsto1, xsto2, xkill, xget, xset, gd_0, gd_s]
  refine xGh_brF rfl (by decide) ?_
  refine xGh_run 3 rfl (by repeat' (first | exact trivial | assumption | exact xob_b rfl | exact xal_b rfl | exact xar_b rfl _ rfl (by decide) (by decide) | (apply And.intro) | decide)) ?_
  try dsimp only [xsto1, xsto2, xkill, xget, xset, gd_0, gd_s]
  refine xGh_new (n' := 18) (k1' := 16) (k2' := 129) (cid := 5) rfl rfl rfl rfl rfl gwc_1_17 gwn_5 gwi_5 rfl (by decide) (by decide) ?_
  refine xGh_run 1 rfl (by repeat' (first | exact trivial | assumption | exact xob_b rfl | exact xal_b rfl | exact xar_b rfl _ rfl (by decide) (by decide) | (apply And.intro) | decide)) ?_
  try dsimp only [xsto1, xsto2, xkill, xget, xset, gd_0, gd_s]
  refine xGh_initN (my := mX5_init) (r' := (0, 0, 0)) rfl rfl rfl rfl rfl cw_X5_init (by decide +kernel) rfl k_X5 (fun _ h => h) ⟨by decide, by decide, by decide⟩ (fun v M' n' h => h.2.2) ?_
  rintro v M' n' ⟨rfl, rfl, rfl⟩
  dsimp only [Option.toList, List.nil_append, Nat.add_zero]
  refine xGh_run 3 rfl (by repeat' (first | exact trivial | assumption | exact xob_b rfl | exact xal_b rfl | exact xar_b rfl _ rfl (by decide) (by decide) | (apply And.intro) | decide)) ?_
  try dsimp only [xsto1, xsto2, xkill, xget, xset, gd_0, gd_s]
  change xGh κ xAO _ _ (99, [some (.ref 1), some (.int 2)], [], puF (puF (mA_1 M) 2 6 10) 3 16 2, 18, true, 16, 129) _
  refine xGh_run 4 rfl (by repeat' (first | exact trivial | assumption | exact xob_b rfl | exact xal_b rfl | exact xar_b rfl _ rfl (by decide) (by decide) | (apply And.intro) | decide)) ?_
  try dsimp only [xsto1, xsto2, xkill, xget, xset, gd_0, gd_s]
  refine xGh_brF rfl (by decide) ?_
  refine xGh_run 3 rfl (by repeat' (first | exact trivial | assumption | exact xob_b rfl | exact xal_b rfl | exact xar_b rfl _ rfl (by decide) (by decide) | (apply And.intro) | decide)) ?_
  try dsimp only [xsto1, xsto2, xkill, xget, xset, gd_0, gd_s]
  refine xGh_new (n' := 19) (k1' := 17) (k2' := 136) (cid := 5) rfl rfl rfl rfl rfl gwc_1_17 gwn_5 gwi_5 rfl (by decide) (by decide) ?_
  refine xGh_run 1 rfl (by repeat' (first | exact trivial | assumption | exact xob_b rfl | exact xal_b rfl | exact xar_b rfl _ rfl (by decide) (by decide) | (apply And.intro) | decide)) ?_
  try dsimp only [xsto1, xsto2, xkill, xget, xset, gd_0, gd_s]
  refine xGh_initN (my := mX5_init) (r' := (0, 0, 0)) rfl rfl rfl rfl rfl cw_X5_init (by decide +kernel) rfl k_X5 (fun _ h => h) ⟨by decide, by decide, by decide⟩ (fun v M' n' h => h.2.2) ?_
  rintro v M' n' ⟨rfl, rfl, rfl⟩
  dsimp only [Option.toList, List.nil_append, Nat.add_zero]
  refine xGh_run 3 rfl (by repeat' (first | exact trivial | assumption | exact xob_b rfl | exact xal_b rfl | exact xar_b rfl _ rfl (by decide) (by decide) | (apply And.intro) | decide)) ?_
  try dsimp only [xsto1, xsto2, xkill, xget, xset, gd_0, gd_s]
  change xGh κ xAO _ _ (99, [some (.ref 1), some (.int 3)], [], puF (puF (mA_1 M) 2 6 10) 3 16 3, 19, true, 17, 136) _
  refine xGh_run 4 rfl (by repeat' (first | exact trivial | assumption | exact xob_b rfl | exact xal_b rfl | exact xar_b rfl _ rfl (by decide) (by decide) | (apply And.intro) | decide)) ?_
  try dsimp only [xsto1, xsto2, xkill, xget, xset, gd_0, gd_s]
  refine xGh_brF rfl (by decide) ?_
  refine xGh_run 3 rfl (by repeat' (first | exact trivial | assumption | exact xob_b rfl | exact xal_b rfl | exact xar_b rfl _ rfl (by decide) (by decide) | (apply And.intro) | decide)) ?_
  try dsimp only [xsto1, xsto2, xkill, xget, xset, gd_0, gd_s]
  refine xGh_new (n' := 20) (k1' := 18) (k2' := 143) (cid := 5) rfl rfl rfl rfl rfl gwc_1_17 gwn_5 gwi_5 rfl (by decide) (by decide) ?_
  refine xGh_run 1 rfl (by repeat' (first | exact trivial | assumption | exact xob_b rfl | exact xal_b rfl | exact xar_b rfl _ rfl (by decide) (by decide) | (apply And.intro) | decide)) ?_
  try dsimp only [xsto1, xsto2, xkill, xget, xset, gd_0, gd_s]
  refine xGh_initN (my := mX5_init) (r' := (0, 0, 0)) rfl rfl rfl rfl rfl cw_X5_init (by decide +kernel) rfl k_X5 (fun _ h => h) ⟨by decide, by decide, by decide⟩ (fun v M' n' h => h.2.2) ?_
  rintro v M' n' ⟨rfl, rfl, rfl⟩
  dsimp only [Option.toList, List.nil_append, Nat.add_zero]
  refine xGh_run 3 rfl (by repeat' (first | exact trivial | assumption | exact xob_b rfl | exact xal_b rfl | exact xar_b rfl _ rfl (by decide) (by decide) | (apply And.intro) | decide)) ?_
  try dsimp only [xsto1, xsto2, xkill, xget, xset, gd_0, gd_s]
  change xGh κ xAO _ _ (99, [some (.ref 1), some (.int 4)], [], puF (puF (mA_1 M) 2 6 10) 3 16 4, 20, true, 18, 143) _
  refine xGh_run 4 rfl (by repeat' (first | exact trivial | assumption | exact xob_b rfl | exact xal_b rfl | exact xar_b rfl _ rfl (by decide) (by decide) | (apply And.intro) | decide)) ?_
  try dsimp only [xsto1, xsto2, xkill, xget, xset, gd_0, gd_s]
  refine xGh_brF rfl (by decide) ?_
  refine xGh_run 3 rfl (by repeat' (first | exact trivial | assumption | exact xob_b rfl | exact xal_b rfl | exact xar_b rfl _ rfl (by decide) (by decide) | (apply And.intro) | decide)) ?_
  try dsimp only [xsto1, xsto2, xkill, xget, xset, gd_0, gd_s]
  refine xGh_new (n' := 21) (k1' := 19) (k2' := 150) (cid := 5) rfl rfl rfl rfl rfl gwc_1_17 gwn_5 gwi_5 rfl (by decide) (by decide) ?_
  refine xGh_run 1 rfl (by repeat' (first | exact trivial | assumption | exact xob_b rfl | exact xal_b rfl | exact xar_b rfl _ rfl (by decide) (by decide) | (apply And.intro) | decide)) ?_
  try dsimp only [xsto1, xsto2, xkill, xget, xset, gd_0, gd_s]
  refine xGh_initN (my := mX5_init) (r' := (0, 0, 0)) rfl rfl rfl rfl rfl cw_X5_init (by decide +kernel) rfl k_X5 (fun _ h => h) ⟨by decide, by decide, by decide⟩ (fun v M' n' h => h.2.2) ?_
  rintro v M' n' ⟨rfl, rfl, rfl⟩
  dsimp only [Option.toList, List.nil_append, Nat.add_zero]
  refine xGh_run 3 rfl (by repeat' (first | exact trivial | assumption | exact xob_b rfl | exact xal_b rfl | exact xar_b rfl _ rfl (by decide) (by decide) | (apply And.intro) | decide)) ?_
  try dsimp only [xsto1, xsto2, xkill, xget, xset, gd_0, gd_s]
  change xGh κ xAO _ _ (99, [some (.ref 1), some (.int 5)], [], puF (puF (mA_1 M) 2 6 10) 3 16 5, 21, true, 19, 150) _
  refine xGh_run 4 rfl (by repeat' (first | exact trivial | assumption | exact xob_b rfl | exact xal_b rfl | exact xar_b rfl _ rfl (by decide) (by decide) | (apply And.intro) | decide)) ?_
  try dsimp only [xsto1, xsto2, xkill, xget, xset, gd_0, gd_s]
  refine xGh_brF rfl (by decide) ?_
  refine xGh_run 3 rfl (by repeat' (first | exact trivial | assumption | exact xob_b rfl | exact xal_b rfl | exact xar_b rfl _ rfl (by decide) (by decide) | (apply And.intro) | decide)) ?_
  try dsimp only [xsto1, xsto2, xkill, xget, xset, gd_0, gd_s]
  refine xGh_new (n' := 22) (k1' := 20) (k2' := 157) (cid := 5) rfl rfl rfl rfl rfl gwc_1_17 gwn_5 gwi_5 rfl (by decide) (by decide) ?_
  refine xGh_run 1 rfl (by repeat' (first | exact trivial | assumption | exact xob_b rfl | exact xal_b rfl | exact xar_b rfl _ rfl (by decide) (by decide) | (apply And.intro) | decide)) ?_
  try dsimp only [xsto1, xsto2, xkill, xget, xset, gd_0, gd_s]
  refine xGh_initN (my := mX5_init) (r' := (0, 0, 0)) rfl rfl rfl rfl rfl cw_X5_init (by decide +kernel) rfl k_X5 (fun _ h => h) ⟨by decide, by decide, by decide⟩ (fun v M' n' h => h.2.2) ?_
  rintro v M' n' ⟨rfl, rfl, rfl⟩
  dsimp only [Option.toList, List.nil_append, Nat.add_zero]
  refine xGh_run 3 rfl (by repeat' (first | exact trivial | assumption | exact xob_b rfl | exact xal_b rfl | exact xar_b rfl _ rfl (by decide) (by decide) | (apply And.intro) | decide)) ?_
  try dsimp only [xsto1, xsto2, xkill, xget, xset, gd_0, gd_s]
  change xGh κ xAO _ _ (99, [some (.ref 1), some (.int 6)], [], puF (puF (mA_1 M) 2 6 10) 3 16 6, 22, true, 20, 157) _
  refine xGh_run 4 rfl (by repeat' (first | exact trivial | assumption | exact xob_b rfl | exact xal_b rfl | exact xar_b rfl _ rfl (by decide) (by decide) | (apply And.intro) | decide)) ?_
  try dsimp only [xsto1, xsto2, xkill, xget, xset, gd_0, gd_s]
  refine xGh_brF rfl (by decide) ?_
  refine xGh_run 3 rfl (by repeat' (first | exact trivial | assumption | exact xob_b rfl | exact xal_b rfl | exact xar_b rfl _ rfl (by decide) (by decide) | (apply And.intro) | decide)) ?_
  try dsimp only [xsto1, xsto2, xkill, xget, xset, gd_0, gd_s]
  refine xGh_new (n' := 23) (k1' := 21) (k2' := 164) (cid := 5) rfl rfl rfl rfl rfl gwc_1_17 gwn_5 gwi_5 rfl (by decide) (by decide) ?_
  refine xGh_run 1 rfl (by repeat' (first | exact trivial | assumption | exact xob_b rfl | exact xal_b rfl | exact xar_b rfl _ rfl (by decide) (by decide) | (apply And.intro) | decide)) ?_
  try dsimp only [xsto1, xsto2, xkill, xget, xset, gd_0, gd_s]
  refine xGh_initN (my := mX5_init) (r' := (0, 0, 0)) rfl rfl rfl rfl rfl cw_X5_init (by decide +kernel) rfl k_X5 (fun _ h => h) ⟨by decide, by decide, by decide⟩ (fun v M' n' h => h.2.2) ?_
  rintro v M' n' ⟨rfl, rfl, rfl⟩
  dsimp only [Option.toList, List.nil_append, Nat.add_zero]
  refine xGh_run 3 rfl (by repeat' (first | exact trivial | assumption | exact xob_b rfl | exact xal_b rfl | exact xar_b rfl _ rfl (by decide) (by decide) | (apply And.intro) | decide)) ?_
  try dsimp only [xsto1, xsto2, xkill, xget, xset, gd_0, gd_s]
  change xGh κ xAO _ _ (99, [some (.ref 1), some (.int 7)], [], puF (puF (mA_1 M) 2 6 10) 3 16 7, 23, true, 21, 164) _
  refine xGh_run 4 rfl (by repeat' (first | exact trivial | assumption | exact xob_b rfl | exact xal_b rfl | exact xar_b rfl _ rfl (by decide) (by decide) | (apply And.intro) | decide)) ?_
  try dsimp only [xsto1, xsto2, xkill, xget, xset, gd_0, gd_s]
  refine xGh_brF rfl (by decide) ?_
  refine xGh_run 3 rfl (by repeat' (first | exact trivial | assumption | exact xob_b rfl | exact xal_b rfl | exact xar_b rfl _ rfl (by decide) (by decide) | (apply And.intro) | decide)) ?_
  try dsimp only [xsto1, xsto2, xkill, xget, xset, gd_0, gd_s]
  refine xGh_new (n' := 24) (k1' := 22) (k2' := 171) (cid := 5) rfl rfl rfl rfl rfl gwc_1_17 gwn_5 gwi_5 rfl (by decide) (by decide) ?_
  refine xGh_run 1 rfl (by repeat' (first | exact trivial | assumption | exact xob_b rfl | exact xal_b rfl | exact xar_b rfl _ rfl (by decide) (by decide) | (apply And.intro) | decide)) ?_
  try dsimp only [xsto1, xsto2, xkill, xget, xset, gd_0, gd_s]
  refine xGh_initN (my := mX5_init) (r' := (0, 0, 0)) rfl rfl rfl rfl rfl cw_X5_init (by decide +kernel) rfl k_X5 (fun _ h => h) ⟨by decide, by decide, by decide⟩ (fun v M' n' h => h.2.2) ?_
  rintro v M' n' ⟨rfl, rfl, rfl⟩
  dsimp only [Option.toList, List.nil_append, Nat.add_zero]
  refine xGh_run 3 rfl (by repeat' (first | exact trivial | assumption | exact xob_b rfl | exact xal_b rfl | exact xar_b rfl _ rfl (by decide) (by decide) | (apply And.intro) | decide)) ?_
  try dsimp only [xsto1, xsto2, xkill, xget, xset, gd_0, gd_s]
  change xGh κ xAO _ _ (99, [some (.ref 1), some (.int 8)], [], puF (puF (mA_1 M) 2 6 10) 3 16 8, 24, true, 22, 171) _
  refine xGh_run 4 rfl (by repeat' (first | exact trivial | assumption | exact xob_b rfl | exact xal_b rfl | exact xar_b rfl _ rfl (by decide) (by decide) | (apply And.intro) | decide)) ?_
  try dsimp only [xsto1, xsto2, xkill, xget, xset, gd_0, gd_s]
  refine xGh_brF rfl (by decide) ?_
  refine xGh_run 3 rfl (by repeat' (first | exact trivial | assumption | exact xob_b rfl | exact xal_b rfl | exact xar_b rfl _ rfl (by decide) (by decide) | (apply And.intro) | decide)) ?_
  try dsimp only [xsto1, xsto2, xkill, xget, xset, gd_0, gd_s]
  refine xGh_new (n' := 25) (k1' := 23) (k2' := 178) (cid := 5) rfl rfl rfl rfl rfl gwc_1_17 gwn_5 gwi_5 rfl (by decide) (by decide) ?_
  refine xGh_run 1 rfl (by repeat' (first | exact trivial | assumption | exact xob_b rfl | exact xal_b rfl | exact xar_b rfl _ rfl (by decide) (by decide) | (apply And.intro) | decide)) ?_
  try dsimp only [xsto1, xsto2, xkill, xget, xset, gd_0, gd_s]
  refine xGh_initN (my := mX5_init) (r' := (0, 0, 0)) rfl rfl rfl rfl rfl cw_X5_init (by decide +kernel) rfl k_X5 (fun _ h => h) ⟨by decide, by decide, by decide⟩ (fun v M' n' h => h.2.2) ?_
  rintro v M' n' ⟨rfl, rfl, rfl⟩
  dsimp only [Option.toList, List.nil_append, Nat.add_zero]
  refine xGh_run 3 rfl (by repeat' (first | exact trivial | assumption | exact xob_b rfl | exact xal_b rfl | exact xar_b rfl _ rfl (by decide) (by decide) | (apply And.intro) | decide)) ?_
  try dsimp only [xsto1, xsto2, xkill, xget, xset, gd_0, gd_s]
  change xGh κ xAO _ _ (99, [some (.ref 1), some (.int 9)], [], puF (puF (mA_1 M) 2 6 10) 3 16 9, 25, true, 23, 178) _
  refine xGh_run 4 rfl (by repeat' (first | exact trivial | assumption | exact xob_b rfl | exact xal_b rfl | exact xar_b rfl _ rfl (by decide) (by decide) | (apply And.intro) | decide)) ?_
  try dsimp only [xsto1, xsto2, xkill, xget, xset, gd_0, gd_s]
  refine xGh_brF rfl (by decide) ?_
  refine xGh_run 3 rfl (by repeat' (first | exact trivial | assumption | exact xob_b rfl | exact xal_b rfl | exact xar_b rfl _ rfl (by decide) (by decide) | (apply And.intro) | decide)) ?_
  try dsimp only [xsto1, xsto2, xkill, xget, xset, gd_0, gd_s]
  refine xGh_new (n' := 26) (k1' := 24) (k2' := 185) (cid := 5) rfl rfl rfl rfl rfl gwc_1_17 gwn_5 gwi_5 rfl (by decide) (by decide) ?_
  refine xGh_run 1 rfl (by repeat' (first | exact trivial | assumption | exact xob_b rfl | exact xal_b rfl | exact xar_b rfl _ rfl (by decide) (by decide) | (apply And.intro) | decide)) ?_
  try dsimp only [xsto1, xsto2, xkill, xget, xset, gd_0, gd_s]
  refine xGh_initN (my := mX5_init) (r' := (0, 0, 0)) rfl rfl rfl rfl rfl cw_X5_init (by decide +kernel) rfl k_X5 (fun _ h => h) ⟨by decide, by decide, by decide⟩ (fun v M' n' h => h.2.2) ?_
  rintro v M' n' ⟨rfl, rfl, rfl⟩
  dsimp only [Option.toList, List.nil_append, Nat.add_zero]
  refine xGh_run 3 rfl (by repeat' (first | exact trivial | assumption | exact xob_b rfl | exact xal_b rfl | exact xar_b rfl _ rfl (by decide) (by decide) | (apply And.intro) | decide)) ?_
  try dsimp only [xsto1, xsto2, xkill, xget, xset, gd_0, gd_s]
  change xGh κ xAO _ _ (99, [some (.ref 1), some (.int 10)], [], puF (puF (mA_1 M) 2 6 10) 3 16 10, 26, true, 24, 185) _
  refine xGh_run 4 rfl (by repeat' (first | exact trivial | assumption | exact xob_b rfl | exact xal_b rfl | exact xar_b rfl _ rfl (by decide) (by decide) | (apply And.intro) | decide)) ?_
  try dsimp only [xsto1, xsto2, xkill, xget, xset, gd_0, gd_s]
  refine xGh_brF rfl (by decide) ?_
  refine xGh_run 3 rfl (by repeat' (first | exact trivial | assumption | exact xob_b rfl | exact xal_b rfl | exact xar_b rfl _ rfl (by decide) (by decide) | (apply And.intro) | decide)) ?_
  try dsimp only [xsto1, xsto2, xkill, xget, xset, gd_0, gd_s]
  refine xGh_new (n' := 27) (k1' := 25) (k2' := 192) (cid := 5) rfl rfl rfl rfl rfl gwc_1_17 gwn_5 gwi_5 rfl (by decide) (by decide) ?_
  refine xGh_run 1 rfl (by repeat' (first | exact trivial | assumption | exact xob_b rfl | exact xal_b rfl | exact xar_b rfl _ rfl (by decide) (by decide) | (apply And.intro) | decide)) ?_
  try dsimp only [xsto1, xsto2, xkill, xget, xset, gd_0, gd_s]
  refine xGh_initN (my := mX5_init) (r' := (0, 0, 0)) rfl rfl rfl rfl rfl cw_X5_init (by decide +kernel) rfl k_X5 (fun _ h => h) ⟨by decide, by decide, by decide⟩ (fun v M' n' h => h.2.2) ?_
  rintro v M' n' ⟨rfl, rfl, rfl⟩
  dsimp only [Option.toList, List.nil_append, Nat.add_zero]
  refine xGh_run 3 rfl (by repeat' (first | exact trivial | assumption | exact xob_b rfl | exact xal_b rfl | exact xar_b rfl _ rfl (by decide) (by decide) | (apply And.intro) | decide)) ?_
  try dsimp only [xsto1, xsto2, xkill, xget, xset, gd_0, gd_s]
  change xGh κ xAO _ _ (99, [some (.ref 1), some (.int 11)], [], puF (puF (mA_1 M) 2 6 10) 3 16 11, 27, true, 25, 192) _
  refine xGh_run 4 rfl (by repeat' (first | exact trivial | assumption | exact xob_b rfl | exact xal_b rfl | exact xar_b rfl _ rfl (by decide) (by decide) | (apply And.intro) | decide)) ?_
  try dsimp only [xsto1, xsto2, xkill, xget, xset, gd_0, gd_s]
  refine xGh_brF rfl (by decide) ?_
  refine xGh_run 3 rfl (by repeat' (first | exact trivial | assumption | exact xob_b rfl | exact xal_b rfl | exact xar_b rfl _ rfl (by decide) (by decide) | (apply And.intro) | decide)) ?_
  try dsimp only [xsto1, xsto2, xkill, xget, xset, gd_0, gd_s]
  refine xGh_new (n' := 28) (k1' := 26) (k2' := 199) (cid := 5) rfl rfl rfl rfl rfl gwc_1_17 gwn_5 gwi_5 rfl (by decide) (by decide) ?_
  refine xGh_run 1 rfl (by repeat' (first | exact trivial | assumption | exact xob_b rfl | exact xal_b rfl | exact xar_b rfl _ rfl (by decide) (by decide) | (apply And.intro) | decide)) ?_
  try dsimp only [xsto1, xsto2, xkill, xget, xset, gd_0, gd_s]
  refine xGh_initN (my := mX5_init) (r' := (0, 0, 0)) rfl rfl rfl rfl rfl cw_X5_init (by decide +kernel) rfl k_X5 (fun _ h => h) ⟨by decide, by decide, by decide⟩ (fun v M' n' h => h.2.2) ?_
  rintro v M' n' ⟨rfl, rfl, rfl⟩
  dsimp only [Option.toList, List.nil_append, Nat.add_zero]
  refine xGh_run 3 rfl (by repeat' (first | exact trivial | assumption | exact xob_b rfl | exact xal_b rfl | exact xar_b rfl _ rfl (by decide) (by decide) | (apply And.intro) | decide)) ?_
  try dsimp only [xsto1, xsto2, xkill, xget, xset, gd_0, gd_s]
  change xGh κ xAO _ _ (99, [some (.ref 1), some (.int 12)], [], puF (puF (mA_1 M) 2 6 10) 3 16 12, 28, true, 26, 199) _
  refine xGh_run 4 rfl (by repeat' (first | exact trivial | assumption | exact xob_b rfl | exact xal_b rfl | exact xar_b rfl _ rfl (by decide) (by decide) | (apply And.intro) | decide)) ?_
  try dsimp only [xsto1, xsto2, xkill, xget, xset, gd_0, gd_s]
  refine xGh_brT rfl (by decide) ?_
  refine xGh_done ⟨_, rfl, rfl, Or.inr (Or.inr (Or.inr ⟨rfl, rfl, rfl, ?_⟩))⟩
  exact mA_ok_1 hb
def mA_28 (M : xM) : xM := sP (zN (sP (sI (sI (sI (sI (sI (zN (sI (sP (zN (sP (zN (M) 29) 28 0 (some 29)) 30) 28 2 (some 30)) 28 6 1) 31) 31 0 100) 31 1 100) 31 2 100) 31 3 100) 31 4 100) 28 7 (some 31)) 32) 28 8 (some 32)
set_option maxRecDepth 8000 in
set_option maxHeartbeats 4000000 in
theorem mA_ok_28 {M : xM} (hb : bl M 28) : cnP M 28 55 none (puF (puF (mA_28 M) 29 33 10) 30 43 12) 55 := by
  refine ⟨rfl, rfl, fun x k hx => ⟨?_, ?_, ?_⟩, fun x hx1 hx2 => ?_⟩
  · rw [gIpuF, if_neg (by omega), gIpuF, if_neg (by omega)]; unfold mA_28; simp (disch := omega) only [gIzN, gIsP, gIsI, gIsJ, gJzN, gJsP, gJsI, gJsJ, gPzN, gPsI, gPsJ, gPsP, gIzG, gJzG, gPzG, if_neg]
  · rw [gJpuF, if_neg (by omega), gJpuF, if_neg (by omega)]; unfold mA_28; simp (disch := omega) only [gIzN, gIsP, gIsI, gIsJ, gJzN, gJsP, gJsI, gJsJ, gPzN, gPsI, gPsJ, gPsP, gIzG, gJzG, gPzG, if_neg]
  · rw [gPpuF _ _ _ _ _ (by omega), if_neg (by omega), if_neg (by omega), gPpuF _ _ _ _ _ (by omega), if_neg (by omega), if_neg (by omega)]; unfold mA_28; simp (disch := omega) only [gIzN, gIsP, gIsI, gIsJ, gJzN, gJsP, gJsI, gJsJ, gPzN, gPsI, gPsJ, gPsP, gIzG, gJzG, gPzG, if_neg]
  · by_cases hc : 33 ≤ x
    · have e1 : ∀ k, gI (puF (puF (mA_28 M) 29 33 10) 30 43 12) x k = 0 := fun k => by
        rw [gIpuF]
        by_cases h2 : 43 ≤ x ∧ x < 43 + 12
        · rw [if_pos h2]
        · rw [if_neg h2, gIpuF, if_pos (by omega)]
      have e2 : ∀ k, gJ (puF (puF (mA_28 M) 29 33 10) 30 43 12) x k = 0 := fun k => by
        rw [gJpuF]
        by_cases h2 : 43 ≤ x ∧ x < 43 + 12
        · rw [if_pos h2]
        · rw [if_neg h2, gJpuF, if_pos (by omega)]
      have e3 : (∀ k, iI x k = 0) ∧ pl x = [] := by
        obtain rfl | rfl | rfl | rfl | rfl | rfl | rfl | rfl | rfl | rfl | rfl | rfl | rfl | rfl | rfl | rfl | rfl | rfl | rfl | rfl | rfl | rfl : x = 33 ∨ x = 34 ∨ x = 35 ∨ x = 36 ∨ x = 37 ∨ x = 38 ∨ x = 39 ∨ x = 40 ∨ x = 41 ∨ x = 42 ∨ x = 43 ∨ x = 44 ∨ x = 45 ∨ x = 46 ∨ x = 47 ∨ x = 48 ∨ x = 49 ∨ x = 50 ∨ x = 51 ∨ x = 52 ∨ x = 53 ∨ x = 54 := by omega
        all_goals exact ⟨fun _ => rfl, rfl⟩
      exact ⟨fun k => (e1 k).trans (e3.1 k).symm, e2, by rw [e3.2]; exact fun _ h => absurd h List.not_mem_nil⟩
    · obtain rfl | rfl | rfl | rfl | rfl : x = 28 ∨ x = 29 ∨ x = 30 ∨ x = 31 ∨ x = 32 := by omega
      · refine ⟨fun k => ?_, fun k => ?_, ?_⟩
        · rw [gIpuF, if_neg (by omega), gIpuF, if_neg (by omega)]
          show _ = (bif Nat.beq k 6 then (1 : Int32) else 0)
          by_cases hk : k = 6
          · subst hk; unfold mA_28; simp [gIzN, gIsP, gIsI, gIsJ, gJzN, gJsP, gJsI, gJsJ, gPzN, gPsI, gPsJ, gPsP, gIzG, gJzG, gPzG]
          · rw [beq_ne hk]; unfold mA_28; simp [gIzN, gIsP, gIsI, gIsJ, gJzN, gJsP, gJsI, gJsJ, gPzN, gPsI, gPsJ, gPsP, gIzG, gJzG, gPzG, hk, hb k]
        · rw [gJpuF, if_neg (by omega), gJpuF, if_neg (by omega)]; unfold mA_28; simp [gIzN, gIsP, gIsI, gIsJ, gJzN, gJsP, gJsI, gJsJ, gPzN, gPsI, gPsJ, gPsP, gIzG, gJzG, gPzG, hb k]
        · show ∀ k ∈ ([0, 2, 7, 8] : List Nat), _
          refine List.forall_mem_cons.mpr ⟨?_, ?_⟩
          · show _ = some 29
            rw [gPpuF _ _ _ _ _ (by omega), gPpuF _ _ _ _ _ (by omega)]; unfold mA_28; simp [gIzN, gIsP, gIsI, gIsJ, gJzN, gJsP, gJsI, gJsJ, gPzN, gPsI, gPsJ, gPsP, gIzG, gJzG, gPzG]
          refine List.forall_mem_cons.mpr ⟨?_, ?_⟩
          · show _ = some 30
            rw [gPpuF _ _ _ _ _ (by omega), gPpuF _ _ _ _ _ (by omega)]; unfold mA_28; simp [gIzN, gIsP, gIsI, gIsJ, gJzN, gJsP, gJsI, gJsJ, gPzN, gPsI, gPsJ, gPsP, gIzG, gJzG, gPzG]
          refine List.forall_mem_cons.mpr ⟨?_, ?_⟩
          · show _ = some 31
            rw [gPpuF _ _ _ _ _ (by omega), gPpuF _ _ _ _ _ (by omega)]; unfold mA_28; simp [gIzN, gIsP, gIsI, gIsJ, gJzN, gJsP, gJsI, gJsJ, gPzN, gPsI, gPsJ, gPsP, gIzG, gJzG, gPzG]
          refine List.forall_mem_cons.mpr ⟨?_, ?_⟩
          · show _ = some 32
            rw [gPpuF _ _ _ _ _ (by omega), gPpuF _ _ _ _ _ (by omega)]; unfold mA_28; simp [gIzN, gIsP, gIsI, gIsJ, gJzN, gJsP, gJsI, gJsJ, gPzN, gPsI, gPsJ, gPsP, gIzG, gJzG, gPzG]
          exact List.forall_mem_nil _
      · refine ⟨fun k => ?_, fun k => ?_, ?_⟩
        · rw [gIpuF, if_neg (by omega), gIpuF, if_neg (by omega)]
          show _ = (0 : Int32)
          unfold mA_28; simp [gIzN, gIsP, gIsI, gIsJ, gJzN, gJsP, gJsI, gJsJ, gPzN, gPsI, gPsJ, gPsP, gIzG, gJzG, gPzG]
        · rw [gJpuF, if_neg (by omega), gJpuF, if_neg (by omega)]; unfold mA_28; simp [gIzN, gIsP, gIsI, gIsJ, gJzN, gJsP, gJsI, gJsJ, gPzN, gPsI, gPsJ, gPsP, gIzG, gJzG, gPzG, hb k]
        · show ∀ k ∈ ([0, 1, 2, 3, 4, 5, 6, 7, 8, 9] : List Nat), _
          refine List.forall_mem_cons.mpr ⟨?_, ?_⟩
          · show _ = some 33
            rw [gPpuF _ _ _ _ _ (by omega), gPpuF _ _ _ _ _ (by omega)]; unfold mA_28; simp [gIzN, gIsP, gIsI, gIsJ, gJzN, gJsP, gJsI, gJsJ, gPzN, gPsI, gPsJ, gPsP, gIzG, gJzG, gPzG]
          refine List.forall_mem_cons.mpr ⟨?_, ?_⟩
          · show _ = some 34
            rw [gPpuF _ _ _ _ _ (by omega), gPpuF _ _ _ _ _ (by omega)]; unfold mA_28; simp [gIzN, gIsP, gIsI, gIsJ, gJzN, gJsP, gJsI, gJsJ, gPzN, gPsI, gPsJ, gPsP, gIzG, gJzG, gPzG]
          refine List.forall_mem_cons.mpr ⟨?_, ?_⟩
          · show _ = some 35
            rw [gPpuF _ _ _ _ _ (by omega), gPpuF _ _ _ _ _ (by omega)]; unfold mA_28; simp [gIzN, gIsP, gIsI, gIsJ, gJzN, gJsP, gJsI, gJsJ, gPzN, gPsI, gPsJ, gPsP, gIzG, gJzG, gPzG]
          refine List.forall_mem_cons.mpr ⟨?_, ?_⟩
          · show _ = some 36
            rw [gPpuF _ _ _ _ _ (by omega), gPpuF _ _ _ _ _ (by omega)]; unfold mA_28; simp [gIzN, gIsP, gIsI, gIsJ, gJzN, gJsP, gJsI, gJsJ, gPzN, gPsI, gPsJ, gPsP, gIzG, gJzG, gPzG]
          refine List.forall_mem_cons.mpr ⟨?_, ?_⟩
          · show _ = some 37
            rw [gPpuF _ _ _ _ _ (by omega), gPpuF _ _ _ _ _ (by omega)]; unfold mA_28; simp [gIzN, gIsP, gIsI, gIsJ, gJzN, gJsP, gJsI, gJsJ, gPzN, gPsI, gPsJ, gPsP, gIzG, gJzG, gPzG]
          refine List.forall_mem_cons.mpr ⟨?_, ?_⟩
          · show _ = some 38
            rw [gPpuF _ _ _ _ _ (by omega), gPpuF _ _ _ _ _ (by omega)]; unfold mA_28; simp [gIzN, gIsP, gIsI, gIsJ, gJzN, gJsP, gJsI, gJsJ, gPzN, gPsI, gPsJ, gPsP, gIzG, gJzG, gPzG]
          refine List.forall_mem_cons.mpr ⟨?_, ?_⟩
          · show _ = some 39
            rw [gPpuF _ _ _ _ _ (by omega), gPpuF _ _ _ _ _ (by omega)]; unfold mA_28; simp [gIzN, gIsP, gIsI, gIsJ, gJzN, gJsP, gJsI, gJsJ, gPzN, gPsI, gPsJ, gPsP, gIzG, gJzG, gPzG]
          refine List.forall_mem_cons.mpr ⟨?_, ?_⟩
          · show _ = some 40
            rw [gPpuF _ _ _ _ _ (by omega), gPpuF _ _ _ _ _ (by omega)]; unfold mA_28; simp [gIzN, gIsP, gIsI, gIsJ, gJzN, gJsP, gJsI, gJsJ, gPzN, gPsI, gPsJ, gPsP, gIzG, gJzG, gPzG]
          refine List.forall_mem_cons.mpr ⟨?_, ?_⟩
          · show _ = some 41
            rw [gPpuF _ _ _ _ _ (by omega), gPpuF _ _ _ _ _ (by omega)]; unfold mA_28; simp [gIzN, gIsP, gIsI, gIsJ, gJzN, gJsP, gJsI, gJsJ, gPzN, gPsI, gPsJ, gPsP, gIzG, gJzG, gPzG]
          refine List.forall_mem_cons.mpr ⟨?_, ?_⟩
          · show _ = some 42
            rw [gPpuF _ _ _ _ _ (by omega), gPpuF _ _ _ _ _ (by omega)]; unfold mA_28; simp [gIzN, gIsP, gIsI, gIsJ, gJzN, gJsP, gJsI, gJsJ, gPzN, gPsI, gPsJ, gPsP, gIzG, gJzG, gPzG]
          exact List.forall_mem_nil _
      · refine ⟨fun k => ?_, fun k => ?_, ?_⟩
        · rw [gIpuF, if_neg (by omega), gIpuF, if_neg (by omega)]
          show _ = (0 : Int32)
          unfold mA_28; simp [gIzN, gIsP, gIsI, gIsJ, gJzN, gJsP, gJsI, gJsJ, gPzN, gPsI, gPsJ, gPsP, gIzG, gJzG, gPzG]
        · rw [gJpuF, if_neg (by omega), gJpuF, if_neg (by omega)]; unfold mA_28; simp [gIzN, gIsP, gIsI, gIsJ, gJzN, gJsP, gJsI, gJsJ, gPzN, gPsI, gPsJ, gPsP, gIzG, gJzG, gPzG, hb k]
        · show ∀ k ∈ ([0, 1, 2, 3, 4, 5, 6, 7, 8, 9, 10, 11] : List Nat), _
          refine List.forall_mem_cons.mpr ⟨?_, ?_⟩
          · show _ = some 43
            rw [gPpuF _ _ _ _ _ (by omega), gPpuF _ _ _ _ _ (by omega)]; unfold mA_28; simp [gIzN, gIsP, gIsI, gIsJ, gJzN, gJsP, gJsI, gJsJ, gPzN, gPsI, gPsJ, gPsP, gIzG, gJzG, gPzG]
          refine List.forall_mem_cons.mpr ⟨?_, ?_⟩
          · show _ = some 44
            rw [gPpuF _ _ _ _ _ (by omega), gPpuF _ _ _ _ _ (by omega)]; unfold mA_28; simp [gIzN, gIsP, gIsI, gIsJ, gJzN, gJsP, gJsI, gJsJ, gPzN, gPsI, gPsJ, gPsP, gIzG, gJzG, gPzG]
          refine List.forall_mem_cons.mpr ⟨?_, ?_⟩
          · show _ = some 45
            rw [gPpuF _ _ _ _ _ (by omega), gPpuF _ _ _ _ _ (by omega)]; unfold mA_28; simp [gIzN, gIsP, gIsI, gIsJ, gJzN, gJsP, gJsI, gJsJ, gPzN, gPsI, gPsJ, gPsP, gIzG, gJzG, gPzG]
          refine List.forall_mem_cons.mpr ⟨?_, ?_⟩
          · show _ = some 46
            rw [gPpuF _ _ _ _ _ (by omega), gPpuF _ _ _ _ _ (by omega)]; unfold mA_28; simp [gIzN, gIsP, gIsI, gIsJ, gJzN, gJsP, gJsI, gJsJ, gPzN, gPsI, gPsJ, gPsP, gIzG, gJzG, gPzG]
          refine List.forall_mem_cons.mpr ⟨?_, ?_⟩
          · show _ = some 47
            rw [gPpuF _ _ _ _ _ (by omega), gPpuF _ _ _ _ _ (by omega)]; unfold mA_28; simp [gIzN, gIsP, gIsI, gIsJ, gJzN, gJsP, gJsI, gJsJ, gPzN, gPsI, gPsJ, gPsP, gIzG, gJzG, gPzG]
          refine List.forall_mem_cons.mpr ⟨?_, ?_⟩
          · show _ = some 48
            rw [gPpuF _ _ _ _ _ (by omega), gPpuF _ _ _ _ _ (by omega)]; unfold mA_28; simp [gIzN, gIsP, gIsI, gIsJ, gJzN, gJsP, gJsI, gJsJ, gPzN, gPsI, gPsJ, gPsP, gIzG, gJzG, gPzG]
          refine List.forall_mem_cons.mpr ⟨?_, ?_⟩
          · show _ = some 49
            rw [gPpuF _ _ _ _ _ (by omega), gPpuF _ _ _ _ _ (by omega)]; unfold mA_28; simp [gIzN, gIsP, gIsI, gIsJ, gJzN, gJsP, gJsI, gJsJ, gPzN, gPsI, gPsJ, gPsP, gIzG, gJzG, gPzG]
          refine List.forall_mem_cons.mpr ⟨?_, ?_⟩
          · show _ = some 50
            rw [gPpuF _ _ _ _ _ (by omega), gPpuF _ _ _ _ _ (by omega)]; unfold mA_28; simp [gIzN, gIsP, gIsI, gIsJ, gJzN, gJsP, gJsI, gJsJ, gPzN, gPsI, gPsJ, gPsP, gIzG, gJzG, gPzG]
          refine List.forall_mem_cons.mpr ⟨?_, ?_⟩
          · show _ = some 51
            rw [gPpuF _ _ _ _ _ (by omega), gPpuF _ _ _ _ _ (by omega)]; unfold mA_28; simp [gIzN, gIsP, gIsI, gIsJ, gJzN, gJsP, gJsI, gJsJ, gPzN, gPsI, gPsJ, gPsP, gIzG, gJzG, gPzG]
          refine List.forall_mem_cons.mpr ⟨?_, ?_⟩
          · show _ = some 52
            rw [gPpuF _ _ _ _ _ (by omega), gPpuF _ _ _ _ _ (by omega)]; unfold mA_28; simp [gIzN, gIsP, gIsI, gIsJ, gJzN, gJsP, gJsI, gJsJ, gPzN, gPsI, gPsJ, gPsP, gIzG, gJzG, gPzG]
          refine List.forall_mem_cons.mpr ⟨?_, ?_⟩
          · show _ = some 53
            rw [gPpuF _ _ _ _ _ (by omega), gPpuF _ _ _ _ _ (by omega)]; unfold mA_28; simp [gIzN, gIsP, gIsI, gIsJ, gJzN, gJsP, gJsI, gJsJ, gPzN, gPsI, gPsJ, gPsP, gIzG, gJzG, gPzG]
          refine List.forall_mem_cons.mpr ⟨?_, ?_⟩
          · show _ = some 54
            rw [gPpuF _ _ _ _ _ (by omega), gPpuF _ _ _ _ _ (by omega)]; unfold mA_28; simp [gIzN, gIsP, gIsI, gIsJ, gJzN, gJsP, gJsI, gJsJ, gPzN, gPsI, gPsJ, gPsP, gIzG, gJzG, gPzG]
          exact List.forall_mem_nil _
      · refine ⟨fun k => ?_, fun k => ?_, ?_⟩
        · rw [gIpuF, if_neg (by omega), gIpuF, if_neg (by omega)]
          show _ = (bif Nat.blt k 5 then (100 : Int32) else 0)
          rcases k with _ | _ | _ | _ | _ | k
          · unfold mA_28; simp [gIzN, gIsP, gIsI, gIsJ, gJzN, gJsP, gJsI, gJsJ, gPzN, gPsI, gPsJ, gPsP, gIzG, gJzG, gPzG]; try rfl
          · unfold mA_28; simp [gIzN, gIsP, gIsI, gIsJ, gJzN, gJsP, gJsI, gJsJ, gPzN, gPsI, gPsJ, gPsP, gIzG, gJzG, gPzG]; try rfl
          · unfold mA_28; simp [gIzN, gIsP, gIsI, gIsJ, gJzN, gJsP, gJsI, gJsJ, gPzN, gPsI, gPsJ, gPsP, gIzG, gJzG, gPzG]; try rfl
          · unfold mA_28; simp [gIzN, gIsP, gIsI, gIsJ, gJzN, gJsP, gJsI, gJsJ, gPzN, gPsI, gPsJ, gPsP, gIzG, gJzG, gPzG]; try rfl
          · unfold mA_28; simp [gIzN, gIsP, gIsI, gIsJ, gJzN, gJsP, gJsI, gJsJ, gPzN, gPsI, gPsJ, gPsP, gIzG, gJzG, gPzG]; try rfl
          · rw [show Nat.blt (k + 1 + 1 + 1 + 1 + 1) 5 = false from Bool.eq_false_iff.mpr (fun q => by have := Nat.le_of_ble_eq_true q; omega)]; unfold mA_28; simp [gIzN, gIsP, gIsI, gIsJ, gJzN, gJsP, gJsI, gJsJ, gPzN, gPsI, gPsJ, gPsP, gIzG, gJzG, gPzG]
        · rw [gJpuF, if_neg (by omega), gJpuF, if_neg (by omega)]; unfold mA_28; simp [gIzN, gIsP, gIsI, gIsJ, gJzN, gJsP, gJsI, gJsJ, gPzN, gPsI, gPsJ, gPsP, gIzG, gJzG, gPzG, hb k]
        · show ∀ k ∈ ([] : List Nat), _
          exact List.forall_mem_nil _
      · refine ⟨fun k => ?_, fun k => ?_, ?_⟩
        · rw [gIpuF, if_neg (by omega), gIpuF, if_neg (by omega)]
          show _ = (0 : Int32)
          unfold mA_28; simp [gIzN, gIsP, gIsI, gIsJ, gJzN, gJsP, gJsI, gJsJ, gPzN, gPsI, gPsJ, gPsP, gIzG, gJzG, gPzG]
        · rw [gJpuF, if_neg (by omega), gJpuF, if_neg (by omega)]; unfold mA_28; simp [gIzN, gIsP, gIsI, gIsJ, gJzN, gJsP, gJsI, gJsJ, gPzN, gPsI, gPsJ, gPsP, gIzG, gJzG, gPzG, hb k]
        · show ∀ k ∈ ([] : List Nat), _
          exact List.forall_mem_nil _
set_option maxRecDepth 8000 in
set_option maxHeartbeats 2000000 in
theorem k_X1_28 {κ : xKK} {M : xM} (hb : bl M 28) : xEz κ mX1_init (1, 26, 199) [.ref 28] M 29 (cnP M 28 55) := by
  refine xEz_of ci_X1_init cl_X1_init cw_X1_init rfl (L := [some (.ref 28), none]) rfl ?_
  refine xGh_run 1 rfl (by repeat' (first | exact trivial | assumption | exact xob_b rfl | exact xal_b rfl | exact xar_b rfl _ rfl (by decide) (by decide) | (apply And.intro) | decide)) ?_
  try dsimp only [xsto1, xsto2, xkill, xget, xset, gd_0, gd_s]
  refine xGh_obj rfl gwo_1 rfl ?_
  refine xGh_run 2 rfl (by repeat' (first | exact trivial | assumption | exact xob_b rfl | exact xal_b rfl | exact xar_b rfl _ rfl (by decide) (by decide) | (apply And.intro) | decide)) ?_
  try dsimp only [xsto1, xsto2, xkill, xget, xset, gd_0, gd_s]
  refine xGh_aa' (n' := 30) (k1' := 1) (k2' := 10) (C := "MastWind$Piece") rfl rfl rfl rfl rfl (Or.inl ⟨rfl, rfl⟩) gwc_1_9 (fun _ h => h.1) (by decide) rfl (by decide) (by decide) (by decide) ?_
  refine xGh_run 3 rfl (by repeat' (first | exact trivial | assumption | exact xob_b rfl | exact xal_b rfl | exact xar_b rfl _ rfl (by decide) (by decide) | (apply And.intro) | decide)) ?_
  try dsimp only [xsto1, xsto2, xkill, xget, xset, gd_0, gd_s]
  refine xGh_aa' (n' := 31) (k1' := 2) (k2' := 22) (C := "MastWind$Rope") rfl rfl rfl rfl rfl (Or.inr (Or.inl ⟨rfl, rfl⟩)) gwc_1_17 (fun _ h => h.2.1) (by decide) rfl (by decide) (by decide) (by decide) ?_
  refine xGh_run 6 rfl (by repeat' (first | exact trivial | assumption | exact xob_b rfl | exact xal_b rfl | exact xar_b rfl _ rfl (by decide) (by decide) | (apply And.intro) | decide)) ?_
  try dsimp only [xsto1, xsto2, xkill, xget, xset, gd_0, gd_s]
  refine xGh_na (n' := 32) (k1' := 3) (k2' := 27) rfl rfl rfl rfl rfl rfl (Or.inl ⟨rfl, rfl⟩) (by decide) rfl (by decide) (by decide) (by decide) ?_
  refine xGh_run 23 rfl (by repeat' (first | exact trivial | assumption | exact xob_b rfl | exact xal_b rfl | exact xar_b rfl _ rfl (by decide) (by decide) | (apply And.intro) | decide)) ?_
  try dsimp only [xsto1, xsto2, xkill, xget, xset, gd_0, gd_s]
  refine xGh_na (n' := 33) (k1' := 4) (k2' := 35) rfl rfl rfl rfl rfl rfl (Or.inl ⟨rfl, rfl⟩) (by decide) rfl (by decide) (by decide) (by decide) ?_
  refine xGh_run 7 rfl (by repeat' (first | exact trivial | assumption | exact xob_b rfl | exact xal_b rfl | exact xar_b rfl _ rfl (by decide) (by decide) | (apply And.intro) | decide)) ?_
  try dsimp only [xsto1, xsto2, xkill, xget, xset, gd_0, gd_s]
  refine xGh_brF rfl (by decide) ?_
  refine xGh_run 3 rfl (by repeat' (first | exact trivial | assumption | exact xob_b rfl | exact xal_b rfl | exact xar_b rfl _ rfl (by decide) (by decide) | (apply And.intro) | decide)) ?_
  try dsimp only [xsto1, xsto2, xkill, xget, xset, gd_0, gd_s]
  refine xGh_new (n' := 34) (k1' := 5) (k2' := 43) (cid := 3) rfl rfl rfl rfl rfl gwc_1_9 gwn_3 gwi_3 rfl (by decide) (by decide) ?_
  refine xGh_run 1 rfl (by repeat' (first | exact trivial | assumption | exact xob_b rfl | exact xal_b rfl | exact xar_b rfl _ rfl (by decide) (by decide) | (apply And.intro) | decide)) ?_
  try dsimp only [xsto1, xsto2, xkill, xget, xset, gd_0, gd_s]
  refine xGh_initN (my := mX3_init) (r' := (0, 0, 0)) rfl rfl rfl rfl rfl cw_X3_init (by decide +kernel) rfl k_X3 (fun _ h => h) ⟨by decide, by decide, by decide⟩ (fun v M' n' h => h.2.2) ?_
  rintro v M' n' ⟨rfl, rfl, rfl⟩
  dsimp only [Option.toList, List.nil_append, Nat.add_zero]
  refine xGh_run 3 rfl (by repeat' (first | exact trivial | assumption | exact xob_b rfl | exact xal_b rfl | exact xar_b rfl _ rfl (by decide) (by decide) | (apply And.intro) | decide)) ?_
  try dsimp only [xsto1, xsto2, xkill, xget, xset, gd_0, gd_s]
  change xGh κ xAO _ _ (69, [some (.ref 28), some (.int 1)], [], puF (mA_28 M) 29 33 1, 34, true, 5, 43) _
  refine xGh_run 4 rfl (by repeat' (first | exact trivial | assumption | exact xob_b rfl | exact xal_b rfl | exact xar_b rfl _ rfl (by decide) (by decide) | (apply And.intro) | decide)) ?_
  try dsimp only [xsto1, xsto2, xkill, xget, xset, gd_0, gd_s]
  refine xGh_brF rfl (by decide) ?_
  refine xGh_run 3 rfl (by repeat' (first | exact trivial | assumption | exact xob_b rfl | exact xal_b rfl | exact xar_b rfl _ rfl (by decide) (by decide) | (apply And.intro) | decide)) ?_
  try dsimp only [xsto1, xsto2, xkill, xget, xset, gd_0, gd_s]
  refine xGh_new (n' := 35) (k1' := 6) (k2' := 51) (cid := 3) rfl rfl rfl rfl rfl gwc_1_9 gwn_3 gwi_3 rfl (by decide) (by decide) ?_
  refine xGh_run 1 rfl (by repeat' (first | exact trivial | assumption | exact xob_b rfl | exact xal_b rfl | exact xar_b rfl _ rfl (by decide) (by decide) | (apply And.intro) | decide)) ?_
  try dsimp only [xsto1, xsto2, xkill, xget, xset, gd_0, gd_s]
  refine xGh_initN (my := mX3_init) (r' := (0, 0, 0)) rfl rfl rfl rfl rfl cw_X3_init (by decide +kernel) rfl k_X3 (fun _ h => h) ⟨by decide, by decide, by decide⟩ (fun v M' n' h => h.2.2) ?_
  rintro v M' n' ⟨rfl, rfl, rfl⟩
  dsimp only [Option.toList, List.nil_append, Nat.add_zero]
  refine xGh_run 3 rfl (by repeat' (first | exact trivial | assumption | exact xob_b rfl | exact xal_b rfl | exact xar_b rfl _ rfl (by decide) (by decide) | (apply And.intro) | decide)) ?_
  try dsimp only [xsto1, xsto2, xkill, xget, xset, gd_0, gd_s]
  change xGh κ xAO _ _ (69, [some (.ref 28), some (.int 2)], [], puF (mA_28 M) 29 33 2, 35, true, 6, 51) _
  refine xGh_run 4 rfl (by repeat' (first | exact trivial | assumption | exact xob_b rfl | exact xal_b rfl | exact xar_b rfl _ rfl (by decide) (by decide) | (apply And.intro) | decide)) ?_
  try dsimp only [xsto1, xsto2, xkill, xget, xset, gd_0, gd_s]
  refine xGh_brF rfl (by decide) ?_
  refine xGh_run 3 rfl (by repeat' (first | exact trivial | assumption | exact xob_b rfl | exact xal_b rfl | exact xar_b rfl _ rfl (by decide) (by decide) | (apply And.intro) | decide)) ?_
  try dsimp only [xsto1, xsto2, xkill, xget, xset, gd_0, gd_s]
  refine xGh_new (n' := 36) (k1' := 7) (k2' := 59) (cid := 3) rfl rfl rfl rfl rfl gwc_1_9 gwn_3 gwi_3 rfl (by decide) (by decide) ?_
  refine xGh_run 1 rfl (by repeat' (first | exact trivial | assumption | exact xob_b rfl | exact xal_b rfl | exact xar_b rfl _ rfl (by decide) (by decide) | (apply And.intro) | decide)) ?_
  try dsimp only [xsto1, xsto2, xkill, xget, xset, gd_0, gd_s]
  refine xGh_initN (my := mX3_init) (r' := (0, 0, 0)) rfl rfl rfl rfl rfl cw_X3_init (by decide +kernel) rfl k_X3 (fun _ h => h) ⟨by decide, by decide, by decide⟩ (fun v M' n' h => h.2.2) ?_
  rintro v M' n' ⟨rfl, rfl, rfl⟩
  dsimp only [Option.toList, List.nil_append, Nat.add_zero]
  refine xGh_run 3 rfl (by repeat' (first | exact trivial | assumption | exact xob_b rfl | exact xal_b rfl | exact xar_b rfl _ rfl (by decide) (by decide) | (apply And.intro) | decide)) ?_
  try dsimp only [xsto1, xsto2, xkill, xget, xset, gd_0, gd_s]
  change xGh κ xAO _ _ (69, [some (.ref 28), some (.int 3)], [], puF (mA_28 M) 29 33 3, 36, true, 7, 59) _
  refine xGh_run 4 rfl (by repeat' (first | exact trivial | assumption | exact xob_b rfl | exact xal_b rfl | exact xar_b rfl _ rfl (by decide) (by decide) | (apply And.intro) | decide)) ?_
  try dsimp only [xsto1, xsto2, xkill, xget, xset, gd_0, gd_s]
  refine xGh_brF rfl (by decide) ?_
  refine xGh_run 3 rfl (by repeat' (first | exact trivial | assumption | exact xob_b rfl | exact xal_b rfl | exact xar_b rfl _ rfl (by decide) (by decide) | (apply And.intro) | decide)) ?_
  try dsimp only [xsto1, xsto2, xkill, xget, xset, gd_0, gd_s]
  refine xGh_new (n' := 37) (k1' := 8) (k2' := 67) (cid := 3) rfl rfl rfl rfl rfl gwc_1_9 gwn_3 gwi_3 rfl (by decide) (by decide) ?_
  refine xGh_run 1 rfl (by repeat' (first | exact trivial | assumption | exact xob_b rfl | exact xal_b rfl | exact xar_b rfl _ rfl (by decide) (by decide) | (apply And.intro) | decide)) ?_
  try dsimp only [xsto1, xsto2, xkill, xget, xset, gd_0, gd_s]
  refine xGh_initN (my := mX3_init) (r' := (0, 0, 0)) rfl rfl rfl rfl rfl cw_X3_init (by decide +kernel) rfl k_X3 (fun _ h => h) ⟨by decide, by decide, by decide⟩ (fun v M' n' h => h.2.2) ?_
  rintro v M' n' ⟨rfl, rfl, rfl⟩
  dsimp only [Option.toList, List.nil_append, Nat.add_zero]
  refine xGh_run 3 rfl (by repeat' (first | exact trivial | assumption | exact xob_b rfl | exact xal_b rfl | exact xar_b rfl _ rfl (by decide) (by decide) | (apply And.intro) | decide)) ?_
  try dsimp only [xsto1, xsto2, xkill, xget, xset, gd_0, gd_s]
  change xGh κ xAO _ _ (69, [some (.ref 28), some (.int 4)], [], puF (mA_28 M) 29 33 4, 37, true, 8, 67) _
  refine xGh_run 4 rfl (by repeat' (first | exact trivial | assumption | exact xob_b rfl | exact xal_b rfl | exact xar_b rfl _ rfl (by decide) (by decide) | (apply And.intro) | decide)) ?_
  try dsimp only [xsto1, xsto2, xkill, xget, xset, gd_0, gd_s]
  refine xGh_brF rfl (by decide) ?_
  refine xGh_run 3 rfl (by repeat' (first | exact trivial | assumption | exact xob_b rfl | exact xal_b rfl | exact xar_b rfl _ rfl (by decide) (by decide) | (apply And.intro) | decide)) ?_
  try dsimp only [xsto1, xsto2, xkill, xget, xset, gd_0, gd_s]
  refine xGh_new (n' := 38) (k1' := 9) (k2' := 75) (cid := 3) rfl rfl rfl rfl rfl gwc_1_9 gwn_3 gwi_3 rfl (by decide) (by decide) ?_
  refine xGh_run 1 rfl (by repeat' (first | exact trivial | assumption | exact xob_b rfl | exact xal_b rfl | exact xar_b rfl _ rfl (by decide) (by decide) | (apply And.intro) | decide)) ?_
  try dsimp only [xsto1, xsto2, xkill, xget, xset, gd_0, gd_s]
  refine xGh_initN (my := mX3_init) (r' := (0, 0, 0)) rfl rfl rfl rfl rfl cw_X3_init (by decide +kernel) rfl k_X3 (fun _ h => h) ⟨by decide, by decide, by decide⟩ (fun v M' n' h => h.2.2) ?_
  rintro v M' n' ⟨rfl, rfl, rfl⟩
  dsimp only [Option.toList, List.nil_append, Nat.add_zero]
  refine xGh_run 3 rfl (by repeat' (first | exact trivial | assumption | exact xob_b rfl | exact xal_b rfl | exact xar_b rfl _ rfl (by decide) (by decide) | (apply And.intro) | decide)) ?_
  try dsimp only [xsto1, xsto2, xkill, xget, xset, gd_0, gd_s]
  change xGh κ xAO _ _ (69, [some (.ref 28), some (.int 5)], [], puF (mA_28 M) 29 33 5, 38, true, 9, 75) _
  refine xGh_run 4 rfl (by repeat' (first | exact trivial | assumption | exact xob_b rfl | exact xal_b rfl | exact xar_b rfl _ rfl (by decide) (by decide) | (apply And.intro) | decide)) ?_
  try dsimp only [xsto1, xsto2, xkill, xget, xset, gd_0, gd_s]
  refine xGh_brF rfl (by decide) ?_
  refine xGh_run 3 rfl (by repeat' (first | exact trivial | assumption | exact xob_b rfl | exact xal_b rfl | exact xar_b rfl _ rfl (by decide) (by decide) | (apply And.intro) | decide)) ?_
  try dsimp only [xsto1, xsto2, xkill, xget, xset, gd_0, gd_s]
  refine xGh_new (n' := 39) (k1' := 10) (k2' := 83) (cid := 3) rfl rfl rfl rfl rfl gwc_1_9 gwn_3 gwi_3 rfl (by decide) (by decide) ?_
  refine xGh_run 1 rfl (by repeat' (first | exact trivial | assumption | exact xob_b rfl | exact xal_b rfl | exact xar_b rfl _ rfl (by decide) (by decide) | (apply And.intro) | decide)) ?_
  try dsimp only [xsto1, xsto2, xkill, xget, xset, gd_0, gd_s]
  refine xGh_initN (my := mX3_init) (r' := (0, 0, 0)) rfl rfl rfl rfl rfl cw_X3_init (by decide +kernel) rfl k_X3 (fun _ h => h) ⟨by decide, by decide, by decide⟩ (fun v M' n' h => h.2.2) ?_
  rintro v M' n' ⟨rfl, rfl, rfl⟩
  dsimp only [Option.toList, List.nil_append, Nat.add_zero]
  refine xGh_run 3 rfl (by repeat' (first | exact trivial | assumption | exact xob_b rfl | exact xal_b rfl | exact xar_b rfl _ rfl (by decide) (by decide) | (apply And.intro) | decide)) ?_
  try dsimp only [xsto1, xsto2, xkill, xget, xset, gd_0, gd_s]
  change xGh κ xAO _ _ (69, [some (.ref 28), some (.int 6)], [], puF (mA_28 M) 29 33 6, 39, true, 10, 83) _
  refine xGh_run 4 rfl (by repeat' (first | exact trivial | assumption | exact xob_b rfl | exact xal_b rfl | exact xar_b rfl _ rfl (by decide) (by decide) | (apply And.intro) | decide)) ?_
  try dsimp only [xsto1, xsto2, xkill, xget, xset, gd_0, gd_s]
  refine xGh_brF rfl (by decide) ?_
  refine xGh_run 3 rfl (by repeat' (first | exact trivial | assumption | exact xob_b rfl | exact xal_b rfl | exact xar_b rfl _ rfl (by decide) (by decide) | (apply And.intro) | decide)) ?_
  try dsimp only [xsto1, xsto2, xkill, xget, xset, gd_0, gd_s]
  refine xGh_new (n' := 40) (k1' := 11) (k2' := 91) (cid := 3) rfl rfl rfl rfl rfl gwc_1_9 gwn_3 gwi_3 rfl (by decide) (by decide) ?_
  refine xGh_run 1 rfl (by repeat' (first | exact trivial | assumption | exact xob_b rfl | exact xal_b rfl | exact xar_b rfl _ rfl (by decide) (by decide) | (apply And.intro) | decide)) ?_
  try dsimp only [xsto1, xsto2, xkill, xget, xset, gd_0, gd_s]
  refine xGh_initN (my := mX3_init) (r' := (0, 0, 0)) rfl rfl rfl rfl rfl cw_X3_init (by decide +kernel) rfl k_X3 (fun _ h => h) ⟨by decide, by decide, by decide⟩ (fun v M' n' h => h.2.2) ?_
  rintro v M' n' ⟨rfl, rfl, rfl⟩
  dsimp only [Option.toList, List.nil_append, Nat.add_zero]
  refine xGh_run 3 rfl (by repeat' (first | exact trivial | assumption | exact xob_b rfl | exact xal_b rfl | exact xar_b rfl _ rfl (by decide) (by decide) | (apply And.intro) | decide)) ?_
  try dsimp only [xsto1, xsto2, xkill, xget, xset, gd_0, gd_s]
  change xGh κ xAO _ _ (69, [some (.ref 28), some (.int 7)], [], puF (mA_28 M) 29 33 7, 40, true, 11, 91) _
  refine xGh_run 4 rfl (by repeat' (first | exact trivial | assumption | exact xob_b rfl | exact xal_b rfl | exact xar_b rfl _ rfl (by decide) (by decide) | (apply And.intro) | decide)) ?_
  try dsimp only [xsto1, xsto2, xkill, xget, xset, gd_0, gd_s]
  refine xGh_brF rfl (by decide) ?_
  refine xGh_run 3 rfl (by repeat' (first | exact trivial | assumption | exact xob_b rfl | exact xal_b rfl | exact xar_b rfl _ rfl (by decide) (by decide) | (apply And.intro) | decide)) ?_
  try dsimp only [xsto1, xsto2, xkill, xget, xset, gd_0, gd_s]
  refine xGh_new (n' := 41) (k1' := 12) (k2' := 99) (cid := 3) rfl rfl rfl rfl rfl gwc_1_9 gwn_3 gwi_3 rfl (by decide) (by decide) ?_
  refine xGh_run 1 rfl (by repeat' (first | exact trivial | assumption | exact xob_b rfl | exact xal_b rfl | exact xar_b rfl _ rfl (by decide) (by decide) | (apply And.intro) | decide)) ?_
  try dsimp only [xsto1, xsto2, xkill, xget, xset, gd_0, gd_s]
  refine xGh_initN (my := mX3_init) (r' := (0, 0, 0)) rfl rfl rfl rfl rfl cw_X3_init (by decide +kernel) rfl k_X3 (fun _ h => h) ⟨by decide, by decide, by decide⟩ (fun v M' n' h => h.2.2) ?_
  rintro v M' n' ⟨rfl, rfl, rfl⟩
  dsimp only [Option.toList, List.nil_append, Nat.add_zero]
  refine xGh_run 3 rfl (by repeat' (first | exact trivial | assumption | exact xob_b rfl | exact xal_b rfl | exact xar_b rfl _ rfl (by decide) (by decide) | (apply And.intro) | decide)) ?_
  try dsimp only [xsto1, xsto2, xkill, xget, xset, gd_0, gd_s]
  change xGh κ xAO _ _ (69, [some (.ref 28), some (.int 8)], [], puF (mA_28 M) 29 33 8, 41, true, 12, 99) _
  refine xGh_run 4 rfl (by repeat' (first | exact trivial | assumption | exact xob_b rfl | exact xal_b rfl | exact xar_b rfl _ rfl (by decide) (by decide) | (apply And.intro) | decide)) ?_
  try dsimp only [xsto1, xsto2, xkill, xget, xset, gd_0, gd_s]
  refine xGh_brF rfl (by decide) ?_
  refine xGh_run 3 rfl (by repeat' (first | exact trivial | assumption | exact xob_b rfl | exact xal_b rfl | exact xar_b rfl _ rfl (by decide) (by decide) | (apply And.intro) | decide)) ?_
  try dsimp only [xsto1, xsto2, xkill, xget, xset, gd_0, gd_s]
  refine xGh_new (n' := 42) (k1' := 13) (k2' := 107) (cid := 3) rfl rfl rfl rfl rfl gwc_1_9 gwn_3 gwi_3 rfl (by decide) (by decide) ?_
  refine xGh_run 1 rfl (by repeat' (first | exact trivial | assumption | exact xob_b rfl | exact xal_b rfl | exact xar_b rfl _ rfl (by decide) (by decide) | (apply And.intro) | decide)) ?_
  try dsimp only [xsto1, xsto2, xkill, xget, xset, gd_0, gd_s]
  refine xGh_initN (my := mX3_init) (r' := (0, 0, 0)) rfl rfl rfl rfl rfl cw_X3_init (by decide +kernel) rfl k_X3 (fun _ h => h) ⟨by decide, by decide, by decide⟩ (fun v M' n' h => h.2.2) ?_
  rintro v M' n' ⟨rfl, rfl, rfl⟩
  dsimp only [Option.toList, List.nil_append, Nat.add_zero]
  refine xGh_run 3 rfl (by repeat' (first | exact trivial | assumption | exact xob_b rfl | exact xal_b rfl | exact xar_b rfl _ rfl (by decide) (by decide) | (apply And.intro) | decide)) ?_
  try dsimp only [xsto1, xsto2, xkill, xget, xset, gd_0, gd_s]
  change xGh κ xAO _ _ (69, [some (.ref 28), some (.int 9)], [], puF (mA_28 M) 29 33 9, 42, true, 13, 107) _
  refine xGh_run 4 rfl (by repeat' (first | exact trivial | assumption | exact xob_b rfl | exact xal_b rfl | exact xar_b rfl _ rfl (by decide) (by decide) | (apply And.intro) | decide)) ?_
  try dsimp only [xsto1, xsto2, xkill, xget, xset, gd_0, gd_s]
  refine xGh_brF rfl (by decide) ?_
  refine xGh_run 3 rfl (by repeat' (first | exact trivial | assumption | exact xob_b rfl | exact xal_b rfl | exact xar_b rfl _ rfl (by decide) (by decide) | (apply And.intro) | decide)) ?_
  try dsimp only [xsto1, xsto2, xkill, xget, xset, gd_0, gd_s]
  refine xGh_new (n' := 43) (k1' := 14) (k2' := 115) (cid := 3) rfl rfl rfl rfl rfl gwc_1_9 gwn_3 gwi_3 rfl (by decide) (by decide) ?_
  refine xGh_run 1 rfl (by repeat' (first | exact trivial | assumption | exact xob_b rfl | exact xal_b rfl | exact xar_b rfl _ rfl (by decide) (by decide) | (apply And.intro) | decide)) ?_
  try dsimp only [xsto1, xsto2, xkill, xget, xset, gd_0, gd_s]
  refine xGh_initN (my := mX3_init) (r' := (0, 0, 0)) rfl rfl rfl rfl rfl cw_X3_init (by decide +kernel) rfl k_X3 (fun _ h => h) ⟨by decide, by decide, by decide⟩ (fun v M' n' h => h.2.2) ?_
  rintro v M' n' ⟨rfl, rfl, rfl⟩
  dsimp only [Option.toList, List.nil_append, Nat.add_zero]
  refine xGh_run 3 rfl (by repeat' (first | exact trivial | assumption | exact xob_b rfl | exact xal_b rfl | exact xar_b rfl _ rfl (by decide) (by decide) | (apply And.intro) | decide)) ?_
  try dsimp only [xsto1, xsto2, xkill, xget, xset, gd_0, gd_s]
  change xGh κ xAO _ _ (69, [some (.ref 28), some (.int 10)], [], puF (mA_28 M) 29 33 10, 43, true, 14, 115) _
  refine xGh_run 4 rfl (by repeat' (first | exact trivial | assumption | exact xob_b rfl | exact xal_b rfl | exact xar_b rfl _ rfl (by decide) (by decide) | (apply And.intro) | decide)) ?_
  try dsimp only [xsto1, xsto2, xkill, xget, xset, gd_0, gd_s]
  refine xGh_brT rfl (by decide) ?_
  refine xGh_run 6 rfl (by repeat' (first | exact trivial | assumption | exact xob_b rfl | exact xal_b rfl | exact xar_b rfl _ rfl (by decide) (by decide) | (apply And.intro) | decide)) ?_
  try dsimp only [xsto1, xsto2, xkill, xget, xset, gd_0, gd_s]
  refine xGh_brF rfl (by decide) ?_
  refine xGh_run 3 rfl (by repeat' (first | exact trivial | assumption | exact xob_b rfl | exact xal_b rfl | exact xar_b rfl _ rfl (by decide) (by decide) | (apply And.intro) | decide)) ?_
  try dsimp only [xsto1, xsto2, xkill, xget, xset, gd_0, gd_s]
  refine xGh_new (n' := 44) (k1' := 15) (k2' := 122) (cid := 5) rfl rfl rfl rfl rfl gwc_1_17 gwn_5 gwi_5 rfl (by decide) (by decide) ?_
  refine xGh_run 1 rfl (by repeat' (first | exact trivial | assumption | exact xob_b rfl | exact xal_b rfl | exact xar_b rfl _ rfl (by decide) (by decide) | (apply And.intro) | decide)) ?_
  try dsimp only [xsto1, xsto2, xkill, xget, xset, gd_0, gd_s]
  refine xGh_initN (my := mX5_init) (r' := (0, 0, 0)) rfl rfl rfl rfl rfl cw_X5_init (by decide +kernel) rfl k_X5 (fun _ h => h) ⟨by decide, by decide, by decide⟩ (fun v M' n' h => h.2.2) ?_
  rintro v M' n' ⟨rfl, rfl, rfl⟩
  dsimp only [Option.toList, List.nil_append, Nat.add_zero]
  refine xGh_run 3 rfl (by repeat' (first | exact trivial | assumption | exact xob_b rfl | exact xal_b rfl | exact xar_b rfl _ rfl (by decide) (by decide) | (apply And.intro) | decide)) ?_
  try dsimp only [xsto1, xsto2, xkill, xget, xset, gd_0, gd_s]
  change xGh κ xAO _ _ (99, [some (.ref 28), some (.int 1)], [], puF (puF (mA_28 M) 29 33 10) 30 43 1, 44, true, 15, 122) _
  refine xGh_run 4 rfl (by repeat' (first | exact trivial | assumption | exact xob_b rfl | exact xal_b rfl | exact xar_b rfl _ rfl (by decide) (by decide) | (apply And.intro) | decide)) ?_
  try dsimp only [xsto1, xsto2, xkill, xget, xset, gd_0, gd_s]
  refine xGh_brF rfl (by decide) ?_
  refine xGh_run 3 rfl (by repeat' (first | exact trivial | assumption | exact xob_b rfl | exact xal_b rfl | exact xar_b rfl _ rfl (by decide) (by decide) | (apply And.intro) | decide)) ?_
  try dsimp only [xsto1, xsto2, xkill, xget, xset, gd_0, gd_s]
  refine xGh_new (n' := 45) (k1' := 16) (k2' := 129) (cid := 5) rfl rfl rfl rfl rfl gwc_1_17 gwn_5 gwi_5 rfl (by decide) (by decide) ?_
  refine xGh_run 1 rfl (by repeat' (first | exact trivial | assumption | exact xob_b rfl | exact xal_b rfl | exact xar_b rfl _ rfl (by decide) (by decide) | (apply And.intro) | decide)) ?_
  try dsimp only [xsto1, xsto2, xkill, xget, xset, gd_0, gd_s]
  refine xGh_initN (my := mX5_init) (r' := (0, 0, 0)) rfl rfl rfl rfl rfl cw_X5_init (by decide +kernel) rfl k_X5 (fun _ h => h) ⟨by decide, by decide, by decide⟩ (fun v M' n' h => h.2.2) ?_
  rintro v M' n' ⟨rfl, rfl, rfl⟩
  dsimp only [Option.toList, List.nil_append, Nat.add_zero]
  refine xGh_run 3 rfl (by repeat' (first | exact trivial | assumption | exact xob_b rfl | exact xal_b rfl | exact xar_b rfl _ rfl (by decide) (by decide) | (apply And.intro) | decide)) ?_
  try dsimp only [xsto1, xsto2, xkill, xget, xset, gd_0, gd_s]
  change xGh κ xAO _ _ (99, [some (.ref 28), some (.int 2)], [], puF (puF (mA_28 M) 29 33 10) 30 43 2, 45, true, 16, 129) _
  refine xGh_run 4 rfl (by repeat' (first | exact trivial | assumption | exact xob_b rfl | exact xal_b rfl | exact xar_b rfl _ rfl (by decide) (by decide) | (apply And.intro) | decide)) ?_
  try dsimp only [xsto1, xsto2, xkill, xget, xset, gd_0, gd_s]
  refine xGh_brF rfl (by decide) ?_
  refine xGh_run 3 rfl (by repeat' (first | exact trivial | assumption | exact xob_b rfl | exact xal_b rfl | exact xar_b rfl _ rfl (by decide) (by decide) | (apply And.intro) | decide)) ?_
  try dsimp only [xsto1, xsto2, xkill, xget, xset, gd_0, gd_s]
  refine xGh_new (n' := 46) (k1' := 17) (k2' := 136) (cid := 5) rfl rfl rfl rfl rfl gwc_1_17 gwn_5 gwi_5 rfl (by decide) (by decide) ?_
  refine xGh_run 1 rfl (by repeat' (first | exact trivial | assumption | exact xob_b rfl | exact xal_b rfl | exact xar_b rfl _ rfl (by decide) (by decide) | (apply And.intro) | decide)) ?_
  try dsimp only [xsto1, xsto2, xkill, xget, xset, gd_0, gd_s]
  refine xGh_initN (my := mX5_init) (r' := (0, 0, 0)) rfl rfl rfl rfl rfl cw_X5_init (by decide +kernel) rfl k_X5 (fun _ h => h) ⟨by decide, by decide, by decide⟩ (fun v M' n' h => h.2.2) ?_
  rintro v M' n' ⟨rfl, rfl, rfl⟩
  dsimp only [Option.toList, List.nil_append, Nat.add_zero]
  refine xGh_run 3 rfl (by repeat' (first | exact trivial | assumption | exact xob_b rfl | exact xal_b rfl | exact xar_b rfl _ rfl (by decide) (by decide) | (apply And.intro) | decide)) ?_
  try dsimp only [xsto1, xsto2, xkill, xget, xset, gd_0, gd_s]
  change xGh κ xAO _ _ (99, [some (.ref 28), some (.int 3)], [], puF (puF (mA_28 M) 29 33 10) 30 43 3, 46, true, 17, 136) _
  refine xGh_run 4 rfl (by repeat' (first | exact trivial | assumption | exact xob_b rfl | exact xal_b rfl | exact xar_b rfl _ rfl (by decide) (by decide) | (apply And.intro) | decide)) ?_
  try dsimp only [xsto1, xsto2, xkill, xget, xset, gd_0, gd_s]
  refine xGh_brF rfl (by decide) ?_
  refine xGh_run 3 rfl (by repeat' (first | exact trivial | assumption | exact xob_b rfl | exact xal_b rfl | exact xar_b rfl _ rfl (by decide) (by decide) | (apply And.intro) | decide)) ?_
  try dsimp only [xsto1, xsto2, xkill, xget, xset, gd_0, gd_s]
  refine xGh_new (n' := 47) (k1' := 18) (k2' := 143) (cid := 5) rfl rfl rfl rfl rfl gwc_1_17 gwn_5 gwi_5 rfl (by decide) (by decide) ?_
  refine xGh_run 1 rfl (by repeat' (first | exact trivial | assumption | exact xob_b rfl | exact xal_b rfl | exact xar_b rfl _ rfl (by decide) (by decide) | (apply And.intro) | decide)) ?_
  try dsimp only [xsto1, xsto2, xkill, xget, xset, gd_0, gd_s]
  refine xGh_initN (my := mX5_init) (r' := (0, 0, 0)) rfl rfl rfl rfl rfl cw_X5_init (by decide +kernel) rfl k_X5 (fun _ h => h) ⟨by decide, by decide, by decide⟩ (fun v M' n' h => h.2.2) ?_
  rintro v M' n' ⟨rfl, rfl, rfl⟩
  dsimp only [Option.toList, List.nil_append, Nat.add_zero]
  refine xGh_run 3 rfl (by repeat' (first | exact trivial | assumption | exact xob_b rfl | exact xal_b rfl | exact xar_b rfl _ rfl (by decide) (by decide) | (apply And.intro) | decide)) ?_
  try dsimp only [xsto1, xsto2, xkill, xget, xset, gd_0, gd_s]
  change xGh κ xAO _ _ (99, [some (.ref 28), some (.int 4)], [], puF (puF (mA_28 M) 29 33 10) 30 43 4, 47, true, 18, 143) _
  refine xGh_run 4 rfl (by repeat' (first | exact trivial | assumption | exact xob_b rfl | exact xal_b rfl | exact xar_b rfl _ rfl (by decide) (by decide) | (apply And.intro) | decide)) ?_
  try dsimp only [xsto1, xsto2, xkill, xget, xset, gd_0, gd_s]
  refine xGh_brF rfl (by decide) ?_
  refine xGh_run 3 rfl (by repeat' (first | exact trivial | assumption | exact xob_b rfl | exact xal_b rfl | exact xar_b rfl _ rfl (by decide) (by decide) | (apply And.intro) | decide)) ?_
  try dsimp only [xsto1, xsto2, xkill, xget, xset, gd_0, gd_s]
  refine xGh_new (n' := 48) (k1' := 19) (k2' := 150) (cid := 5) rfl rfl rfl rfl rfl gwc_1_17 gwn_5 gwi_5 rfl (by decide) (by decide) ?_
  refine xGh_run 1 rfl (by repeat' (first | exact trivial | assumption | exact xob_b rfl | exact xal_b rfl | exact xar_b rfl _ rfl (by decide) (by decide) | (apply And.intro) | decide)) ?_
  try dsimp only [xsto1, xsto2, xkill, xget, xset, gd_0, gd_s]
  refine xGh_initN (my := mX5_init) (r' := (0, 0, 0)) rfl rfl rfl rfl rfl cw_X5_init (by decide +kernel) rfl k_X5 (fun _ h => h) ⟨by decide, by decide, by decide⟩ (fun v M' n' h => h.2.2) ?_
  rintro v M' n' ⟨rfl, rfl, rfl⟩
  dsimp only [Option.toList, List.nil_append, Nat.add_zero]
  refine xGh_run 3 rfl (by repeat' (first | exact trivial | assumption | exact xob_b rfl | exact xal_b rfl | exact xar_b rfl _ rfl (by decide) (by decide) | (apply And.intro) | decide)) ?_
  try dsimp only [xsto1, xsto2, xkill, xget, xset, gd_0, gd_s]
  change xGh κ xAO _ _ (99, [some (.ref 28), some (.int 5)], [], puF (puF (mA_28 M) 29 33 10) 30 43 5, 48, true, 19, 150) _
  refine xGh_run 4 rfl (by repeat' (first | exact trivial | assumption | exact xob_b rfl | exact xal_b rfl | exact xar_b rfl _ rfl (by decide) (by decide) | (apply And.intro) | decide)) ?_
  try dsimp only [xsto1, xsto2, xkill, xget, xset, gd_0, gd_s]
  refine xGh_brF rfl (by decide) ?_
  refine xGh_run 3 rfl (by repeat' (first | exact trivial | assumption | exact xob_b rfl | exact xal_b rfl | exact xar_b rfl _ rfl (by decide) (by decide) | (apply And.intro) | decide)) ?_
  try dsimp only [xsto1, xsto2, xkill, xget, xset, gd_0, gd_s]
  refine xGh_new (n' := 49) (k1' := 20) (k2' := 157) (cid := 5) rfl rfl rfl rfl rfl gwc_1_17 gwn_5 gwi_5 rfl (by decide) (by decide) ?_
  refine xGh_run 1 rfl (by repeat' (first | exact trivial | assumption | exact xob_b rfl | exact xal_b rfl | exact xar_b rfl _ rfl (by decide) (by decide) | (apply And.intro) | decide)) ?_
  try dsimp only [xsto1, xsto2, xkill, xget, xset, gd_0, gd_s]
  refine xGh_initN (my := mX5_init) (r' := (0, 0, 0)) rfl rfl rfl rfl rfl cw_X5_init (by decide +kernel) rfl k_X5 (fun _ h => h) ⟨by decide, by decide, by decide⟩ (fun v M' n' h => h.2.2) ?_
  rintro v M' n' ⟨rfl, rfl, rfl⟩
  dsimp only [Option.toList, List.nil_append, Nat.add_zero]
  refine xGh_run 3 rfl (by repeat' (first | exact trivial | assumption | exact xob_b rfl | exact xal_b rfl | exact xar_b rfl _ rfl (by decide) (by decide) | (apply And.intro) | decide)) ?_
  try dsimp only [xsto1, xsto2, xkill, xget, xset, gd_0, gd_s]
  change xGh κ xAO _ _ (99, [some (.ref 28), some (.int 6)], [], puF (puF (mA_28 M) 29 33 10) 30 43 6, 49, true, 20, 157) _
  refine xGh_run 4 rfl (by repeat' (first | exact trivial | assumption | exact xob_b rfl | exact xal_b rfl | exact xar_b rfl _ rfl (by decide) (by decide) | (apply And.intro) | decide)) ?_
  try dsimp only [xsto1, xsto2, xkill, xget, xset, gd_0, gd_s]
  refine xGh_brF rfl (by decide) ?_
  refine xGh_run 3 rfl (by repeat' (first | exact trivial | assumption | exact xob_b rfl | exact xal_b rfl | exact xar_b rfl _ rfl (by decide) (by decide) | (apply And.intro) | decide)) ?_
  try dsimp only [xsto1, xsto2, xkill, xget, xset, gd_0, gd_s]
  refine xGh_new (n' := 50) (k1' := 21) (k2' := 164) (cid := 5) rfl rfl rfl rfl rfl gwc_1_17 gwn_5 gwi_5 rfl (by decide) (by decide) ?_
  refine xGh_run 1 rfl (by repeat' (first | exact trivial | assumption | exact xob_b rfl | exact xal_b rfl | exact xar_b rfl _ rfl (by decide) (by decide) | (apply And.intro) | decide)) ?_
  try dsimp only [xsto1, xsto2, xkill, xget, xset, gd_0, gd_s]
  refine xGh_initN (my := mX5_init) (r' := (0, 0, 0)) rfl rfl rfl rfl rfl cw_X5_init (by decide +kernel) rfl k_X5 (fun _ h => h) ⟨by decide, by decide, by decide⟩ (fun v M' n' h => h.2.2) ?_
  rintro v M' n' ⟨rfl, rfl, rfl⟩
  dsimp only [Option.toList, List.nil_append, Nat.add_zero]
  refine xGh_run 3 rfl (by repeat' (first | exact trivial | assumption | exact xob_b rfl | exact xal_b rfl | exact xar_b rfl _ rfl (by decide) (by decide) | (apply And.intro) | decide)) ?_
  try dsimp only [xsto1, xsto2, xkill, xget, xset, gd_0, gd_s]
  change xGh κ xAO _ _ (99, [some (.ref 28), some (.int 7)], [], puF (puF (mA_28 M) 29 33 10) 30 43 7, 50, true, 21, 164) _
  refine xGh_run 4 rfl (by repeat' (first | exact trivial | assumption | exact xob_b rfl | exact xal_b rfl | exact xar_b rfl _ rfl (by decide) (by decide) | (apply And.intro) | decide)) ?_
  try dsimp only [xsto1, xsto2, xkill, xget, xset, gd_0, gd_s]
  refine xGh_brF rfl (by decide) ?_
  refine xGh_run 3 rfl (by repeat' (first | exact trivial | assumption | exact xob_b rfl | exact xal_b rfl | exact xar_b rfl _ rfl (by decide) (by decide) | (apply And.intro) | decide)) ?_
  try dsimp only [xsto1, xsto2, xkill, xget, xset, gd_0, gd_s]
  refine xGh_new (n' := 51) (k1' := 22) (k2' := 171) (cid := 5) rfl rfl rfl rfl rfl gwc_1_17 gwn_5 gwi_5 rfl (by decide) (by decide) ?_
  refine xGh_run 1 rfl (by repeat' (first | exact trivial | assumption | exact xob_b rfl | exact xal_b rfl | exact xar_b rfl _ rfl (by decide) (by decide) | (apply And.intro) | decide)) ?_
  try dsimp only [xsto1, xsto2, xkill, xget, xset, gd_0, gd_s]
  refine xGh_initN (my := mX5_init) (r' := (0, 0, 0)) rfl rfl rfl rfl rfl cw_X5_init (by decide +kernel) rfl k_X5 (fun _ h => h) ⟨by decide, by decide, by decide⟩ (fun v M' n' h => h.2.2) ?_
  rintro v M' n' ⟨rfl, rfl, rfl⟩
  dsimp only [Option.toList, List.nil_append, Nat.add_zero]
  refine xGh_run 3 rfl (by repeat' (first | exact trivial | assumption | exact xob_b rfl | exact xal_b rfl | exact xar_b rfl _ rfl (by decide) (by decide) | (apply And.intro) | decide)) ?_
  try dsimp only [xsto1, xsto2, xkill, xget, xset, gd_0, gd_s]
  change xGh κ xAO _ _ (99, [some (.ref 28), some (.int 8)], [], puF (puF (mA_28 M) 29 33 10) 30 43 8, 51, true, 22, 171) _
  refine xGh_run 4 rfl (by repeat' (first | exact trivial | assumption | exact xob_b rfl | exact xal_b rfl | exact xar_b rfl _ rfl (by decide) (by decide) | (apply And.intro) | decide)) ?_
  try dsimp only [xsto1, xsto2, xkill, xget, xset, gd_0, gd_s]
  refine xGh_brF rfl (by decide) ?_
  refine xGh_run 3 rfl (by repeat' (first | exact trivial | assumption | exact xob_b rfl | exact xal_b rfl | exact xar_b rfl _ rfl (by decide) (by decide) | (apply And.intro) | decide)) ?_
  try dsimp only [xsto1, xsto2, xkill, xget, xset, gd_0, gd_s]
  refine xGh_new (n' := 52) (k1' := 23) (k2' := 178) (cid := 5) rfl rfl rfl rfl rfl gwc_1_17 gwn_5 gwi_5 rfl (by decide) (by decide) ?_
  refine xGh_run 1 rfl (by repeat' (first | exact trivial | assumption | exact xob_b rfl | exact xal_b rfl | exact xar_b rfl _ rfl (by decide) (by decide) | (apply And.intro) | decide)) ?_
  try dsimp only [xsto1, xsto2, xkill, xget, xset, gd_0, gd_s]
  refine xGh_initN (my := mX5_init) (r' := (0, 0, 0)) rfl rfl rfl rfl rfl cw_X5_init (by decide +kernel) rfl k_X5 (fun _ h => h) ⟨by decide, by decide, by decide⟩ (fun v M' n' h => h.2.2) ?_
  rintro v M' n' ⟨rfl, rfl, rfl⟩
  dsimp only [Option.toList, List.nil_append, Nat.add_zero]
  refine xGh_run 3 rfl (by repeat' (first | exact trivial | assumption | exact xob_b rfl | exact xal_b rfl | exact xar_b rfl _ rfl (by decide) (by decide) | (apply And.intro) | decide)) ?_
  try dsimp only [xsto1, xsto2, xkill, xget, xset, gd_0, gd_s]
  change xGh κ xAO _ _ (99, [some (.ref 28), some (.int 9)], [], puF (puF (mA_28 M) 29 33 10) 30 43 9, 52, true, 23, 178) _
  refine xGh_run 4 rfl (by repeat' (first | exact trivial | assumption | exact xob_b rfl | exact xal_b rfl | exact xar_b rfl _ rfl (by decide) (by decide) | (apply And.intro) | decide)) ?_
  try dsimp only [xsto1, xsto2, xkill, xget, xset, gd_0, gd_s]
  refine xGh_brF rfl (by decide) ?_
  refine xGh_run 3 rfl (by repeat' (first | exact trivial | assumption | exact xob_b rfl | exact xal_b rfl | exact xar_b rfl _ rfl (by decide) (by decide) | (apply And.intro) | decide)) ?_
  try dsimp only [xsto1, xsto2, xkill, xget, xset, gd_0, gd_s]
  refine xGh_new (n' := 53) (k1' := 24) (k2' := 185) (cid := 5) rfl rfl rfl rfl rfl gwc_1_17 gwn_5 gwi_5 rfl (by decide) (by decide) ?_
  refine xGh_run 1 rfl (by repeat' (first | exact trivial | assumption | exact xob_b rfl | exact xal_b rfl | exact xar_b rfl _ rfl (by decide) (by decide) | (apply And.intro) | decide)) ?_
  try dsimp only [xsto1, xsto2, xkill, xget, xset, gd_0, gd_s]
  refine xGh_initN (my := mX5_init) (r' := (0, 0, 0)) rfl rfl rfl rfl rfl cw_X5_init (by decide +kernel) rfl k_X5 (fun _ h => h) ⟨by decide, by decide, by decide⟩ (fun v M' n' h => h.2.2) ?_
  rintro v M' n' ⟨rfl, rfl, rfl⟩
  dsimp only [Option.toList, List.nil_append, Nat.add_zero]
  refine xGh_run 3 rfl (by repeat' (first | exact trivial | assumption | exact xob_b rfl | exact xal_b rfl | exact xar_b rfl _ rfl (by decide) (by decide) | (apply And.intro) | decide)) ?_
  try dsimp only [xsto1, xsto2, xkill, xget, xset, gd_0, gd_s]
  change xGh κ xAO _ _ (99, [some (.ref 28), some (.int 10)], [], puF (puF (mA_28 M) 29 33 10) 30 43 10, 53, true, 24, 185) _
  refine xGh_run 4 rfl (by repeat' (first | exact trivial | assumption | exact xob_b rfl | exact xal_b rfl | exact xar_b rfl _ rfl (by decide) (by decide) | (apply And.intro) | decide)) ?_
  try dsimp only [xsto1, xsto2, xkill, xget, xset, gd_0, gd_s]
  refine xGh_brF rfl (by decide) ?_
  refine xGh_run 3 rfl (by repeat' (first | exact trivial | assumption | exact xob_b rfl | exact xal_b rfl | exact xar_b rfl _ rfl (by decide) (by decide) | (apply And.intro) | decide)) ?_
  try dsimp only [xsto1, xsto2, xkill, xget, xset, gd_0, gd_s]
  refine xGh_new (n' := 54) (k1' := 25) (k2' := 192) (cid := 5) rfl rfl rfl rfl rfl gwc_1_17 gwn_5 gwi_5 rfl (by decide) (by decide) ?_
  refine xGh_run 1 rfl (by repeat' (first | exact trivial | assumption | exact xob_b rfl | exact xal_b rfl | exact xar_b rfl _ rfl (by decide) (by decide) | (apply And.intro) | decide)) ?_
  try dsimp only [xsto1, xsto2, xkill, xget, xset, gd_0, gd_s]
  refine xGh_initN (my := mX5_init) (r' := (0, 0, 0)) rfl rfl rfl rfl rfl cw_X5_init (by decide +kernel) rfl k_X5 (fun _ h => h) ⟨by decide, by decide, by decide⟩ (fun v M' n' h => h.2.2) ?_
  rintro v M' n' ⟨rfl, rfl, rfl⟩
  dsimp only [Option.toList, List.nil_append, Nat.add_zero]
  refine xGh_run 3 rfl (by repeat' (first | exact trivial | assumption | exact xob_b rfl | exact xal_b rfl | exact xar_b rfl _ rfl (by decide) (by decide) | (apply And.intro) | decide)) ?_
  try dsimp only [xsto1, xsto2, xkill, xget, xset, gd_0, gd_s]
  change xGh κ xAO _ _ (99, [some (.ref 28), some (.int 11)], [], puF (puF (mA_28 M) 29 33 10) 30 43 11, 54, true, 25, 192) _
  refine xGh_run 4 rfl (by repeat' (first | exact trivial | assumption | exact xob_b rfl | exact xal_b rfl | exact xar_b rfl _ rfl (by decide) (by decide) | (apply And.intro) | decide)) ?_
  try dsimp only [xsto1, xsto2, xkill, xget, xset, gd_0, gd_s]
  refine xGh_brF rfl (by decide) ?_
  refine xGh_run 3 rfl (by repeat' (first | exact trivial | assumption | exact xob_b rfl | exact xal_b rfl | exact xar_b rfl _ rfl (by decide) (by decide) | (apply And.intro) | decide)) ?_
  try dsimp only [xsto1, xsto2, xkill, xget, xset, gd_0, gd_s]
  refine xGh_new (n' := 55) (k1' := 26) (k2' := 199) (cid := 5) rfl rfl rfl rfl rfl gwc_1_17 gwn_5 gwi_5 rfl (by decide) (by decide) ?_
  refine xGh_run 1 rfl (by repeat' (first | exact trivial | assumption | exact xob_b rfl | exact xal_b rfl | exact xar_b rfl _ rfl (by decide) (by decide) | (apply And.intro) | decide)) ?_
  try dsimp only [xsto1, xsto2, xkill, xget, xset, gd_0, gd_s]
  refine xGh_initN (my := mX5_init) (r' := (0, 0, 0)) rfl rfl rfl rfl rfl cw_X5_init (by decide +kernel) rfl k_X5 (fun _ h => h) ⟨by decide, by decide, by decide⟩ (fun v M' n' h => h.2.2) ?_
  rintro v M' n' ⟨rfl, rfl, rfl⟩
  dsimp only [Option.toList, List.nil_append, Nat.add_zero]
  refine xGh_run 3 rfl (by repeat' (first | exact trivial | assumption | exact xob_b rfl | exact xal_b rfl | exact xar_b rfl _ rfl (by decide) (by decide) | (apply And.intro) | decide)) ?_
  try dsimp only [xsto1, xsto2, xkill, xget, xset, gd_0, gd_s]
  change xGh κ xAO _ _ (99, [some (.ref 28), some (.int 12)], [], puF (puF (mA_28 M) 29 33 10) 30 43 12, 55, true, 26, 199) _
  refine xGh_run 4 rfl (by repeat' (first | exact trivial | assumption | exact xob_b rfl | exact xal_b rfl | exact xar_b rfl _ rfl (by decide) (by decide) | (apply And.intro) | decide)) ?_
  try dsimp only [xsto1, xsto2, xkill, xget, xset, gd_0, gd_s]
  refine xGh_brT rfl (by decide) ?_
  refine xGh_done ⟨_, rfl, rfl, Or.inr (Or.inr (Or.inr ⟨rfl, rfl, rfl, ?_⟩))⟩
  exact mA_ok_28 hb
def mA_75 (M : xM) : xM := sP (zN (sP (sI (sI (sI (sI (sI (zN (sI (sP (zN (sP (zN (M) 76) 75 0 (some 76)) 77) 75 2 (some 77)) 75 6 1) 78) 78 0 100) 78 1 100) 78 2 100) 78 3 100) 78 4 100) 75 7 (some 78)) 79) 75 8 (some 79)
set_option maxRecDepth 8000 in
set_option maxHeartbeats 4000000 in
theorem mA_ok_75 {M : xM} (hb : bl M 75) : cnP M 75 102 none (puF (puF (mA_75 M) 76 80 10) 77 90 12) 102 := by
  refine ⟨rfl, rfl, fun x k hx => ⟨?_, ?_, ?_⟩, fun x hx1 hx2 => ?_⟩
  · rw [gIpuF, if_neg (by omega), gIpuF, if_neg (by omega)]; unfold mA_75; simp (disch := omega) only [gIzN, gIsP, gIsI, gIsJ, gJzN, gJsP, gJsI, gJsJ, gPzN, gPsI, gPsJ, gPsP, gIzG, gJzG, gPzG, if_neg]
  · rw [gJpuF, if_neg (by omega), gJpuF, if_neg (by omega)]; unfold mA_75; simp (disch := omega) only [gIzN, gIsP, gIsI, gIsJ, gJzN, gJsP, gJsI, gJsJ, gPzN, gPsI, gPsJ, gPsP, gIzG, gJzG, gPzG, if_neg]
  · rw [gPpuF _ _ _ _ _ (by omega), if_neg (by omega), if_neg (by omega), gPpuF _ _ _ _ _ (by omega), if_neg (by omega), if_neg (by omega)]; unfold mA_75; simp (disch := omega) only [gIzN, gIsP, gIsI, gIsJ, gJzN, gJsP, gJsI, gJsJ, gPzN, gPsI, gPsJ, gPsP, gIzG, gJzG, gPzG, if_neg]
  · by_cases hc : 80 ≤ x
    · have e1 : ∀ k, gI (puF (puF (mA_75 M) 76 80 10) 77 90 12) x k = 0 := fun k => by
        rw [gIpuF]
        by_cases h2 : 90 ≤ x ∧ x < 90 + 12
        · rw [if_pos h2]
        · rw [if_neg h2, gIpuF, if_pos (by omega)]
      have e2 : ∀ k, gJ (puF (puF (mA_75 M) 76 80 10) 77 90 12) x k = 0 := fun k => by
        rw [gJpuF]
        by_cases h2 : 90 ≤ x ∧ x < 90 + 12
        · rw [if_pos h2]
        · rw [if_neg h2, gJpuF, if_pos (by omega)]
      have e3 : (∀ k, iI x k = 0) ∧ pl x = [] := by
        obtain rfl | rfl | rfl | rfl | rfl | rfl | rfl | rfl | rfl | rfl | rfl | rfl | rfl | rfl | rfl | rfl | rfl | rfl | rfl | rfl | rfl | rfl : x = 80 ∨ x = 81 ∨ x = 82 ∨ x = 83 ∨ x = 84 ∨ x = 85 ∨ x = 86 ∨ x = 87 ∨ x = 88 ∨ x = 89 ∨ x = 90 ∨ x = 91 ∨ x = 92 ∨ x = 93 ∨ x = 94 ∨ x = 95 ∨ x = 96 ∨ x = 97 ∨ x = 98 ∨ x = 99 ∨ x = 100 ∨ x = 101 := by omega
        all_goals exact ⟨fun _ => rfl, rfl⟩
      exact ⟨fun k => (e1 k).trans (e3.1 k).symm, e2, by rw [e3.2]; exact fun _ h => absurd h List.not_mem_nil⟩
    · obtain rfl | rfl | rfl | rfl | rfl : x = 75 ∨ x = 76 ∨ x = 77 ∨ x = 78 ∨ x = 79 := by omega
      · refine ⟨fun k => ?_, fun k => ?_, ?_⟩
        · rw [gIpuF, if_neg (by omega), gIpuF, if_neg (by omega)]
          show _ = (bif Nat.beq k 6 then (1 : Int32) else 0)
          by_cases hk : k = 6
          · subst hk; unfold mA_75; simp [gIzN, gIsP, gIsI, gIsJ, gJzN, gJsP, gJsI, gJsJ, gPzN, gPsI, gPsJ, gPsP, gIzG, gJzG, gPzG]
          · rw [beq_ne hk]; unfold mA_75; simp [gIzN, gIsP, gIsI, gIsJ, gJzN, gJsP, gJsI, gJsJ, gPzN, gPsI, gPsJ, gPsP, gIzG, gJzG, gPzG, hk, hb k]
        · rw [gJpuF, if_neg (by omega), gJpuF, if_neg (by omega)]; unfold mA_75; simp [gIzN, gIsP, gIsI, gIsJ, gJzN, gJsP, gJsI, gJsJ, gPzN, gPsI, gPsJ, gPsP, gIzG, gJzG, gPzG, hb k]
        · show ∀ k ∈ ([0, 2, 7, 8] : List Nat), _
          refine List.forall_mem_cons.mpr ⟨?_, ?_⟩
          · show _ = some 76
            rw [gPpuF _ _ _ _ _ (by omega), gPpuF _ _ _ _ _ (by omega)]; unfold mA_75; simp [gIzN, gIsP, gIsI, gIsJ, gJzN, gJsP, gJsI, gJsJ, gPzN, gPsI, gPsJ, gPsP, gIzG, gJzG, gPzG]
          refine List.forall_mem_cons.mpr ⟨?_, ?_⟩
          · show _ = some 77
            rw [gPpuF _ _ _ _ _ (by omega), gPpuF _ _ _ _ _ (by omega)]; unfold mA_75; simp [gIzN, gIsP, gIsI, gIsJ, gJzN, gJsP, gJsI, gJsJ, gPzN, gPsI, gPsJ, gPsP, gIzG, gJzG, gPzG]
          refine List.forall_mem_cons.mpr ⟨?_, ?_⟩
          · show _ = some 78
            rw [gPpuF _ _ _ _ _ (by omega), gPpuF _ _ _ _ _ (by omega)]; unfold mA_75; simp [gIzN, gIsP, gIsI, gIsJ, gJzN, gJsP, gJsI, gJsJ, gPzN, gPsI, gPsJ, gPsP, gIzG, gJzG, gPzG]
          refine List.forall_mem_cons.mpr ⟨?_, ?_⟩
          · show _ = some 79
            rw [gPpuF _ _ _ _ _ (by omega), gPpuF _ _ _ _ _ (by omega)]; unfold mA_75; simp [gIzN, gIsP, gIsI, gIsJ, gJzN, gJsP, gJsI, gJsJ, gPzN, gPsI, gPsJ, gPsP, gIzG, gJzG, gPzG]
          exact List.forall_mem_nil _
      · refine ⟨fun k => ?_, fun k => ?_, ?_⟩
        · rw [gIpuF, if_neg (by omega), gIpuF, if_neg (by omega)]
          show _ = (0 : Int32)
          unfold mA_75; simp [gIzN, gIsP, gIsI, gIsJ, gJzN, gJsP, gJsI, gJsJ, gPzN, gPsI, gPsJ, gPsP, gIzG, gJzG, gPzG]
        · rw [gJpuF, if_neg (by omega), gJpuF, if_neg (by omega)]; unfold mA_75; simp [gIzN, gIsP, gIsI, gIsJ, gJzN, gJsP, gJsI, gJsJ, gPzN, gPsI, gPsJ, gPsP, gIzG, gJzG, gPzG, hb k]
        · show ∀ k ∈ ([0, 1, 2, 3, 4, 5, 6, 7, 8, 9] : List Nat), _
          refine List.forall_mem_cons.mpr ⟨?_, ?_⟩
          · show _ = some 80
            rw [gPpuF _ _ _ _ _ (by omega), gPpuF _ _ _ _ _ (by omega)]; unfold mA_75; simp [gIzN, gIsP, gIsI, gIsJ, gJzN, gJsP, gJsI, gJsJ, gPzN, gPsI, gPsJ, gPsP, gIzG, gJzG, gPzG]
          refine List.forall_mem_cons.mpr ⟨?_, ?_⟩
          · show _ = some 81
            rw [gPpuF _ _ _ _ _ (by omega), gPpuF _ _ _ _ _ (by omega)]; unfold mA_75; simp [gIzN, gIsP, gIsI, gIsJ, gJzN, gJsP, gJsI, gJsJ, gPzN, gPsI, gPsJ, gPsP, gIzG, gJzG, gPzG]
          refine List.forall_mem_cons.mpr ⟨?_, ?_⟩
          · show _ = some 82
            rw [gPpuF _ _ _ _ _ (by omega), gPpuF _ _ _ _ _ (by omega)]; unfold mA_75; simp [gIzN, gIsP, gIsI, gIsJ, gJzN, gJsP, gJsI, gJsJ, gPzN, gPsI, gPsJ, gPsP, gIzG, gJzG, gPzG]
          refine List.forall_mem_cons.mpr ⟨?_, ?_⟩
          · show _ = some 83
            rw [gPpuF _ _ _ _ _ (by omega), gPpuF _ _ _ _ _ (by omega)]; unfold mA_75; simp [gIzN, gIsP, gIsI, gIsJ, gJzN, gJsP, gJsI, gJsJ, gPzN, gPsI, gPsJ, gPsP, gIzG, gJzG, gPzG]
          refine List.forall_mem_cons.mpr ⟨?_, ?_⟩
          · show _ = some 84
            rw [gPpuF _ _ _ _ _ (by omega), gPpuF _ _ _ _ _ (by omega)]; unfold mA_75; simp [gIzN, gIsP, gIsI, gIsJ, gJzN, gJsP, gJsI, gJsJ, gPzN, gPsI, gPsJ, gPsP, gIzG, gJzG, gPzG]
          refine List.forall_mem_cons.mpr ⟨?_, ?_⟩
          · show _ = some 85
            rw [gPpuF _ _ _ _ _ (by omega), gPpuF _ _ _ _ _ (by omega)]; unfold mA_75; simp [gIzN, gIsP, gIsI, gIsJ, gJzN, gJsP, gJsI, gJsJ, gPzN, gPsI, gPsJ, gPsP, gIzG, gJzG, gPzG]
          refine List.forall_mem_cons.mpr ⟨?_, ?_⟩
          · show _ = some 86
            rw [gPpuF _ _ _ _ _ (by omega), gPpuF _ _ _ _ _ (by omega)]; unfold mA_75; simp [gIzN, gIsP, gIsI, gIsJ, gJzN, gJsP, gJsI, gJsJ, gPzN, gPsI, gPsJ, gPsP, gIzG, gJzG, gPzG]
          refine List.forall_mem_cons.mpr ⟨?_, ?_⟩
          · show _ = some 87
            rw [gPpuF _ _ _ _ _ (by omega), gPpuF _ _ _ _ _ (by omega)]; unfold mA_75; simp [gIzN, gIsP, gIsI, gIsJ, gJzN, gJsP, gJsI, gJsJ, gPzN, gPsI, gPsJ, gPsP, gIzG, gJzG, gPzG]
          refine List.forall_mem_cons.mpr ⟨?_, ?_⟩
          · show _ = some 88
            rw [gPpuF _ _ _ _ _ (by omega), gPpuF _ _ _ _ _ (by omega)]; unfold mA_75; simp [gIzN, gIsP, gIsI, gIsJ, gJzN, gJsP, gJsI, gJsJ, gPzN, gPsI, gPsJ, gPsP, gIzG, gJzG, gPzG]
          refine List.forall_mem_cons.mpr ⟨?_, ?_⟩
          · show _ = some 89
            rw [gPpuF _ _ _ _ _ (by omega), gPpuF _ _ _ _ _ (by omega)]; unfold mA_75; simp [gIzN, gIsP, gIsI, gIsJ, gJzN, gJsP, gJsI, gJsJ, gPzN, gPsI, gPsJ, gPsP, gIzG, gJzG, gPzG]
          exact List.forall_mem_nil _
      · refine ⟨fun k => ?_, fun k => ?_, ?_⟩
        · rw [gIpuF, if_neg (by omega), gIpuF, if_neg (by omega)]
          show _ = (0 : Int32)
          unfold mA_75; simp [gIzN, gIsP, gIsI, gIsJ, gJzN, gJsP, gJsI, gJsJ, gPzN, gPsI, gPsJ, gPsP, gIzG, gJzG, gPzG]
        · rw [gJpuF, if_neg (by omega), gJpuF, if_neg (by omega)]; unfold mA_75; simp [gIzN, gIsP, gIsI, gIsJ, gJzN, gJsP, gJsI, gJsJ, gPzN, gPsI, gPsJ, gPsP, gIzG, gJzG, gPzG, hb k]
        · show ∀ k ∈ ([0, 1, 2, 3, 4, 5, 6, 7, 8, 9, 10, 11] : List Nat), _
          refine List.forall_mem_cons.mpr ⟨?_, ?_⟩
          · show _ = some 90
            rw [gPpuF _ _ _ _ _ (by omega), gPpuF _ _ _ _ _ (by omega)]; unfold mA_75; simp [gIzN, gIsP, gIsI, gIsJ, gJzN, gJsP, gJsI, gJsJ, gPzN, gPsI, gPsJ, gPsP, gIzG, gJzG, gPzG]
          refine List.forall_mem_cons.mpr ⟨?_, ?_⟩
          · show _ = some 91
            rw [gPpuF _ _ _ _ _ (by omega), gPpuF _ _ _ _ _ (by omega)]; unfold mA_75; simp [gIzN, gIsP, gIsI, gIsJ, gJzN, gJsP, gJsI, gJsJ, gPzN, gPsI, gPsJ, gPsP, gIzG, gJzG, gPzG]
          refine List.forall_mem_cons.mpr ⟨?_, ?_⟩
          · show _ = some 92
            rw [gPpuF _ _ _ _ _ (by omega), gPpuF _ _ _ _ _ (by omega)]; unfold mA_75; simp [gIzN, gIsP, gIsI, gIsJ, gJzN, gJsP, gJsI, gJsJ, gPzN, gPsI, gPsJ, gPsP, gIzG, gJzG, gPzG]
          refine List.forall_mem_cons.mpr ⟨?_, ?_⟩
          · show _ = some 93
            rw [gPpuF _ _ _ _ _ (by omega), gPpuF _ _ _ _ _ (by omega)]; unfold mA_75; simp [gIzN, gIsP, gIsI, gIsJ, gJzN, gJsP, gJsI, gJsJ, gPzN, gPsI, gPsJ, gPsP, gIzG, gJzG, gPzG]
          refine List.forall_mem_cons.mpr ⟨?_, ?_⟩
          · show _ = some 94
            rw [gPpuF _ _ _ _ _ (by omega), gPpuF _ _ _ _ _ (by omega)]; unfold mA_75; simp [gIzN, gIsP, gIsI, gIsJ, gJzN, gJsP, gJsI, gJsJ, gPzN, gPsI, gPsJ, gPsP, gIzG, gJzG, gPzG]
          refine List.forall_mem_cons.mpr ⟨?_, ?_⟩
          · show _ = some 95
            rw [gPpuF _ _ _ _ _ (by omega), gPpuF _ _ _ _ _ (by omega)]; unfold mA_75; simp [gIzN, gIsP, gIsI, gIsJ, gJzN, gJsP, gJsI, gJsJ, gPzN, gPsI, gPsJ, gPsP, gIzG, gJzG, gPzG]
          refine List.forall_mem_cons.mpr ⟨?_, ?_⟩
          · show _ = some 96
            rw [gPpuF _ _ _ _ _ (by omega), gPpuF _ _ _ _ _ (by omega)]; unfold mA_75; simp [gIzN, gIsP, gIsI, gIsJ, gJzN, gJsP, gJsI, gJsJ, gPzN, gPsI, gPsJ, gPsP, gIzG, gJzG, gPzG]
          refine List.forall_mem_cons.mpr ⟨?_, ?_⟩
          · show _ = some 97
            rw [gPpuF _ _ _ _ _ (by omega), gPpuF _ _ _ _ _ (by omega)]; unfold mA_75; simp [gIzN, gIsP, gIsI, gIsJ, gJzN, gJsP, gJsI, gJsJ, gPzN, gPsI, gPsJ, gPsP, gIzG, gJzG, gPzG]
          refine List.forall_mem_cons.mpr ⟨?_, ?_⟩
          · show _ = some 98
            rw [gPpuF _ _ _ _ _ (by omega), gPpuF _ _ _ _ _ (by omega)]; unfold mA_75; simp [gIzN, gIsP, gIsI, gIsJ, gJzN, gJsP, gJsI, gJsJ, gPzN, gPsI, gPsJ, gPsP, gIzG, gJzG, gPzG]
          refine List.forall_mem_cons.mpr ⟨?_, ?_⟩
          · show _ = some 99
            rw [gPpuF _ _ _ _ _ (by omega), gPpuF _ _ _ _ _ (by omega)]; unfold mA_75; simp [gIzN, gIsP, gIsI, gIsJ, gJzN, gJsP, gJsI, gJsJ, gPzN, gPsI, gPsJ, gPsP, gIzG, gJzG, gPzG]
          refine List.forall_mem_cons.mpr ⟨?_, ?_⟩
          · show _ = some 100
            rw [gPpuF _ _ _ _ _ (by omega), gPpuF _ _ _ _ _ (by omega)]; unfold mA_75; simp [gIzN, gIsP, gIsI, gIsJ, gJzN, gJsP, gJsI, gJsJ, gPzN, gPsI, gPsJ, gPsP, gIzG, gJzG, gPzG]
          refine List.forall_mem_cons.mpr ⟨?_, ?_⟩
          · show _ = some 101
            rw [gPpuF _ _ _ _ _ (by omega), gPpuF _ _ _ _ _ (by omega)]; unfold mA_75; simp [gIzN, gIsP, gIsI, gIsJ, gJzN, gJsP, gJsI, gJsJ, gPzN, gPsI, gPsJ, gPsP, gIzG, gJzG, gPzG]
          exact List.forall_mem_nil _
      · refine ⟨fun k => ?_, fun k => ?_, ?_⟩
        · rw [gIpuF, if_neg (by omega), gIpuF, if_neg (by omega)]
          show _ = (bif Nat.blt k 5 then (100 : Int32) else 0)
          rcases k with _ | _ | _ | _ | _ | k
          · unfold mA_75; simp [gIzN, gIsP, gIsI, gIsJ, gJzN, gJsP, gJsI, gJsJ, gPzN, gPsI, gPsJ, gPsP, gIzG, gJzG, gPzG]; try rfl
          · unfold mA_75; simp [gIzN, gIsP, gIsI, gIsJ, gJzN, gJsP, gJsI, gJsJ, gPzN, gPsI, gPsJ, gPsP, gIzG, gJzG, gPzG]; try rfl
          · unfold mA_75; simp [gIzN, gIsP, gIsI, gIsJ, gJzN, gJsP, gJsI, gJsJ, gPzN, gPsI, gPsJ, gPsP, gIzG, gJzG, gPzG]; try rfl
          · unfold mA_75; simp [gIzN, gIsP, gIsI, gIsJ, gJzN, gJsP, gJsI, gJsJ, gPzN, gPsI, gPsJ, gPsP, gIzG, gJzG, gPzG]; try rfl
          · unfold mA_75; simp [gIzN, gIsP, gIsI, gIsJ, gJzN, gJsP, gJsI, gJsJ, gPzN, gPsI, gPsJ, gPsP, gIzG, gJzG, gPzG]; try rfl
          · rw [show Nat.blt (k + 1 + 1 + 1 + 1 + 1) 5 = false from Bool.eq_false_iff.mpr (fun q => by have := Nat.le_of_ble_eq_true q; omega)]; unfold mA_75; simp [gIzN, gIsP, gIsI, gIsJ, gJzN, gJsP, gJsI, gJsJ, gPzN, gPsI, gPsJ, gPsP, gIzG, gJzG, gPzG]
        · rw [gJpuF, if_neg (by omega), gJpuF, if_neg (by omega)]; unfold mA_75; simp [gIzN, gIsP, gIsI, gIsJ, gJzN, gJsP, gJsI, gJsJ, gPzN, gPsI, gPsJ, gPsP, gIzG, gJzG, gPzG, hb k]
        · show ∀ k ∈ ([] : List Nat), _
          exact List.forall_mem_nil _
      · refine ⟨fun k => ?_, fun k => ?_, ?_⟩
        · rw [gIpuF, if_neg (by omega), gIpuF, if_neg (by omega)]
          show _ = (0 : Int32)
          unfold mA_75; simp [gIzN, gIsP, gIsI, gIsJ, gJzN, gJsP, gJsI, gJsJ, gPzN, gPsI, gPsJ, gPsP, gIzG, gJzG, gPzG]
        · rw [gJpuF, if_neg (by omega), gJpuF, if_neg (by omega)]; unfold mA_75; simp [gIzN, gIsP, gIsI, gIsJ, gJzN, gJsP, gJsI, gJsJ, gPzN, gPsI, gPsJ, gPsP, gIzG, gJzG, gPzG, hb k]
        · show ∀ k ∈ ([] : List Nat), _
          exact List.forall_mem_nil _
set_option maxRecDepth 8000 in
set_option maxHeartbeats 2000000 in
theorem k_X1_75 {κ : xKK} {M : xM} (hb : bl M 75) : xEz κ mX1_init (1, 26, 199) [.ref 75] M 76 (cnP M 75 102) := by
  refine xEz_of ci_X1_init cl_X1_init cw_X1_init rfl (L := [some (.ref 75), none]) rfl ?_
  refine xGh_run 1 rfl (by repeat' (first | exact trivial | assumption | exact xob_b rfl | exact xal_b rfl | exact xar_b rfl _ rfl (by decide) (by decide) | (apply And.intro) | decide)) ?_
  try dsimp only [xsto1, xsto2, xkill, xget, xset, gd_0, gd_s]
  refine xGh_obj rfl gwo_1 rfl ?_
  refine xGh_run 2 rfl (by repeat' (first | exact trivial | assumption | exact xob_b rfl | exact xal_b rfl | exact xar_b rfl _ rfl (by decide) (by decide) | (apply And.intro) | decide)) ?_
  try dsimp only [xsto1, xsto2, xkill, xget, xset, gd_0, gd_s]
  refine xGh_aa' (n' := 77) (k1' := 1) (k2' := 10) (C := "MastWind$Piece") rfl rfl rfl rfl rfl (Or.inl ⟨rfl, rfl⟩) gwc_1_9 (fun _ h => h.1) (by decide) rfl (by decide) (by decide) (by decide) ?_
  refine xGh_run 3 rfl (by repeat' (first | exact trivial | assumption | exact xob_b rfl | exact xal_b rfl | exact xar_b rfl _ rfl (by decide) (by decide) | (apply And.intro) | decide)) ?_
  try dsimp only [xsto1, xsto2, xkill, xget, xset, gd_0, gd_s]
  refine xGh_aa' (n' := 78) (k1' := 2) (k2' := 22) (C := "MastWind$Rope") rfl rfl rfl rfl rfl (Or.inr (Or.inl ⟨rfl, rfl⟩)) gwc_1_17 (fun _ h => h.2.1) (by decide) rfl (by decide) (by decide) (by decide) ?_
  refine xGh_run 6 rfl (by repeat' (first | exact trivial | assumption | exact xob_b rfl | exact xal_b rfl | exact xar_b rfl _ rfl (by decide) (by decide) | (apply And.intro) | decide)) ?_
  try dsimp only [xsto1, xsto2, xkill, xget, xset, gd_0, gd_s]
  refine xGh_na (n' := 79) (k1' := 3) (k2' := 27) rfl rfl rfl rfl rfl rfl (Or.inl ⟨rfl, rfl⟩) (by decide) rfl (by decide) (by decide) (by decide) ?_
  refine xGh_run 23 rfl (by repeat' (first | exact trivial | assumption | exact xob_b rfl | exact xal_b rfl | exact xar_b rfl _ rfl (by decide) (by decide) | (apply And.intro) | decide)) ?_
  try dsimp only [xsto1, xsto2, xkill, xget, xset, gd_0, gd_s]
  refine xGh_na (n' := 80) (k1' := 4) (k2' := 35) rfl rfl rfl rfl rfl rfl (Or.inl ⟨rfl, rfl⟩) (by decide) rfl (by decide) (by decide) (by decide) ?_
  refine xGh_run 7 rfl (by repeat' (first | exact trivial | assumption | exact xob_b rfl | exact xal_b rfl | exact xar_b rfl _ rfl (by decide) (by decide) | (apply And.intro) | decide)) ?_
  try dsimp only [xsto1, xsto2, xkill, xget, xset, gd_0, gd_s]
  refine xGh_brF rfl (by decide) ?_
  refine xGh_run 3 rfl (by repeat' (first | exact trivial | assumption | exact xob_b rfl | exact xal_b rfl | exact xar_b rfl _ rfl (by decide) (by decide) | (apply And.intro) | decide)) ?_
  try dsimp only [xsto1, xsto2, xkill, xget, xset, gd_0, gd_s]
  refine xGh_new (n' := 81) (k1' := 5) (k2' := 43) (cid := 3) rfl rfl rfl rfl rfl gwc_1_9 gwn_3 gwi_3 rfl (by decide) (by decide) ?_
  refine xGh_run 1 rfl (by repeat' (first | exact trivial | assumption | exact xob_b rfl | exact xal_b rfl | exact xar_b rfl _ rfl (by decide) (by decide) | (apply And.intro) | decide)) ?_
  try dsimp only [xsto1, xsto2, xkill, xget, xset, gd_0, gd_s]
  refine xGh_initN (my := mX3_init) (r' := (0, 0, 0)) rfl rfl rfl rfl rfl cw_X3_init (by decide +kernel) rfl k_X3 (fun _ h => h) ⟨by decide, by decide, by decide⟩ (fun v M' n' h => h.2.2) ?_
  rintro v M' n' ⟨rfl, rfl, rfl⟩
  dsimp only [Option.toList, List.nil_append, Nat.add_zero]
  refine xGh_run 3 rfl (by repeat' (first | exact trivial | assumption | exact xob_b rfl | exact xal_b rfl | exact xar_b rfl _ rfl (by decide) (by decide) | (apply And.intro) | decide)) ?_
  try dsimp only [xsto1, xsto2, xkill, xget, xset, gd_0, gd_s]
  change xGh κ xAO _ _ (69, [some (.ref 75), some (.int 1)], [], puF (mA_75 M) 76 80 1, 81, true, 5, 43) _
  refine xGh_run 4 rfl (by repeat' (first | exact trivial | assumption | exact xob_b rfl | exact xal_b rfl | exact xar_b rfl _ rfl (by decide) (by decide) | (apply And.intro) | decide)) ?_
  try dsimp only [xsto1, xsto2, xkill, xget, xset, gd_0, gd_s]
  refine xGh_brF rfl (by decide) ?_
  refine xGh_run 3 rfl (by repeat' (first | exact trivial | assumption | exact xob_b rfl | exact xal_b rfl | exact xar_b rfl _ rfl (by decide) (by decide) | (apply And.intro) | decide)) ?_
  try dsimp only [xsto1, xsto2, xkill, xget, xset, gd_0, gd_s]
  refine xGh_new (n' := 82) (k1' := 6) (k2' := 51) (cid := 3) rfl rfl rfl rfl rfl gwc_1_9 gwn_3 gwi_3 rfl (by decide) (by decide) ?_
  refine xGh_run 1 rfl (by repeat' (first | exact trivial | assumption | exact xob_b rfl | exact xal_b rfl | exact xar_b rfl _ rfl (by decide) (by decide) | (apply And.intro) | decide)) ?_
  try dsimp only [xsto1, xsto2, xkill, xget, xset, gd_0, gd_s]
  refine xGh_initN (my := mX3_init) (r' := (0, 0, 0)) rfl rfl rfl rfl rfl cw_X3_init (by decide +kernel) rfl k_X3 (fun _ h => h) ⟨by decide, by decide, by decide⟩ (fun v M' n' h => h.2.2) ?_
  rintro v M' n' ⟨rfl, rfl, rfl⟩
  dsimp only [Option.toList, List.nil_append, Nat.add_zero]
  refine xGh_run 3 rfl (by repeat' (first | exact trivial | assumption | exact xob_b rfl | exact xal_b rfl | exact xar_b rfl _ rfl (by decide) (by decide) | (apply And.intro) | decide)) ?_
  try dsimp only [xsto1, xsto2, xkill, xget, xset, gd_0, gd_s]
  change xGh κ xAO _ _ (69, [some (.ref 75), some (.int 2)], [], puF (mA_75 M) 76 80 2, 82, true, 6, 51) _
  refine xGh_run 4 rfl (by repeat' (first | exact trivial | assumption | exact xob_b rfl | exact xal_b rfl | exact xar_b rfl _ rfl (by decide) (by decide) | (apply And.intro) | decide)) ?_
  try dsimp only [xsto1, xsto2, xkill, xget, xset, gd_0, gd_s]
  refine xGh_brF rfl (by decide) ?_
  refine xGh_run 3 rfl (by repeat' (first | exact trivial | assumption | exact xob_b rfl | exact xal_b rfl | exact xar_b rfl _ rfl (by decide) (by decide) | (apply And.intro) | decide)) ?_
  try dsimp only [xsto1, xsto2, xkill, xget, xset, gd_0, gd_s]
  refine xGh_new (n' := 83) (k1' := 7) (k2' := 59) (cid := 3) rfl rfl rfl rfl rfl gwc_1_9 gwn_3 gwi_3 rfl (by decide) (by decide) ?_
  refine xGh_run 1 rfl (by repeat' (first | exact trivial | assumption | exact xob_b rfl | exact xal_b rfl | exact xar_b rfl _ rfl (by decide) (by decide) | (apply And.intro) | decide)) ?_
  try dsimp only [xsto1, xsto2, xkill, xget, xset, gd_0, gd_s]
  refine xGh_initN (my := mX3_init) (r' := (0, 0, 0)) rfl rfl rfl rfl rfl cw_X3_init (by decide +kernel) rfl k_X3 (fun _ h => h) ⟨by decide, by decide, by decide⟩ (fun v M' n' h => h.2.2) ?_
  rintro v M' n' ⟨rfl, rfl, rfl⟩
  dsimp only [Option.toList, List.nil_append, Nat.add_zero]
  refine xGh_run 3 rfl (by repeat' (first | exact trivial | assumption | exact xob_b rfl | exact xal_b rfl | exact xar_b rfl _ rfl (by decide) (by decide) | (apply And.intro) | decide)) ?_
  try dsimp only [xsto1, xsto2, xkill, xget, xset, gd_0, gd_s]
  change xGh κ xAO _ _ (69, [some (.ref 75), some (.int 3)], [], puF (mA_75 M) 76 80 3, 83, true, 7, 59) _
  refine xGh_run 4 rfl (by repeat' (first | exact trivial | assumption | exact xob_b rfl | exact xal_b rfl | exact xar_b rfl _ rfl (by decide) (by decide) | (apply And.intro) | decide)) ?_
  try dsimp only [xsto1, xsto2, xkill, xget, xset, gd_0, gd_s]
  refine xGh_brF rfl (by decide) ?_
  refine xGh_run 3 rfl (by repeat' (first | exact trivial | assumption | exact xob_b rfl | exact xal_b rfl | exact xar_b rfl _ rfl (by decide) (by decide) | (apply And.intro) | decide)) ?_
  try dsimp only [xsto1, xsto2, xkill, xget, xset, gd_0, gd_s]
  refine xGh_new (n' := 84) (k1' := 8) (k2' := 67) (cid := 3) rfl rfl rfl rfl rfl gwc_1_9 gwn_3 gwi_3 rfl (by decide) (by decide) ?_
  refine xGh_run 1 rfl (by repeat' (first | exact trivial | assumption | exact xob_b rfl | exact xal_b rfl | exact xar_b rfl _ rfl (by decide) (by decide) | (apply And.intro) | decide)) ?_
  try dsimp only [xsto1, xsto2, xkill, xget, xset, gd_0, gd_s]
  refine xGh_initN (my := mX3_init) (r' := (0, 0, 0)) rfl rfl rfl rfl rfl cw_X3_init (by decide +kernel) rfl k_X3 (fun _ h => h) ⟨by decide, by decide, by decide⟩ (fun v M' n' h => h.2.2) ?_
  rintro v M' n' ⟨rfl, rfl, rfl⟩
  dsimp only [Option.toList, List.nil_append, Nat.add_zero]
  refine xGh_run 3 rfl (by repeat' (first | exact trivial | assumption | exact xob_b rfl | exact xal_b rfl | exact xar_b rfl _ rfl (by decide) (by decide) | (apply And.intro) | decide)) ?_
  try dsimp only [xsto1, xsto2, xkill, xget, xset, gd_0, gd_s]
  change xGh κ xAO _ _ (69, [some (.ref 75), some (.int 4)], [], puF (mA_75 M) 76 80 4, 84, true, 8, 67) _
  refine xGh_run 4 rfl (by repeat' (first | exact trivial | assumption | exact xob_b rfl | exact xal_b rfl | exact xar_b rfl _ rfl (by decide) (by decide) | (apply And.intro) | decide)) ?_
  try dsimp only [xsto1, xsto2, xkill, xget, xset, gd_0, gd_s]
  refine xGh_brF rfl (by decide) ?_
  refine xGh_run 3 rfl (by repeat' (first | exact trivial | assumption | exact xob_b rfl | exact xal_b rfl | exact xar_b rfl _ rfl (by decide) (by decide) | (apply And.intro) | decide)) ?_
  try dsimp only [xsto1, xsto2, xkill, xget, xset, gd_0, gd_s]
  refine xGh_new (n' := 85) (k1' := 9) (k2' := 75) (cid := 3) rfl rfl rfl rfl rfl gwc_1_9 gwn_3 gwi_3 rfl (by decide) (by decide) ?_
  refine xGh_run 1 rfl (by repeat' (first | exact trivial | assumption | exact xob_b rfl | exact xal_b rfl | exact xar_b rfl _ rfl (by decide) (by decide) | (apply And.intro) | decide)) ?_
  try dsimp only [xsto1, xsto2, xkill, xget, xset, gd_0, gd_s]
  refine xGh_initN (my := mX3_init) (r' := (0, 0, 0)) rfl rfl rfl rfl rfl cw_X3_init (by decide +kernel) rfl k_X3 (fun _ h => h) ⟨by decide, by decide, by decide⟩ (fun v M' n' h => h.2.2) ?_
  rintro v M' n' ⟨rfl, rfl, rfl⟩
  dsimp only [Option.toList, List.nil_append, Nat.add_zero]
  refine xGh_run 3 rfl (by repeat' (first | exact trivial | assumption | exact xob_b rfl | exact xal_b rfl | exact xar_b rfl _ rfl (by decide) (by decide) | (apply And.intro) | decide)) ?_
  try dsimp only [xsto1, xsto2, xkill, xget, xset, gd_0, gd_s]
  change xGh κ xAO _ _ (69, [some (.ref 75), some (.int 5)], [], puF (mA_75 M) 76 80 5, 85, true, 9, 75) _
  refine xGh_run 4 rfl (by repeat' (first | exact trivial | assumption | exact xob_b rfl | exact xal_b rfl | exact xar_b rfl _ rfl (by decide) (by decide) | (apply And.intro) | decide)) ?_
  try dsimp only [xsto1, xsto2, xkill, xget, xset, gd_0, gd_s]
  refine xGh_brF rfl (by decide) ?_
  refine xGh_run 3 rfl (by repeat' (first | exact trivial | assumption | exact xob_b rfl | exact xal_b rfl | exact xar_b rfl _ rfl (by decide) (by decide) | (apply And.intro) | decide)) ?_
  try dsimp only [xsto1, xsto2, xkill, xget, xset, gd_0, gd_s]
  refine xGh_new (n' := 86) (k1' := 10) (k2' := 83) (cid := 3) rfl rfl rfl rfl rfl gwc_1_9 gwn_3 gwi_3 rfl (by decide) (by decide) ?_
  refine xGh_run 1 rfl (by repeat' (first | exact trivial | assumption | exact xob_b rfl | exact xal_b rfl | exact xar_b rfl _ rfl (by decide) (by decide) | (apply And.intro) | decide)) ?_
  try dsimp only [xsto1, xsto2, xkill, xget, xset, gd_0, gd_s]
  refine xGh_initN (my := mX3_init) (r' := (0, 0, 0)) rfl rfl rfl rfl rfl cw_X3_init (by decide +kernel) rfl k_X3 (fun _ h => h) ⟨by decide, by decide, by decide⟩ (fun v M' n' h => h.2.2) ?_
  rintro v M' n' ⟨rfl, rfl, rfl⟩
  dsimp only [Option.toList, List.nil_append, Nat.add_zero]
  refine xGh_run 3 rfl (by repeat' (first | exact trivial | assumption | exact xob_b rfl | exact xal_b rfl | exact xar_b rfl _ rfl (by decide) (by decide) | (apply And.intro) | decide)) ?_
  try dsimp only [xsto1, xsto2, xkill, xget, xset, gd_0, gd_s]
  change xGh κ xAO _ _ (69, [some (.ref 75), some (.int 6)], [], puF (mA_75 M) 76 80 6, 86, true, 10, 83) _
  refine xGh_run 4 rfl (by repeat' (first | exact trivial | assumption | exact xob_b rfl | exact xal_b rfl | exact xar_b rfl _ rfl (by decide) (by decide) | (apply And.intro) | decide)) ?_
  try dsimp only [xsto1, xsto2, xkill, xget, xset, gd_0, gd_s]
  refine xGh_brF rfl (by decide) ?_
  refine xGh_run 3 rfl (by repeat' (first | exact trivial | assumption | exact xob_b rfl | exact xal_b rfl | exact xar_b rfl _ rfl (by decide) (by decide) | (apply And.intro) | decide)) ?_
  try dsimp only [xsto1, xsto2, xkill, xget, xset, gd_0, gd_s]
  refine xGh_new (n' := 87) (k1' := 11) (k2' := 91) (cid := 3) rfl rfl rfl rfl rfl gwc_1_9 gwn_3 gwi_3 rfl (by decide) (by decide) ?_
  refine xGh_run 1 rfl (by repeat' (first | exact trivial | assumption | exact xob_b rfl | exact xal_b rfl | exact xar_b rfl _ rfl (by decide) (by decide) | (apply And.intro) | decide)) ?_
  try dsimp only [xsto1, xsto2, xkill, xget, xset, gd_0, gd_s]
  refine xGh_initN (my := mX3_init) (r' := (0, 0, 0)) rfl rfl rfl rfl rfl cw_X3_init (by decide +kernel) rfl k_X3 (fun _ h => h) ⟨by decide, by decide, by decide⟩ (fun v M' n' h => h.2.2) ?_
  rintro v M' n' ⟨rfl, rfl, rfl⟩
  dsimp only [Option.toList, List.nil_append, Nat.add_zero]
  refine xGh_run 3 rfl (by repeat' (first | exact trivial | assumption | exact xob_b rfl | exact xal_b rfl | exact xar_b rfl _ rfl (by decide) (by decide) | (apply And.intro) | decide)) ?_
  try dsimp only [xsto1, xsto2, xkill, xget, xset, gd_0, gd_s]
  change xGh κ xAO _ _ (69, [some (.ref 75), some (.int 7)], [], puF (mA_75 M) 76 80 7, 87, true, 11, 91) _
  refine xGh_run 4 rfl (by repeat' (first | exact trivial | assumption | exact xob_b rfl | exact xal_b rfl | exact xar_b rfl _ rfl (by decide) (by decide) | (apply And.intro) | decide)) ?_
  try dsimp only [xsto1, xsto2, xkill, xget, xset, gd_0, gd_s]
  refine xGh_brF rfl (by decide) ?_
  refine xGh_run 3 rfl (by repeat' (first | exact trivial | assumption | exact xob_b rfl | exact xal_b rfl | exact xar_b rfl _ rfl (by decide) (by decide) | (apply And.intro) | decide)) ?_
  try dsimp only [xsto1, xsto2, xkill, xget, xset, gd_0, gd_s]
  refine xGh_new (n' := 88) (k1' := 12) (k2' := 99) (cid := 3) rfl rfl rfl rfl rfl gwc_1_9 gwn_3 gwi_3 rfl (by decide) (by decide) ?_
  refine xGh_run 1 rfl (by repeat' (first | exact trivial | assumption | exact xob_b rfl | exact xal_b rfl | exact xar_b rfl _ rfl (by decide) (by decide) | (apply And.intro) | decide)) ?_
  try dsimp only [xsto1, xsto2, xkill, xget, xset, gd_0, gd_s]
  refine xGh_initN (my := mX3_init) (r' := (0, 0, 0)) rfl rfl rfl rfl rfl cw_X3_init (by decide +kernel) rfl k_X3 (fun _ h => h) ⟨by decide, by decide, by decide⟩ (fun v M' n' h => h.2.2) ?_
  rintro v M' n' ⟨rfl, rfl, rfl⟩
  dsimp only [Option.toList, List.nil_append, Nat.add_zero]
  refine xGh_run 3 rfl (by repeat' (first | exact trivial | assumption | exact xob_b rfl | exact xal_b rfl | exact xar_b rfl _ rfl (by decide) (by decide) | (apply And.intro) | decide)) ?_
  try dsimp only [xsto1, xsto2, xkill, xget, xset, gd_0, gd_s]
  change xGh κ xAO _ _ (69, [some (.ref 75), some (.int 8)], [], puF (mA_75 M) 76 80 8, 88, true, 12, 99) _
  refine xGh_run 4 rfl (by repeat' (first | exact trivial | assumption | exact xob_b rfl | exact xal_b rfl | exact xar_b rfl _ rfl (by decide) (by decide) | (apply And.intro) | decide)) ?_
  try dsimp only [xsto1, xsto2, xkill, xget, xset, gd_0, gd_s]
  refine xGh_brF rfl (by decide) ?_
  refine xGh_run 3 rfl (by repeat' (first | exact trivial | assumption | exact xob_b rfl | exact xal_b rfl | exact xar_b rfl _ rfl (by decide) (by decide) | (apply And.intro) | decide)) ?_
  try dsimp only [xsto1, xsto2, xkill, xget, xset, gd_0, gd_s]
  refine xGh_new (n' := 89) (k1' := 13) (k2' := 107) (cid := 3) rfl rfl rfl rfl rfl gwc_1_9 gwn_3 gwi_3 rfl (by decide) (by decide) ?_
  refine xGh_run 1 rfl (by repeat' (first | exact trivial | assumption | exact xob_b rfl | exact xal_b rfl | exact xar_b rfl _ rfl (by decide) (by decide) | (apply And.intro) | decide)) ?_
  try dsimp only [xsto1, xsto2, xkill, xget, xset, gd_0, gd_s]
  refine xGh_initN (my := mX3_init) (r' := (0, 0, 0)) rfl rfl rfl rfl rfl cw_X3_init (by decide +kernel) rfl k_X3 (fun _ h => h) ⟨by decide, by decide, by decide⟩ (fun v M' n' h => h.2.2) ?_
  rintro v M' n' ⟨rfl, rfl, rfl⟩
  dsimp only [Option.toList, List.nil_append, Nat.add_zero]
  refine xGh_run 3 rfl (by repeat' (first | exact trivial | assumption | exact xob_b rfl | exact xal_b rfl | exact xar_b rfl _ rfl (by decide) (by decide) | (apply And.intro) | decide)) ?_
  try dsimp only [xsto1, xsto2, xkill, xget, xset, gd_0, gd_s]
  change xGh κ xAO _ _ (69, [some (.ref 75), some (.int 9)], [], puF (mA_75 M) 76 80 9, 89, true, 13, 107) _
  refine xGh_run 4 rfl (by repeat' (first | exact trivial | assumption | exact xob_b rfl | exact xal_b rfl | exact xar_b rfl _ rfl (by decide) (by decide) | (apply And.intro) | decide)) ?_
  try dsimp only [xsto1, xsto2, xkill, xget, xset, gd_0, gd_s]
  refine xGh_brF rfl (by decide) ?_
  refine xGh_run 3 rfl (by repeat' (first | exact trivial | assumption | exact xob_b rfl | exact xal_b rfl | exact xar_b rfl _ rfl (by decide) (by decide) | (apply And.intro) | decide)) ?_
  try dsimp only [xsto1, xsto2, xkill, xget, xset, gd_0, gd_s]
  refine xGh_new (n' := 90) (k1' := 14) (k2' := 115) (cid := 3) rfl rfl rfl rfl rfl gwc_1_9 gwn_3 gwi_3 rfl (by decide) (by decide) ?_
  refine xGh_run 1 rfl (by repeat' (first | exact trivial | assumption | exact xob_b rfl | exact xal_b rfl | exact xar_b rfl _ rfl (by decide) (by decide) | (apply And.intro) | decide)) ?_
  try dsimp only [xsto1, xsto2, xkill, xget, xset, gd_0, gd_s]
  refine xGh_initN (my := mX3_init) (r' := (0, 0, 0)) rfl rfl rfl rfl rfl cw_X3_init (by decide +kernel) rfl k_X3 (fun _ h => h) ⟨by decide, by decide, by decide⟩ (fun v M' n' h => h.2.2) ?_
  rintro v M' n' ⟨rfl, rfl, rfl⟩
  dsimp only [Option.toList, List.nil_append, Nat.add_zero]
  refine xGh_run 3 rfl (by repeat' (first | exact trivial | assumption | exact xob_b rfl | exact xal_b rfl | exact xar_b rfl _ rfl (by decide) (by decide) | (apply And.intro) | decide)) ?_
  try dsimp only [xsto1, xsto2, xkill, xget, xset, gd_0, gd_s]
  change xGh κ xAO _ _ (69, [some (.ref 75), some (.int 10)], [], puF (mA_75 M) 76 80 10, 90, true, 14, 115) _
  refine xGh_run 4 rfl (by repeat' (first | exact trivial | assumption | exact xob_b rfl | exact xal_b rfl | exact xar_b rfl _ rfl (by decide) (by decide) | (apply And.intro) | decide)) ?_
  try dsimp only [xsto1, xsto2, xkill, xget, xset, gd_0, gd_s]
  refine xGh_brT rfl (by decide) ?_
  refine xGh_run 6 rfl (by repeat' (first | exact trivial | assumption | exact xob_b rfl | exact xal_b rfl | exact xar_b rfl _ rfl (by decide) (by decide) | (apply And.intro) | decide)) ?_
  try dsimp only [xsto1, xsto2, xkill, xget, xset, gd_0, gd_s]
  refine xGh_brF rfl (by decide) ?_
  refine xGh_run 3 rfl (by repeat' (first | exact trivial | assumption | exact xob_b rfl | exact xal_b rfl | exact xar_b rfl _ rfl (by decide) (by decide) | (apply And.intro) | decide)) ?_
  try dsimp only [xsto1, xsto2, xkill, xget, xset, gd_0, gd_s]
  refine xGh_new (n' := 91) (k1' := 15) (k2' := 122) (cid := 5) rfl rfl rfl rfl rfl gwc_1_17 gwn_5 gwi_5 rfl (by decide) (by decide) ?_
  refine xGh_run 1 rfl (by repeat' (first | exact trivial | assumption | exact xob_b rfl | exact xal_b rfl | exact xar_b rfl _ rfl (by decide) (by decide) | (apply And.intro) | decide)) ?_
  try dsimp only [xsto1, xsto2, xkill, xget, xset, gd_0, gd_s]
  refine xGh_initN (my := mX5_init) (r' := (0, 0, 0)) rfl rfl rfl rfl rfl cw_X5_init (by decide +kernel) rfl k_X5 (fun _ h => h) ⟨by decide, by decide, by decide⟩ (fun v M' n' h => h.2.2) ?_
  rintro v M' n' ⟨rfl, rfl, rfl⟩
  dsimp only [Option.toList, List.nil_append, Nat.add_zero]
  refine xGh_run 3 rfl (by repeat' (first | exact trivial | assumption | exact xob_b rfl | exact xal_b rfl | exact xar_b rfl _ rfl (by decide) (by decide) | (apply And.intro) | decide)) ?_
  try dsimp only [xsto1, xsto2, xkill, xget, xset, gd_0, gd_s]
  change xGh κ xAO _ _ (99, [some (.ref 75), some (.int 1)], [], puF (puF (mA_75 M) 76 80 10) 77 90 1, 91, true, 15, 122) _
  refine xGh_run 4 rfl (by repeat' (first | exact trivial | assumption | exact xob_b rfl | exact xal_b rfl | exact xar_b rfl _ rfl (by decide) (by decide) | (apply And.intro) | decide)) ?_
  try dsimp only [xsto1, xsto2, xkill, xget, xset, gd_0, gd_s]
  refine xGh_brF rfl (by decide) ?_
  refine xGh_run 3 rfl (by repeat' (first | exact trivial | assumption | exact xob_b rfl | exact xal_b rfl | exact xar_b rfl _ rfl (by decide) (by decide) | (apply And.intro) | decide)) ?_
  try dsimp only [xsto1, xsto2, xkill, xget, xset, gd_0, gd_s]
  refine xGh_new (n' := 92) (k1' := 16) (k2' := 129) (cid := 5) rfl rfl rfl rfl rfl gwc_1_17 gwn_5 gwi_5 rfl (by decide) (by decide) ?_
  refine xGh_run 1 rfl (by repeat' (first | exact trivial | assumption | exact xob_b rfl | exact xal_b rfl | exact xar_b rfl _ rfl (by decide) (by decide) | (apply And.intro) | decide)) ?_
  try dsimp only [xsto1, xsto2, xkill, xget, xset, gd_0, gd_s]
  refine xGh_initN (my := mX5_init) (r' := (0, 0, 0)) rfl rfl rfl rfl rfl cw_X5_init (by decide +kernel) rfl k_X5 (fun _ h => h) ⟨by decide, by decide, by decide⟩ (fun v M' n' h => h.2.2) ?_
  rintro v M' n' ⟨rfl, rfl, rfl⟩
  dsimp only [Option.toList, List.nil_append, Nat.add_zero]
  refine xGh_run 3 rfl (by repeat' (first | exact trivial | assumption | exact xob_b rfl | exact xal_b rfl | exact xar_b rfl _ rfl (by decide) (by decide) | (apply And.intro) | decide)) ?_
  try dsimp only [xsto1, xsto2, xkill, xget, xset, gd_0, gd_s]
  change xGh κ xAO _ _ (99, [some (.ref 75), some (.int 2)], [], puF (puF (mA_75 M) 76 80 10) 77 90 2, 92, true, 16, 129) _
  refine xGh_run 4 rfl (by repeat' (first | exact trivial | assumption | exact xob_b rfl | exact xal_b rfl | exact xar_b rfl _ rfl (by decide) (by decide) | (apply And.intro) | decide)) ?_
  try dsimp only [xsto1, xsto2, xkill, xget, xset, gd_0, gd_s]
  refine xGh_brF rfl (by decide) ?_
  refine xGh_run 3 rfl (by repeat' (first | exact trivial | assumption | exact xob_b rfl | exact xal_b rfl | exact xar_b rfl _ rfl (by decide) (by decide) | (apply And.intro) | decide)) ?_
  try dsimp only [xsto1, xsto2, xkill, xget, xset, gd_0, gd_s]
  refine xGh_new (n' := 93) (k1' := 17) (k2' := 136) (cid := 5) rfl rfl rfl rfl rfl gwc_1_17 gwn_5 gwi_5 rfl (by decide) (by decide) ?_
  refine xGh_run 1 rfl (by repeat' (first | exact trivial | assumption | exact xob_b rfl | exact xal_b rfl | exact xar_b rfl _ rfl (by decide) (by decide) | (apply And.intro) | decide)) ?_
  try dsimp only [xsto1, xsto2, xkill, xget, xset, gd_0, gd_s]
  refine xGh_initN (my := mX5_init) (r' := (0, 0, 0)) rfl rfl rfl rfl rfl cw_X5_init (by decide +kernel) rfl k_X5 (fun _ h => h) ⟨by decide, by decide, by decide⟩ (fun v M' n' h => h.2.2) ?_
  rintro v M' n' ⟨rfl, rfl, rfl⟩
  dsimp only [Option.toList, List.nil_append, Nat.add_zero]
  refine xGh_run 3 rfl (by repeat' (first | exact trivial | assumption | exact xob_b rfl | exact xal_b rfl | exact xar_b rfl _ rfl (by decide) (by decide) | (apply And.intro) | decide)) ?_
  try dsimp only [xsto1, xsto2, xkill, xget, xset, gd_0, gd_s]
  change xGh κ xAO _ _ (99, [some (.ref 75), some (.int 3)], [], puF (puF (mA_75 M) 76 80 10) 77 90 3, 93, true, 17, 136) _
  refine xGh_run 4 rfl (by repeat' (first | exact trivial | assumption | exact xob_b rfl | exact xal_b rfl | exact xar_b rfl _ rfl (by decide) (by decide) | (apply And.intro) | decide)) ?_
  try dsimp only [xsto1, xsto2, xkill, xget, xset, gd_0, gd_s]
  refine xGh_brF rfl (by decide) ?_
  refine xGh_run 3 rfl (by repeat' (first | exact trivial | assumption | exact xob_b rfl | exact xal_b rfl | exact xar_b rfl _ rfl (by decide) (by decide) | (apply And.intro) | decide)) ?_
  try dsimp only [xsto1, xsto2, xkill, xget, xset, gd_0, gd_s]
  refine xGh_new (n' := 94) (k1' := 18) (k2' := 143) (cid := 5) rfl rfl rfl rfl rfl gwc_1_17 gwn_5 gwi_5 rfl (by decide) (by decide) ?_
  refine xGh_run 1 rfl (by repeat' (first | exact trivial | assumption | exact xob_b rfl | exact xal_b rfl | exact xar_b rfl _ rfl (by decide) (by decide) | (apply And.intro) | decide)) ?_
  try dsimp only [xsto1, xsto2, xkill, xget, xset, gd_0, gd_s]
  refine xGh_initN (my := mX5_init) (r' := (0, 0, 0)) rfl rfl rfl rfl rfl cw_X5_init (by decide +kernel) rfl k_X5 (fun _ h => h) ⟨by decide, by decide, by decide⟩ (fun v M' n' h => h.2.2) ?_
  rintro v M' n' ⟨rfl, rfl, rfl⟩
  dsimp only [Option.toList, List.nil_append, Nat.add_zero]
  refine xGh_run 3 rfl (by repeat' (first | exact trivial | assumption | exact xob_b rfl | exact xal_b rfl | exact xar_b rfl _ rfl (by decide) (by decide) | (apply And.intro) | decide)) ?_
  try dsimp only [xsto1, xsto2, xkill, xget, xset, gd_0, gd_s]
  change xGh κ xAO _ _ (99, [some (.ref 75), some (.int 4)], [], puF (puF (mA_75 M) 76 80 10) 77 90 4, 94, true, 18, 143) _
  refine xGh_run 4 rfl (by repeat' (first | exact trivial | assumption | exact xob_b rfl | exact xal_b rfl | exact xar_b rfl _ rfl (by decide) (by decide) | (apply And.intro) | decide)) ?_
  try dsimp only [xsto1, xsto2, xkill, xget, xset, gd_0, gd_s]
  refine xGh_brF rfl (by decide) ?_
  refine xGh_run 3 rfl (by repeat' (first | exact trivial | assumption | exact xob_b rfl | exact xal_b rfl | exact xar_b rfl _ rfl (by decide) (by decide) | (apply And.intro) | decide)) ?_
  try dsimp only [xsto1, xsto2, xkill, xget, xset, gd_0, gd_s]
  refine xGh_new (n' := 95) (k1' := 19) (k2' := 150) (cid := 5) rfl rfl rfl rfl rfl gwc_1_17 gwn_5 gwi_5 rfl (by decide) (by decide) ?_
  refine xGh_run 1 rfl (by repeat' (first | exact trivial | assumption | exact xob_b rfl | exact xal_b rfl | exact xar_b rfl _ rfl (by decide) (by decide) | (apply And.intro) | decide)) ?_
  try dsimp only [xsto1, xsto2, xkill, xget, xset, gd_0, gd_s]
  refine xGh_initN (my := mX5_init) (r' := (0, 0, 0)) rfl rfl rfl rfl rfl cw_X5_init (by decide +kernel) rfl k_X5 (fun _ h => h) ⟨by decide, by decide, by decide⟩ (fun v M' n' h => h.2.2) ?_
  rintro v M' n' ⟨rfl, rfl, rfl⟩
  dsimp only [Option.toList, List.nil_append, Nat.add_zero]
  refine xGh_run 3 rfl (by repeat' (first | exact trivial | assumption | exact xob_b rfl | exact xal_b rfl | exact xar_b rfl _ rfl (by decide) (by decide) | (apply And.intro) | decide)) ?_
  try dsimp only [xsto1, xsto2, xkill, xget, xset, gd_0, gd_s]
  change xGh κ xAO _ _ (99, [some (.ref 75), some (.int 5)], [], puF (puF (mA_75 M) 76 80 10) 77 90 5, 95, true, 19, 150) _
  refine xGh_run 4 rfl (by repeat' (first | exact trivial | assumption | exact xob_b rfl | exact xal_b rfl | exact xar_b rfl _ rfl (by decide) (by decide) | (apply And.intro) | decide)) ?_
  try dsimp only [xsto1, xsto2, xkill, xget, xset, gd_0, gd_s]
  refine xGh_brF rfl (by decide) ?_
  refine xGh_run 3 rfl (by repeat' (first | exact trivial | assumption | exact xob_b rfl | exact xal_b rfl | exact xar_b rfl _ rfl (by decide) (by decide) | (apply And.intro) | decide)) ?_
  try dsimp only [xsto1, xsto2, xkill, xget, xset, gd_0, gd_s]
  refine xGh_new (n' := 96) (k1' := 20) (k2' := 157) (cid := 5) rfl rfl rfl rfl rfl gwc_1_17 gwn_5 gwi_5 rfl (by decide) (by decide) ?_
  refine xGh_run 1 rfl (by repeat' (first | exact trivial | assumption | exact xob_b rfl | exact xal_b rfl | exact xar_b rfl _ rfl (by decide) (by decide) | (apply And.intro) | decide)) ?_
  try dsimp only [xsto1, xsto2, xkill, xget, xset, gd_0, gd_s]
  refine xGh_initN (my := mX5_init) (r' := (0, 0, 0)) rfl rfl rfl rfl rfl cw_X5_init (by decide +kernel) rfl k_X5 (fun _ h => h) ⟨by decide, by decide, by decide⟩ (fun v M' n' h => h.2.2) ?_
  rintro v M' n' ⟨rfl, rfl, rfl⟩
  dsimp only [Option.toList, List.nil_append, Nat.add_zero]
  refine xGh_run 3 rfl (by repeat' (first | exact trivial | assumption | exact xob_b rfl | exact xal_b rfl | exact xar_b rfl _ rfl (by decide) (by decide) | (apply And.intro) | decide)) ?_
  try dsimp only [xsto1, xsto2, xkill, xget, xset, gd_0, gd_s]
  change xGh κ xAO _ _ (99, [some (.ref 75), some (.int 6)], [], puF (puF (mA_75 M) 76 80 10) 77 90 6, 96, true, 20, 157) _
  refine xGh_run 4 rfl (by repeat' (first | exact trivial | assumption | exact xob_b rfl | exact xal_b rfl | exact xar_b rfl _ rfl (by decide) (by decide) | (apply And.intro) | decide)) ?_
  try dsimp only [xsto1, xsto2, xkill, xget, xset, gd_0, gd_s]
  refine xGh_brF rfl (by decide) ?_
  refine xGh_run 3 rfl (by repeat' (first | exact trivial | assumption | exact xob_b rfl | exact xal_b rfl | exact xar_b rfl _ rfl (by decide) (by decide) | (apply And.intro) | decide)) ?_
  try dsimp only [xsto1, xsto2, xkill, xget, xset, gd_0, gd_s]
  refine xGh_new (n' := 97) (k1' := 21) (k2' := 164) (cid := 5) rfl rfl rfl rfl rfl gwc_1_17 gwn_5 gwi_5 rfl (by decide) (by decide) ?_
  refine xGh_run 1 rfl (by repeat' (first | exact trivial | assumption | exact xob_b rfl | exact xal_b rfl | exact xar_b rfl _ rfl (by decide) (by decide) | (apply And.intro) | decide)) ?_
  try dsimp only [xsto1, xsto2, xkill, xget, xset, gd_0, gd_s]
  refine xGh_initN (my := mX5_init) (r' := (0, 0, 0)) rfl rfl rfl rfl rfl cw_X5_init (by decide +kernel) rfl k_X5 (fun _ h => h) ⟨by decide, by decide, by decide⟩ (fun v M' n' h => h.2.2) ?_
  rintro v M' n' ⟨rfl, rfl, rfl⟩
  dsimp only [Option.toList, List.nil_append, Nat.add_zero]
  refine xGh_run 3 rfl (by repeat' (first | exact trivial | assumption | exact xob_b rfl | exact xal_b rfl | exact xar_b rfl _ rfl (by decide) (by decide) | (apply And.intro) | decide)) ?_
  try dsimp only [xsto1, xsto2, xkill, xget, xset, gd_0, gd_s]
  change xGh κ xAO _ _ (99, [some (.ref 75), some (.int 7)], [], puF (puF (mA_75 M) 76 80 10) 77 90 7, 97, true, 21, 164) _
  refine xGh_run 4 rfl (by repeat' (first | exact trivial | assumption | exact xob_b rfl | exact xal_b rfl | exact xar_b rfl _ rfl (by decide) (by decide) | (apply And.intro) | decide)) ?_
  try dsimp only [xsto1, xsto2, xkill, xget, xset, gd_0, gd_s]
  refine xGh_brF rfl (by decide) ?_
  refine xGh_run 3 rfl (by repeat' (first | exact trivial | assumption | exact xob_b rfl | exact xal_b rfl | exact xar_b rfl _ rfl (by decide) (by decide) | (apply And.intro) | decide)) ?_
  try dsimp only [xsto1, xsto2, xkill, xget, xset, gd_0, gd_s]
  refine xGh_new (n' := 98) (k1' := 22) (k2' := 171) (cid := 5) rfl rfl rfl rfl rfl gwc_1_17 gwn_5 gwi_5 rfl (by decide) (by decide) ?_
  refine xGh_run 1 rfl (by repeat' (first | exact trivial | assumption | exact xob_b rfl | exact xal_b rfl | exact xar_b rfl _ rfl (by decide) (by decide) | (apply And.intro) | decide)) ?_
  try dsimp only [xsto1, xsto2, xkill, xget, xset, gd_0, gd_s]
  refine xGh_initN (my := mX5_init) (r' := (0, 0, 0)) rfl rfl rfl rfl rfl cw_X5_init (by decide +kernel) rfl k_X5 (fun _ h => h) ⟨by decide, by decide, by decide⟩ (fun v M' n' h => h.2.2) ?_
  rintro v M' n' ⟨rfl, rfl, rfl⟩
  dsimp only [Option.toList, List.nil_append, Nat.add_zero]
  refine xGh_run 3 rfl (by repeat' (first | exact trivial | assumption | exact xob_b rfl | exact xal_b rfl | exact xar_b rfl _ rfl (by decide) (by decide) | (apply And.intro) | decide)) ?_
  try dsimp only [xsto1, xsto2, xkill, xget, xset, gd_0, gd_s]
  change xGh κ xAO _ _ (99, [some (.ref 75), some (.int 8)], [], puF (puF (mA_75 M) 76 80 10) 77 90 8, 98, true, 22, 171) _
  refine xGh_run 4 rfl (by repeat' (first | exact trivial | assumption | exact xob_b rfl | exact xal_b rfl | exact xar_b rfl _ rfl (by decide) (by decide) | (apply And.intro) | decide)) ?_
  try dsimp only [xsto1, xsto2, xkill, xget, xset, gd_0, gd_s]
  refine xGh_brF rfl (by decide) ?_
  refine xGh_run 3 rfl (by repeat' (first | exact trivial | assumption | exact xob_b rfl | exact xal_b rfl | exact xar_b rfl _ rfl (by decide) (by decide) | (apply And.intro) | decide)) ?_
  try dsimp only [xsto1, xsto2, xkill, xget, xset, gd_0, gd_s]
  refine xGh_new (n' := 99) (k1' := 23) (k2' := 178) (cid := 5) rfl rfl rfl rfl rfl gwc_1_17 gwn_5 gwi_5 rfl (by decide) (by decide) ?_
  refine xGh_run 1 rfl (by repeat' (first | exact trivial | assumption | exact xob_b rfl | exact xal_b rfl | exact xar_b rfl _ rfl (by decide) (by decide) | (apply And.intro) | decide)) ?_
  try dsimp only [xsto1, xsto2, xkill, xget, xset, gd_0, gd_s]
  refine xGh_initN (my := mX5_init) (r' := (0, 0, 0)) rfl rfl rfl rfl rfl cw_X5_init (by decide +kernel) rfl k_X5 (fun _ h => h) ⟨by decide, by decide, by decide⟩ (fun v M' n' h => h.2.2) ?_
  rintro v M' n' ⟨rfl, rfl, rfl⟩
  dsimp only [Option.toList, List.nil_append, Nat.add_zero]
  refine xGh_run 3 rfl (by repeat' (first | exact trivial | assumption | exact xob_b rfl | exact xal_b rfl | exact xar_b rfl _ rfl (by decide) (by decide) | (apply And.intro) | decide)) ?_
  try dsimp only [xsto1, xsto2, xkill, xget, xset, gd_0, gd_s]
  change xGh κ xAO _ _ (99, [some (.ref 75), some (.int 9)], [], puF (puF (mA_75 M) 76 80 10) 77 90 9, 99, true, 23, 178) _
  refine xGh_run 4 rfl (by repeat' (first | exact trivial | assumption | exact xob_b rfl | exact xal_b rfl | exact xar_b rfl _ rfl (by decide) (by decide) | (apply And.intro) | decide)) ?_
  try dsimp only [xsto1, xsto2, xkill, xget, xset, gd_0, gd_s]
  refine xGh_brF rfl (by decide) ?_
  refine xGh_run 3 rfl (by repeat' (first | exact trivial | assumption | exact xob_b rfl | exact xal_b rfl | exact xar_b rfl _ rfl (by decide) (by decide) | (apply And.intro) | decide)) ?_
  try dsimp only [xsto1, xsto2, xkill, xget, xset, gd_0, gd_s]
  refine xGh_new (n' := 100) (k1' := 24) (k2' := 185) (cid := 5) rfl rfl rfl rfl rfl gwc_1_17 gwn_5 gwi_5 rfl (by decide) (by decide) ?_
  refine xGh_run 1 rfl (by repeat' (first | exact trivial | assumption | exact xob_b rfl | exact xal_b rfl | exact xar_b rfl _ rfl (by decide) (by decide) | (apply And.intro) | decide)) ?_
  try dsimp only [xsto1, xsto2, xkill, xget, xset, gd_0, gd_s]
  refine xGh_initN (my := mX5_init) (r' := (0, 0, 0)) rfl rfl rfl rfl rfl cw_X5_init (by decide +kernel) rfl k_X5 (fun _ h => h) ⟨by decide, by decide, by decide⟩ (fun v M' n' h => h.2.2) ?_
  rintro v M' n' ⟨rfl, rfl, rfl⟩
  dsimp only [Option.toList, List.nil_append, Nat.add_zero]
  refine xGh_run 3 rfl (by repeat' (first | exact trivial | assumption | exact xob_b rfl | exact xal_b rfl | exact xar_b rfl _ rfl (by decide) (by decide) | (apply And.intro) | decide)) ?_
  try dsimp only [xsto1, xsto2, xkill, xget, xset, gd_0, gd_s]
  change xGh κ xAO _ _ (99, [some (.ref 75), some (.int 10)], [], puF (puF (mA_75 M) 76 80 10) 77 90 10, 100, true, 24, 185) _
  refine xGh_run 4 rfl (by repeat' (first | exact trivial | assumption | exact xob_b rfl | exact xal_b rfl | exact xar_b rfl _ rfl (by decide) (by decide) | (apply And.intro) | decide)) ?_
  try dsimp only [xsto1, xsto2, xkill, xget, xset, gd_0, gd_s]
  refine xGh_brF rfl (by decide) ?_
  refine xGh_run 3 rfl (by repeat' (first | exact trivial | assumption | exact xob_b rfl | exact xal_b rfl | exact xar_b rfl _ rfl (by decide) (by decide) | (apply And.intro) | decide)) ?_
  try dsimp only [xsto1, xsto2, xkill, xget, xset, gd_0, gd_s]
  refine xGh_new (n' := 101) (k1' := 25) (k2' := 192) (cid := 5) rfl rfl rfl rfl rfl gwc_1_17 gwn_5 gwi_5 rfl (by decide) (by decide) ?_
  refine xGh_run 1 rfl (by repeat' (first | exact trivial | assumption | exact xob_b rfl | exact xal_b rfl | exact xar_b rfl _ rfl (by decide) (by decide) | (apply And.intro) | decide)) ?_
  try dsimp only [xsto1, xsto2, xkill, xget, xset, gd_0, gd_s]
  refine xGh_initN (my := mX5_init) (r' := (0, 0, 0)) rfl rfl rfl rfl rfl cw_X5_init (by decide +kernel) rfl k_X5 (fun _ h => h) ⟨by decide, by decide, by decide⟩ (fun v M' n' h => h.2.2) ?_
  rintro v M' n' ⟨rfl, rfl, rfl⟩
  dsimp only [Option.toList, List.nil_append, Nat.add_zero]
  refine xGh_run 3 rfl (by repeat' (first | exact trivial | assumption | exact xob_b rfl | exact xal_b rfl | exact xar_b rfl _ rfl (by decide) (by decide) | (apply And.intro) | decide)) ?_
  try dsimp only [xsto1, xsto2, xkill, xget, xset, gd_0, gd_s]
  change xGh κ xAO _ _ (99, [some (.ref 75), some (.int 11)], [], puF (puF (mA_75 M) 76 80 10) 77 90 11, 101, true, 25, 192) _
  refine xGh_run 4 rfl (by repeat' (first | exact trivial | assumption | exact xob_b rfl | exact xal_b rfl | exact xar_b rfl _ rfl (by decide) (by decide) | (apply And.intro) | decide)) ?_
  try dsimp only [xsto1, xsto2, xkill, xget, xset, gd_0, gd_s]
  refine xGh_brF rfl (by decide) ?_
  refine xGh_run 3 rfl (by repeat' (first | exact trivial | assumption | exact xob_b rfl | exact xal_b rfl | exact xar_b rfl _ rfl (by decide) (by decide) | (apply And.intro) | decide)) ?_
  try dsimp only [xsto1, xsto2, xkill, xget, xset, gd_0, gd_s]
  refine xGh_new (n' := 102) (k1' := 26) (k2' := 199) (cid := 5) rfl rfl rfl rfl rfl gwc_1_17 gwn_5 gwi_5 rfl (by decide) (by decide) ?_
  refine xGh_run 1 rfl (by repeat' (first | exact trivial | assumption | exact xob_b rfl | exact xal_b rfl | exact xar_b rfl _ rfl (by decide) (by decide) | (apply And.intro) | decide)) ?_
  try dsimp only [xsto1, xsto2, xkill, xget, xset, gd_0, gd_s]
  refine xGh_initN (my := mX5_init) (r' := (0, 0, 0)) rfl rfl rfl rfl rfl cw_X5_init (by decide +kernel) rfl k_X5 (fun _ h => h) ⟨by decide, by decide, by decide⟩ (fun v M' n' h => h.2.2) ?_
  rintro v M' n' ⟨rfl, rfl, rfl⟩
  dsimp only [Option.toList, List.nil_append, Nat.add_zero]
  refine xGh_run 3 rfl (by repeat' (first | exact trivial | assumption | exact xob_b rfl | exact xal_b rfl | exact xar_b rfl _ rfl (by decide) (by decide) | (apply And.intro) | decide)) ?_
  try dsimp only [xsto1, xsto2, xkill, xget, xset, gd_0, gd_s]
  change xGh κ xAO _ _ (99, [some (.ref 75), some (.int 12)], [], puF (puF (mA_75 M) 76 80 10) 77 90 12, 102, true, 26, 199) _
  refine xGh_run 4 rfl (by repeat' (first | exact trivial | assumption | exact xob_b rfl | exact xal_b rfl | exact xar_b rfl _ rfl (by decide) (by decide) | (apply And.intro) | decide)) ?_
  try dsimp only [xsto1, xsto2, xkill, xget, xset, gd_0, gd_s]
  refine xGh_brT rfl (by decide) ?_
  refine xGh_done ⟨_, rfl, rfl, Or.inr (Or.inr (Or.inr ⟨rfl, rfl, rfl, ?_⟩))⟩
  exact mA_ok_75 hb
