/-! ===== the class reads a rule ===== -/
def uR (M M' : xM) : Prop := (∀ x j, ¬ (x = 130 ∧ 1 ≤ j ∧ j ≤ 6) → ¬ (x = 133 ∨ x = 134 ∨ x = 135) → gI M' x j = gI M x j) ∧ (∀ x j, gJ M' x j = gJ M x j) ∧ ∀ x j, ¬ x = 130 → gP M' x j = gP M x j
theorem uR_r {M : xM} : uR M M := ⟨fun _ _ _ _ => rfl, fun _ _ => rfl, fun _ _ _ => rfl⟩
theorem uR_t {M M' M2 : xM} (h : uR M M') (h2 : uR M' M2) : uR M M2 := ⟨fun x j q r => (h2.1 x j q r).trans (h.1 x j q r), fun x j => (h2.2.1 x j).trans (h.2.1 x j), fun x j q => (h2.2.2 x j q).trans (h.2.2 x j q)⟩
theorem uR_G {k : Nat} {M M' : xM} (h : uG k M M') : uR M M' := ⟨fun x j q r => h.1 x j (fun z => q ⟨z.1, by omega, z.2.2⟩) (fun z => r z.1), h.2.1, fun x j _ => h.2.2 x j⟩
theorem uR_i {j : Nat} {v : Int32} {M : xM} (h : 1 ≤ j ∧ j ≤ 6) : uR M (sI M 130 j v) := ⟨fun x y q _ => gI_ne (by omega), fun _ _ => rfl, fun _ _ _ => rfl⟩
theorem uR_p {v : Option Nat} {M : xM} : uR M (sP M 130 1 v) := ⟨fun _ _ _ _ => rfl, fun _ _ => rfl, fun x y q => gP_ne (Or.inl q)⟩
def uM0 (M : xM) (t n : Nat) : xM := sI (sI (sI (sI (sP M 130 1 (some t)) 130 2 (nI n)) 130 3 0) 130 4 0) 130 6 0
theorem uR_0 {M : xM} {t n : Nat} : uR M (uM0 M t n) := uR_t uR_p (uR_t (uR_i (by omega)) (uR_t (uR_i (by omega)) (uR_t (uR_i (by omega)) (uR_i (by omega)))))
set_option maxRecDepth 4000 in
theorem e_uread {κ : xKK} {d : Nat} {M : xM} {t n : Nat} {T : Nat → Int32} (hsh : shp[t]? = some (.inr (0, 120))) (ht1 : t < 130 ∨ 135 < t) (ht : t < 182) (hn : n ≤ 120) (hT : ∀ k, k < n → gI M t k = T k) (hd : 6 ≤ d) : xE2 κ mX6_read d [.ref 130, .ref t, .int (nI n)] M (fun v M' => v = some (.int (if (RX T n (fun i => gI M 131 i) 2 0 0).1 = true ∧ (RX T n (fun i => gI M 131 i) 2 0 0).2.1 = n then -4 else nI (RX T n (fun i => gI M 131 i) 2 0 0).2.1)) ∧ ((RX T n (fun i => gI M 131 i) 2 0 0).1 = true ∧ (RX T n (fun i => gI M 131 i) 2 0 0).2.1 = n → ∃ y a, gI M' 133 0 = bl2 y ∧ gI M' 134 0 = bl2 a ∧ (y || a) = (RX T n (fun i => gI M 131 i) 2 0 0).2.2) ∧ uR M M') := by
  refine xE2_of ci_X6_read cl_X6_read cw_X6_read rfl (L := [some (.ref 130), some (.ref t), some (.int (nI n)), none]) rfl ?_
  have hal : xal t 182 := ⟨⟨0, 120, by decide, hsh⟩, ht⟩
  have hln : nI (xlen t) = nI 120 := by unfold xlen; rw [hsh]
  have hmn : (if nI 120 < nI n then nI 120 else nI n) = nI n := if_neg (nI_nlt hn (by omega))
  have EX1 : ∀ (M2 : xM) (i q : Nat), gI M2 130 2 = nI n → q ≤ n → gI M2 130 3 = nI q → gI M2 130 4 = 1 → (fun (v : Option Value) (M' : xM) => v = some (.int (if (RX T n (fun i => gI M 131 i) 2 0 0).1 = true ∧ (RX T n (fun i => gI M 131 i) 2 0 0).2.1 = n then -4 else nI (RX T n (fun i => gI M 131 i) 2 0 0).2.1)) ∧ ((RX T n (fun i => gI M 131 i) 2 0 0).1 = true ∧ (RX T n (fun i => gI M 131 i) 2 0 0).2.1 = n → ∃ y a, gI M' 133 0 = bl2 y ∧ gI M' 134 0 = bl2 a ∧ (y || a) = (RX T n (fun i => gI M 131 i) 2 0 0).2.2) ∧ uR M M') (some (.int (nI q))) M2 → xG κ mX6_read (d, 0, 0) (36, [some (.ref 130), some (.ref t), some (.int (nI n)), some (.int (nI i))], [], M2, z2) (xRet mX6_read false (fun v M' n' => n' = 182 ∧ (v = some (.int (if (RX T n (fun i => gI M 131 i) 2 0 0).1 = true ∧ (RX T n (fun i => gI M 131 i) 2 0 0).2.1 = n then -4 else nI (RX T n (fun i => gI M 131 i) 2 0 0).2.1)) ∧ ((RX T n (fun i => gI M 131 i) 2 0 0).1 = true ∧ (RX T n (fun i => gI M 131 i) 2 0 0).2.1 = n → ∃ y a, gI M' 133 0 = bl2 y ∧ gI M' 134 0 = bl2 a ∧ (y || a) = (RX T n (fun i => gI M 131 i) 2 0 0).2.2) ∧ uR M M'))) := by
    intro M2 i q m2 hqn m3 m4 hP
    refine xG_run 3 rfl (by repeat' (first | exact trivial | assumption | exact xob_b rfl | exact xal_b rfl | (apply And.intro) | decide)) ?_
    try dsimp only [xsto1, xsto2, xkill, xget, xset, gd_0, gd_s]
    try simp only [m3]
    refine xG_br rfl (fun h41 => ?_) (fun h41 => ?_)
    · refine xG_run 2 rfl (by repeat' (first | exact trivial | assumption | exact xob_b rfl | exact xal_b rfl | (apply And.intro) | decide)) ?_
      try dsimp only [xsto1, xsto2, xkill, xget, xset, gd_0, gd_s]
      try simp only [m3]
      try simp only [m4]
      refine xG_brT rfl (by decide) ?_
      refine xG_run 3 rfl (by repeat' (first | exact trivial | assumption | exact xob_b rfl | exact xal_b rfl | (apply And.intro) | decide)) ?_
      try dsimp only [xsto1, xsto2, xkill, xget, xset, gd_0, gd_s]
      try simp only [m3]
      refine r2_i rfl rfl ?_
      exact hP
    · refine xG_run 4 rfl (by repeat' (first | exact trivial | assumption | exact xob_b rfl | exact xal_b rfl | (apply And.intro) | decide)) ?_
      try dsimp only [xsto1, xsto2, xkill, xget, xset, gd_0, gd_s]
      try simp only [m3]
      try simp only [m2, m3]
      refine xG_br rfl (fun h52 => ?_) (fun h52 => ?_)
      · refine xG_run 2 rfl (by repeat' (first | exact trivial | assumption | exact xob_b rfl | exact xal_b rfl | (apply And.intro) | decide)) ?_
        try dsimp only [xsto1, xsto2, xkill, xget, xset, gd_0, gd_s]
        try simp only [m3]
        try simp only [m4]
        refine xG_brT rfl (by decide) ?_
        refine xG_run 3 rfl (by repeat' (first | exact trivial | assumption | exact xob_b rfl | exact xal_b rfl | (apply And.intro) | decide)) ?_
        try dsimp only [xsto1, xsto2, xkill, xget, xset, gd_0, gd_s]
        try simp only [m3]
        refine r2_i rfl rfl ?_
        exact hP
      · refine xG_run 2 rfl (by repeat' (first | exact trivial | assumption | exact xob_b rfl | exact xal_b rfl | (apply And.intro) | decide)) ?_
        try dsimp only [xsto1, xsto2, xkill, xget, xset, gd_0, gd_s]
        try simp only [m3]
        try simp only [m4]
        refine xG_brT rfl (by decide) ?_
        refine xG_run 2 rfl (by repeat' (first | exact trivial | assumption | exact xob_b rfl | exact xal_b rfl | (apply And.intro) | decide)) ?_
        try dsimp only [xsto1, xsto2, xkill, xget, xset, gd_0, gd_s]
        try simp only [m3]
        try simp only [m4]
        refine xG_brT rfl (by decide) ?_
        refine xG_run 3 rfl (by repeat' (first | exact trivial | assumption | exact xob_b rfl | exact xal_b rfl | (apply And.intro) | decide)) ?_
        try dsimp only [xsto1, xsto2, xkill, xget, xset, gd_0, gd_s]
        try simp only [m3]
        refine r2_i rfl rfl ?_
        exact hP
  have EX2 : ∀ (M2 : xM) (i q : Nat), gI M2 130 2 = nI n → q ≤ n → gI M2 130 3 = nI q → (q = n ∧ gI M2 130 4 = 0 ∧ (gI M2 130 5 = 1 ∨ ∃ j, gI M2 130 6 = nI (j + 1) ∧ j + 1 ≤ 8)) → (fun (v : Option Value) (M' : xM) => v = some (.int (if (RX T n (fun i => gI M 131 i) 2 0 0).1 = true ∧ (RX T n (fun i => gI M 131 i) 2 0 0).2.1 = n then -4 else nI (RX T n (fun i => gI M 131 i) 2 0 0).2.1)) ∧ ((RX T n (fun i => gI M 131 i) 2 0 0).1 = true ∧ (RX T n (fun i => gI M 131 i) 2 0 0).2.1 = n → ∃ y a, gI M' 133 0 = bl2 y ∧ gI M' 134 0 = bl2 a ∧ (y || a) = (RX T n (fun i => gI M 131 i) 2 0 0).2.2) ∧ uR M M') (some (.int (nI q))) M2 → xG κ mX6_read (d, 0, 0) (36, [some (.ref 130), some (.ref t), some (.int (nI n)), some (.int (nI i))], [], M2, z2) (xRet mX6_read false (fun v M' n' => n' = 182 ∧ (v = some (.int (if (RX T n (fun i => gI M 131 i) 2 0 0).1 = true ∧ (RX T n (fun i => gI M 131 i) 2 0 0).2.1 = n then -4 else nI (RX T n (fun i => gI M 131 i) 2 0 0).2.1)) ∧ ((RX T n (fun i => gI M 131 i) 2 0 0).1 = true ∧ (RX T n (fun i => gI M 131 i) 2 0 0).2.1 = n → ∃ y a, gI M' 133 0 = bl2 y ∧ gI M' 134 0 = bl2 a ∧ (y || a) = (RX T n (fun i => gI M 131 i) 2 0 0).2.2) ∧ uR M M'))) := by
    intro M2 i q m2 hqn m3 m4 hP
    obtain ⟨rfl, m4, m5⟩ := m4
    refine xG_run 3 rfl (by repeat' (first | exact trivial | assumption | exact xob_b rfl | exact xal_b rfl | (apply And.intro) | decide)) ?_
    try dsimp only [xsto1, xsto2, xkill, xget, xset, gd_0, gd_s]
    try simp only [m3]
    refine xG_br rfl (fun h41 => ?_) (fun h41 => ?_)
    · refine xG_run 2 rfl (by repeat' (first | exact trivial | assumption | exact xob_b rfl | exact xal_b rfl | (apply And.intro) | decide)) ?_
      try dsimp only [xsto1, xsto2, xkill, xget, xset, gd_0, gd_s]
      try simp only [m3]
      try simp only [m4]
      refine xG_brF rfl (fun z => z rfl) ?_
      refine xG_run 2 rfl (by repeat' (first | exact trivial | assumption | exact xob_b rfl | exact xal_b rfl | (apply And.intro) | decide)) ?_
      try dsimp only [xsto1, xsto2, xkill, xget, xset, gd_0, gd_s]
      try simp only [m3]
      try simp only [m5]
      refine xG_br rfl (fun h97 => ?_) (fun h97 => ?_)
      · refine xG_run 3 rfl (by repeat' (first | exact trivial | assumption | exact xob_b rfl | exact xal_b rfl | (apply And.intro) | decide)) ?_
        try dsimp only [xsto1, xsto2, xkill, xget, xset, gd_0, gd_s]
        try simp only [m3]
        refine r2_i rfl rfl ?_
        exact hP
      · refine xG_run 2 rfl (by repeat' (first | exact trivial | assumption | exact xob_b rfl | exact xal_b rfl | (apply And.intro) | decide)) ?_
        try dsimp only [xsto1, xsto2, xkill, xget, xset, gd_0, gd_s]
        try simp only [m3]
        try simp only [m6]
        refine xG_br rfl (fun h104 => ?_) (fun h104 => ?_)
        · refine xG_run 1 rfl (by repeat' (first | exact trivial | assumption | exact xob_b rfl | exact xal_b rfl | (apply And.intro) | decide)) ?_
          try dsimp only [xsto1, xsto2, xkill, xget, xset, gd_0, gd_s]
          try simp only [m3]
          refine r2_i rfl rfl ?_
          exfalso
          rcases m5 with m5 | ⟨j, m5, hj⟩
          · rw [m5] at h97; exact h97 (by decide)
          · rw [m5] at h104; exact nI_nlt9 (k := 0) (n := j + 1) (by omega) (by omega) h104
        · refine xG_run 3 rfl (by repeat' (first | exact trivial | assumption | exact xob_b rfl | exact xal_b rfl | (apply And.intro) | decide)) ?_
          try dsimp only [xsto1, xsto2, xkill, xget, xset, gd_0, gd_s]
          try simp only [m3]
          refine r2_i rfl rfl ?_
          exact hP
    · refine xG_run 4 rfl (by repeat' (first | exact trivial | assumption | exact xob_b rfl | exact xal_b rfl | (apply And.intro) | decide)) ?_
      try dsimp only [xsto1, xsto2, xkill, xget, xset, gd_0, gd_s]
      try simp only [m3]
      try simp only [m2, m3]
      refine xG_brT rfl (Int32.le_refl _) ?_
      refine xG_run 2 rfl (by repeat' (first | exact trivial | assumption | exact xob_b rfl | exact xal_b rfl | (apply And.intro) | decide)) ?_
      try dsimp only [xsto1, xsto2, xkill, xget, xset, gd_0, gd_s]
      try simp only [m3]
      try simp only [m4]
      refine xG_brF rfl (fun z => z rfl) ?_
      refine xG_run 2 rfl (by repeat' (first | exact trivial | assumption | exact xob_b rfl | exact xal_b rfl | (apply And.intro) | decide)) ?_
      try dsimp only [xsto1, xsto2, xkill, xget, xset, gd_0, gd_s]
      try simp only [m3]
      try simp only [m5]
      refine xG_br rfl (fun h97 => ?_) (fun h97 => ?_)
      · refine xG_run 3 rfl (by repeat' (first | exact trivial | assumption | exact xob_b rfl | exact xal_b rfl | (apply And.intro) | decide)) ?_
        try dsimp only [xsto1, xsto2, xkill, xget, xset, gd_0, gd_s]
        try simp only [m3]
        refine r2_i rfl rfl ?_
        exact hP
      · refine xG_run 2 rfl (by repeat' (first | exact trivial | assumption | exact xob_b rfl | exact xal_b rfl | (apply And.intro) | decide)) ?_
        try dsimp only [xsto1, xsto2, xkill, xget, xset, gd_0, gd_s]
        try simp only [m3]
        try simp only [m6]
        refine xG_br rfl (fun h104 => ?_) (fun h104 => ?_)
        · refine xG_run 1 rfl (by repeat' (first | exact trivial | assumption | exact xob_b rfl | exact xal_b rfl | (apply And.intro) | decide)) ?_
          try dsimp only [xsto1, xsto2, xkill, xget, xset, gd_0, gd_s]
          try simp only [m3]
          refine r2_i rfl rfl ?_
          exfalso
          rcases m5 with m5 | ⟨j, m5, hj⟩
          · rw [m5] at h97; exact h97 (by decide)
          · rw [m5] at h104; exact nI_nlt9 (k := 0) (n := j + 1) (by omega) (by omega) h104
        · refine xG_run 3 rfl (by repeat' (first | exact trivial | assumption | exact xob_b rfl | exact xal_b rfl | (apply And.intro) | decide)) ?_
          try dsimp only [xsto1, xsto2, xkill, xget, xset, gd_0, gd_s]
          try simp only [m3]
          refine r2_i rfl rfl ?_
          exact hP
  have EX3 : ∀ (M2 : xM) (i q : Nat), gI M2 130 2 = nI n → q ≤ n → gI M2 130 3 = nI q → (q = n ∧ gI M2 130 4 = 0 ∧ gI M2 130 5 = 0 ∧ gI M2 130 6 = 0) → (fun (v : Option Value) (M' : xM) => v = some (.int (if (RX T n (fun i => gI M 131 i) 2 0 0).1 = true ∧ (RX T n (fun i => gI M 131 i) 2 0 0).2.1 = n then -4 else nI (RX T n (fun i => gI M 131 i) 2 0 0).2.1)) ∧ ((RX T n (fun i => gI M 131 i) 2 0 0).1 = true ∧ (RX T n (fun i => gI M 131 i) 2 0 0).2.1 = n → ∃ y a, gI M' 133 0 = bl2 y ∧ gI M' 134 0 = bl2 a ∧ (y || a) = (RX T n (fun i => gI M 131 i) 2 0 0).2.2) ∧ uR M M') (some (.int (-4))) M2 → xG κ mX6_read (d, 0, 0) (36, [some (.ref 130), some (.ref t), some (.int (nI n)), some (.int (nI i))], [], M2, z2) (xRet mX6_read false (fun v M' n' => n' = 182 ∧ (v = some (.int (if (RX T n (fun i => gI M 131 i) 2 0 0).1 = true ∧ (RX T n (fun i => gI M 131 i) 2 0 0).2.1 = n then -4 else nI (RX T n (fun i => gI M 131 i) 2 0 0).2.1)) ∧ ((RX T n (fun i => gI M 131 i) 2 0 0).1 = true ∧ (RX T n (fun i => gI M 131 i) 2 0 0).2.1 = n → ∃ y a, gI M' 133 0 = bl2 y ∧ gI M' 134 0 = bl2 a ∧ (y || a) = (RX T n (fun i => gI M 131 i) 2 0 0).2.2) ∧ uR M M'))) := by
    intro M2 i q m2 hqn m3 m4 hP
    obtain ⟨rfl, m4, m5, m6⟩ := m4
    refine xG_run 3 rfl (by repeat' (first | exact trivial | assumption | exact xob_b rfl | exact xal_b rfl | (apply And.intro) | decide)) ?_
    try dsimp only [xsto1, xsto2, xkill, xget, xset, gd_0, gd_s]
    try simp only [m3]
    refine xG_br rfl (fun h41 => ?_) (fun h41 => ?_)
    · refine xG_run 2 rfl (by repeat' (first | exact trivial | assumption | exact xob_b rfl | exact xal_b rfl | (apply And.intro) | decide)) ?_
      try dsimp only [xsto1, xsto2, xkill, xget, xset, gd_0, gd_s]
      try simp only [m3]
      try simp only [m4]
      refine xG_brF rfl (fun z => z rfl) ?_
      refine xG_run 2 rfl (by repeat' (first | exact trivial | assumption | exact xob_b rfl | exact xal_b rfl | (apply And.intro) | decide)) ?_
      try dsimp only [xsto1, xsto2, xkill, xget, xset, gd_0, gd_s]
      try simp only [m3]
      try simp only [m5]
      refine xG_brF rfl (fun z => z rfl) ?_
      refine xG_run 2 rfl (by repeat' (first | exact trivial | assumption | exact xob_b rfl | exact xal_b rfl | (apply And.intro) | decide)) ?_
      try dsimp only [xsto1, xsto2, xkill, xget, xset, gd_0, gd_s]
      try simp only [m3]
      try simp only [m6]
      refine xG_brT rfl (by decide) ?_
      refine xG_run 1 rfl (by repeat' (first | exact trivial | assumption | exact xob_b rfl | exact xal_b rfl | (apply And.intro) | decide)) ?_
      try dsimp only [xsto1, xsto2, xkill, xget, xset, gd_0, gd_s]
      try simp only [m3]
      refine r2_i rfl rfl ?_
      exact hP
    · refine xG_run 4 rfl (by repeat' (first | exact trivial | assumption | exact xob_b rfl | exact xal_b rfl | (apply And.intro) | decide)) ?_
      try dsimp only [xsto1, xsto2, xkill, xget, xset, gd_0, gd_s]
      try simp only [m3]
      try simp only [m2, m3]
      refine xG_brT rfl (Int32.le_refl _) ?_
      refine xG_run 2 rfl (by repeat' (first | exact trivial | assumption | exact xob_b rfl | exact xal_b rfl | (apply And.intro) | decide)) ?_
      try dsimp only [xsto1, xsto2, xkill, xget, xset, gd_0, gd_s]
      try simp only [m3]
      try simp only [m4]
      refine xG_brF rfl (fun z => z rfl) ?_
      refine xG_run 2 rfl (by repeat' (first | exact trivial | assumption | exact xob_b rfl | exact xal_b rfl | (apply And.intro) | decide)) ?_
      try dsimp only [xsto1, xsto2, xkill, xget, xset, gd_0, gd_s]
      try simp only [m3]
      try simp only [m5]
      refine xG_brF rfl (fun z => z rfl) ?_
      refine xG_run 2 rfl (by repeat' (first | exact trivial | assumption | exact xob_b rfl | exact xal_b rfl | (apply And.intro) | decide)) ?_
      try dsimp only [xsto1, xsto2, xkill, xget, xset, gd_0, gd_s]
      try simp only [m3]
      try simp only [m6]
      refine xG_brT rfl (by decide) ?_
      refine xG_run 1 rfl (by repeat' (first | exact trivial | assumption | exact xob_b rfl | exact xal_b rfl | (apply And.intro) | decide)) ?_
      try dsimp only [xsto1, xsto2, xkill, xget, xset, gd_0, gd_s]
      try simp only [m3]
      refine r2_i rfl rfl ?_
      exact hP
  refine xG_run 7 rfl (by repeat' (first | exact trivial | assumption | exact xob_b rfl | exact xal_b rfl | (apply And.intro) | decide)) ?_
  try dsimp only [xsto1, xsto2, xkill, xget, xset, gd_0, gd_s]
  rw [hln]
  refine xG_run 1 rfl (by repeat' (first | exact trivial | assumption | exact xob_b rfl | exact xal_b rfl | (apply And.intro) | decide)) ?_
  try dsimp only [xsto1, xsto2, xkill, xget, xset, gd_0, gd_s]
  rw [hmn]
  refine xG_run 8 rfl (by repeat' (first | exact trivial | assumption | exact xob_b rfl | exact xal_b rfl | (apply And.intro) | decide)) ?_
  try dsimp only [xsto1, xsto2, xkill, xget, xset, gd_0, gd_s]
  refine xG_run 3 rfl (by repeat' (first | exact trivial | assumption | exact xob_b rfl | exact xal_b rfl | (apply And.intro) | decide)) ?_
  try dsimp only [xsto1, xsto2, xkill, xget, xset, gd_0, gd_s]
  refine xG_c2 0 rfl (by repeat' (first | exact trivial | assumption | exact xob_b rfl | exact xal_b rfl | (apply And.intro) | decide)) rfl rfl (by decide) cw_X6_beginOr (d' := d - 1) (e_ubeginOr (M := uM0 M t n) (k := 0) (by omega) (gI_self _ _ _ _)) (by omega) ?_
  rintro v M' ⟨rfl, hM⟩
  subst M'
  dsimp only [Option.toList, List.cons_append, List.nil_append]
  refine xG_run 2 rfl (by repeat' (first | exact trivial | assumption | exact xob_b rfl | exact xal_b rfl | (apply And.intro) | decide)) ?_
  try dsimp only [xsto1, xsto2, xkill, xget, xset, gd_0, gd_s]
  have hG0 : uR M (boM (uM0 M t n) 0) := uR_t uR_0 (uR_G (k := 0) uG_bo)
  have hC0 : uC (boM (uM0 M t n) 0) t n T := uC_G (k := 0) ⟨rfl, (gI_ne (by omega)).trans ((gI_ne (by omega)).trans ((gI_ne (by omega)).trans (gI_self _ _ _ _))), hn, fun k hk => (uR_0.1 _ _ (by omega) (by omega)).trans (hT k hk), hsh, ht1, ht⟩ uG_bo
  have hb0 : uS (boM (uM0 M t n) 0) 0 0 1 false true false := uS_bo ((gI_ne (by omega)).trans ((gI_ne (by omega)).trans (gI_self _ _ _ _))) ((gI_ne (by omega)).trans (gI_self _ _ _ _)) (gI_self _ _ _ _)
  obtain ⟨b1, b2, b3⟩ := RX_b (T := T) (n := n) (φ := (fun i => gI M 131 i)) (m := 2) (k := 0) (p := 0) (Nat.zero_le n)
  refine u_sim (φ := (fun i => gI M 131 i)) (by omega) _ 2 0 0 0 _ false true false rfl (by omega) (Nat.zero_le n) (Nat.le_refl 0) (by omega) hC0 (fun j => hG0.1 _ _ (by omega) (by omega)) (fun j hj => absurd hj (Nat.not_lt_zero j)) hb0 (fun _ => rfl) (fun _ => rfl) (fun M2 i2 y2 a2 g1 g2 g3 g4 g5 => ?_) (fun M2 i2 g1 g2 g3 => ?_)
  · have hC2 := uC_G hC0 g3
    obtain ⟨z3, z4, z5, z6, zy, za, zt⟩ := g4
    have g6 : (y2 || a2) = (false || (RX T n (fun i => gI M 131 i) 2 0 0).2.2) := g5
    rw [Bool.false_or] at g6
    have hR2 := uR_t hG0 (uR_G g3)
    by_cases hqn : (RX T n (fun i => gI M 131 i) 2 0 0).2.1 < n
    · refine u_stepG hC2 z3 hqn z4 z5 z6 (by omega) zy za (a' := false) (t' := false) (fun k' q => absurd q (by omega)) g2 (by omega) (fun M3 hv => ?_)
      rcases hv with ⟨c5, _⟩ | ⟨c5, _⟩ | ⟨_, k9, q9, _⟩ | ⟨_, _, _, rfl⟩
      · exact absurd c5 (RX_e1 _ 0 0 rfl (Nat.zero_le n) g1)
      · exact absurd c5 (RX_e _ 1 0 0 rfl (Nat.zero_le n) g1)
      · exact absurd q9 (by omega)
      · have hne : ¬ ((RX T n (fun i => gI M 131 i) 2 0 0).1 = true ∧ (RX T n (fun i => gI M 131 i) 2 0 0).2.1 = n) := fun z => by omega
        refine EX1 _ _ (RX T n (fun i => gI M 131 i) 2 0 0).2.1 ((gI_ne (by omega)).trans hC2.2.1) b2 ((gI_ne (by omega)).trans z3) (gI_self _ _ _ _) ⟨by rw [if_neg hne], fun z => absurd z hne, uR_t hR2 (uR_i (by omega))⟩
    · have hyn : (RX T n (fun i => gI M 131 i) 2 0 0).1 = true ∧ (RX T n (fun i => gI M 131 i) 2 0 0).2.1 = n := ⟨g1, by omega⟩
      exact EX3 _ _ (RX T n (fun i => gI M 131 i) 2 0 0).2.1 hC2.2.1 b2 z3 ⟨hyn.2, z4, z5, z6⟩ ⟨by rw [if_pos hyn], fun _ => ⟨y2, a2, zy, za, g6⟩, hR2⟩
  · have hC2 := uC_G hC0 g2
    have hne : ¬ ((RX T n (fun i => gI M 131 i) 2 0 0).1 = true ∧ (RX T n (fun i => gI M 131 i) 2 0 0).2.1 = n) := fun z => by rw [g1] at z; exact absurd z.1 (by decide)
    have hP : (fun (v : Option Value) (M' : xM) => v = some (.int (if (RX T n (fun i => gI M 131 i) 2 0 0).1 = true ∧ (RX T n (fun i => gI M 131 i) 2 0 0).2.1 = n then -4 else nI (RX T n (fun i => gI M 131 i) 2 0 0).2.1)) ∧ ((RX T n (fun i => gI M 131 i) 2 0 0).1 = true ∧ (RX T n (fun i => gI M 131 i) 2 0 0).2.1 = n → ∃ y a, gI M' 133 0 = bl2 y ∧ gI M' 134 0 = bl2 a ∧ (y || a) = (RX T n (fun i => gI M 131 i) 2 0 0).2.2) ∧ uR M M') (some (.int (nI (RX T n (fun i => gI M 131 i) 2 0 0).2.1))) M2 := ⟨by rw [if_neg hne], fun z => absurd z hne, uR_t hG0 (uR_G g2)⟩
    rcases g3.2 with w | w
    · exact EX1 M2 i2 _ hC2.2.1 b2 g3.1 w hP
    · exact EX2 M2 i2 _ hC2.2.1 b2 g3.1 w hP
