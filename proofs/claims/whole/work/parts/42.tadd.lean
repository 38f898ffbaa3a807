/-! ===== pieces and ropes are added ===== -/
abbrev cB (M : xM) (np : Nat) : Int32 := if np = 0 then 0 else gI M (6 + (np - 1)) 2
abbrev pcA (np : Nat) (b : Int32) (a : Nat → Int32) : Prop := np < 10 ∧ a 0 ≤ 3 ∧ b < a 1 ∧ a 1 ≤ 99 ∧ 1 ≤ a 2 ∧ a 2 ≤ 99 ∧ a 3 ≤ 99 ∧ 1 ≤ a 4 ∧ a 4 ≤ 99
abbrev rpA (np nr : Nat) (a : Nat → Int32) : Prop := (0 ≤ a 0 ∧ a 0 < nI np) ∧ nr < 12 ∧ 1 ≤ a 1 ∧ a 1 ≤ 99 ∧ 1 ≤ a 2 ∧ a 2 ≤ 99
def cpcM (M : xM) (np : Nat) (a : Nat → Int32) : xM := sI (sI (sI (sI (sI (sI (sI (sI (sI M (6 + np) 0 (nI np)) (6 + np) 1 (a 0)) (6 + np) 2 (a 1)) (6 + np) 3 (a 2)) (6 + np) 4 (a 3)) (6 + np) 5 (a 4)) (6 + np) 6 0) (6 + np) 7 0) 1 1 (nI (np + 1))
def crA (x y : Int32) : Int32 := if x * y / (x + y) < 1 then 1 else x * y / (x + y)
def crpM (M : xM) (nr h : Nat) (a : Nat → Int32) (sd : Int32) : xM := sI (sI (sI (sI (sI (sI (sI (sI M (16 + nr) 0 (a 0)) (16 + nr) 1 sd) (16 + nr) 2 (a 1)) (16 + nr) 3 (a 2)) (16 + nr) 4 (a 3)) (16 + nr) 5 0) (16 + nr) 6 (crA (gI M (6 + h) 2) (a 1))) 1 3 (nI (nr + 1))
theorem nI_p1 {k : Nat} (h : 1 ≤ k) (h2 : k < 2147483648) : nI k - 1 = nI (k - 1) := by
  have e1 : (1 : Int32).toInt = 1 := rfl
  apply Int32.toInt_inj.mp
  rw [fb_subI (by rw [nI_ti h2]; omega) (by rw [nI_ti h2]; omega), nI_ti h2, nI_ti (by omega)]
  omega
set_option maxRecDepth 4000 in
theorem e_addPiece {κ : xKK} {d : Nat} {M : xM} {np : Nat} {a : Nat → Int32} (hn : gI M 1 1 = nI np) (hn2 : np ≤ 10) (hA : ∀ k, k < 5 → gI M 129 k = a k) : xE2 κ mX1_addPiece d [.ref 1, .ref 129] M (fun v M' => (pcA np (cB M np) a ∧ v = some (.int 1) ∧ M' = cpcM M np a) ∨ (¬ pcA np (cB M np) a ∧ v = some (.int 0) ∧ M' = M)) := by
  refine xE2_of ci_X1_addPiece cl_X1_addPiece cw_X1_addPiece rfl (L := [some (.ref 1), some (.ref 129), none, none, none]) rfl ?_
  have hA0 : gI M 129 (0 : Int32).toNatClampNeg = a 0 := hA 0 (by omega)
  have hs0 : xar 129 0 182 0 := xar_n (j := 0) rfl 5 rfl (by omega) (by omega)
  have hA1 : gI M 129 (1 : Int32).toNatClampNeg = a 1 := hA 1 (by omega)
  have hs1 : xar 129 0 182 1 := xar_n (j := 1) rfl 5 rfl (by omega) (by omega)
  have hA2 : gI M 129 (2 : Int32).toNatClampNeg = a 2 := hA 2 (by omega)
  have hs2 : xar 129 0 182 2 := xar_n (j := 2) rfl 5 rfl (by omega) (by omega)
  have hA3 : gI M 129 (3 : Int32).toNatClampNeg = a 3 := hA 3 (by omega)
  have hs3 : xar 129 0 182 3 := xar_n (j := 3) rfl 5 rfl (by omega) (by omega)
  have hA4 : gI M 129 (4 : Int32).toNatClampNeg = a 4 := hA 4 (by omega)
  have hs4 : xar 129 0 182 4 := xar_n (j := 4) rfl 5 rfl (by omega) (by omega)
  refine xG_run 2 rfl (by repeat' (first | exact trivial | assumption | exact xob_b rfl | exact xal_b rfl | (apply And.intro) | decide)) ?_
  try dsimp only [xsto1, xsto2, xkill, xget, xset, gd_0, gd_s]
  try simp (disch := omega) only [gI_self, g_ne, hn, nI_1]
  try rw [hA0]
  try rw [hA1]
  try rw [hA2]
  try rw [hA3]
  try rw [hA4]
  refine xG_br rfl (fun h4 => ?_) (fun h4 => ?_)
  · try rw [hn] at h4
    have h0 : np = 0 := by have := (nI_leI (a := np) (b := 0) (by omega) (by omega)).mp h4; omega
    have hcb : cB M np = 0 := if_pos h0
    refine xG_run 5 rfl (by repeat' (first | exact trivial | assumption | exact xob_b rfl | exact xal_b rfl | (apply And.intro) | decide)) ?_
    try dsimp only [xsto1, xsto2, xkill, xget, xset, gd_0, gd_s]
    try simp (disch := omega) only [gI_self, g_ne, hn, nI_1]
    try rw [hA0]
    try rw [hA1]
    try rw [hA2]
    try rw [hA3]
    try rw [hA4]
    refine xG_br rfl (fun h32 => ?_) (fun h32 => ?_)
    · have hlt : ¬ np < 10 := by intro q; exact nI_nlt9 q (by omega) h32
      refine xG_run 3 rfl (by repeat' (first | exact trivial | assumption | exact xob_b rfl | exact xal_b rfl | (apply And.intro) | decide)) ?_
      try dsimp only [xsto1, xsto2, xkill, xget, xset, gd_0, gd_s]
      try simp (disch := omega) only [gI_self, g_ne, hn, nI_1]
      try rw [hA0]
      try rw [hA1]
      try rw [hA2]
      try rw [hA3]
      try rw [hA4]
      refine xG_br rfl (fun h102 => ?_) (fun h102 => ?_)
      · first
          | (exfalso; first | exact absurd h102 (by decide) | exact h102 (by decide))
          | (refine xG_run 4 rfl (by repeat' (first | exact trivial | assumption | exact xob_b rfl | exact xal_b rfl | (apply And.intro) | decide)) ?_
             try dsimp only [xsto1, xsto2, xkill, xget, xset, gd_0, gd_s]
             try simp (disch := omega) only [gI_self, g_ne, hn, nI_1]
             try rw [hA0]
             try rw [hA1]
             try rw [hA2]
             try rw [hA3]
             try rw [hA4]
             try simp (disch := omega) only [gI_self, g_ne, hn, nI_1]
             refine xG_run 1 rfl (by repeat' (first | exact trivial | assumption | exact xob_b rfl | exact xal_b rfl | (apply And.intro) | decide)) ?_
             try dsimp only [xsto1, xsto2, xkill, xget, xset, gd_0, gd_s]
             try simp (disch := omega) only [gI_self, g_ne, hn, nI_1]
             try rw [hA0]
             try rw [hA1]
             try rw [hA2]
             try rw [hA3]
             try rw [hA4]
             rw [hj0]
             refine xG_run 8 rfl (by repeat' (first | exact trivial | assumption | exact xob_b rfl | exact xal_b rfl | (apply And.intro) | decide)) ?_
             try dsimp only [xsto1, xsto2, xkill, xget, xset, gd_0, gd_s]
             try simp (disch := omega) only [gI_self, g_ne, hn, nI_1]
             try rw [hA0]
             try rw [hA1]
             try rw [hA2]
             try rw [hA3]
             try rw [hA4]
             refine xG_run 8 rfl (by repeat' (first | exact trivial | assumption | exact xob_b rfl | exact xal_b rfl | (apply And.intro) | decide)) ?_
             try dsimp only [xsto1, xsto2, xkill, xget, xset, gd_0, gd_s]
             try simp (disch := omega) only [gI_self, g_ne, hn, nI_1]
             try rw [hA0]
             try rw [hA1]
             try rw [hA2]
             try rw [hA3]
             try rw [hA4]
             refine xG_run 8 rfl (by repeat' (first | exact trivial | assumption | exact xob_b rfl | exact xal_b rfl | (apply And.intro) | decide)) ?_
             try dsimp only [xsto1, xsto2, xkill, xget, xset, gd_0, gd_s]
             try simp (disch := omega) only [gI_self, g_ne, hn, nI_1]
             try rw [hA0]
             try rw [hA1]
             try rw [hA2]
             try rw [hA3]
             try rw [hA4]
             refine xG_run 8 rfl (by repeat' (first | exact trivial | assumption | exact xob_b rfl | exact xal_b rfl | (apply And.intro) | decide)) ?_
             try dsimp only [xsto1, xsto2, xkill, xget, xset, gd_0, gd_s]
             try simp (disch := omega) only [gI_self, g_ne, hn, nI_1]
             try rw [hA0]
             try rw [hA1]
             try rw [hA2]
             try rw [hA3]
             try rw [hA4]
             refine xG_run 8 rfl (by repeat' (first | exact trivial | assumption | exact xob_b rfl | exact xal_b rfl | (apply And.intro) | decide)) ?_
             try dsimp only [xsto1, xsto2, xkill, xget, xset, gd_0, gd_s]
             try simp (disch := omega) only [gI_self, g_ne, hn, nI_1]
             try rw [hA0]
             try rw [hA1]
             try rw [hA2]
             try rw [hA3]
             try rw [hA4]
             refine xG_run 3 rfl (by repeat' (first | exact trivial | assumption | exact xob_b rfl | exact xal_b rfl | (apply And.intro) | decide)) ?_
             try dsimp only [xsto1, xsto2, xkill, xget, xset, gd_0, gd_s]
             try simp (disch := omega) only [gI_self, g_ne, hn, nI_1]
             try rw [hA0]
             try rw [hA1]
             try rw [hA2]
             try rw [hA3]
             try rw [hA4]
             refine r2_z rfl rfl (by first | decide | assumption) ?_
             first
               | exact Or.inl ⟨⟨hlt, by first | exact i_nlt2 h39 | exact h39, by rw [hcb]; first | exact Int32.not_le.mp h46 | exact h46, by first | exact i_nlt2 h54 | exact h54, by first | exact i_nlt2 h61 | exact h61, by first | exact i_nlt2 h69 | exact h69, by first | exact i_nlt2 h77 | exact h77, by first | exact i_nlt2 h84 | exact h84, by first | exact i_nlt2 h92 | exact h92⟩, rfl, rfl⟩
               | (refine Or.inr ⟨?_, rfl, rfl⟩
                  rintro ⟨y1, y2, y3, y4, y5, y6, y7, y8, y9⟩
                  rw [hcb] at y3
                  first
                    | exact hlt y1
                    | exact i_nlt y2 h39
                    | exact i_nlt h46 y3
                    | exact i_nlt y4 h54
                    | exact i_nlt y5 h61
                    | exact i_nlt y6 h69
                    | exact i_nlt y7 h77
                    | exact i_nlt y8 h84
                    | exact h92 y9
                    | exact i_nlt y9 h92))
      · first
          | (exfalso; first | exact absurd h102 (by decide) | exact h102 (by decide))
          | (refine xG_run 1 rfl (by repeat' (first | exact trivial | assumption | exact xob_b rfl | exact xal_b rfl | (apply And.intro) | decide)) ?_
             try dsimp only [xsto1, xsto2, xkill, xget, xset, gd_0, gd_s]
             try simp (disch := omega) only [gI_self, g_ne, hn, nI_1]
             try rw [hA0]
             try rw [hA1]
             try rw [hA2]
             try rw [hA3]
             try rw [hA4]
             refine r2_z rfl rfl (by first | decide | assumption) ?_
             first
               | exact Or.inl ⟨⟨hlt, by first | exact i_nlt2 h39 | exact h39, by rw [hcb]; first | exact Int32.not_le.mp h46 | exact h46, by first | exact i_nlt2 h54 | exact h54, by first | exact i_nlt2 h61 | exact h61, by first | exact i_nlt2 h69 | exact h69, by first | exact i_nlt2 h77 | exact h77, by first | exact i_nlt2 h84 | exact h84, by first | exact i_nlt2 h92 | exact h92⟩, rfl, rfl⟩
               | (refine Or.inr ⟨?_, rfl, rfl⟩
                  rintro ⟨y1, y2, y3, y4, y5, y6, y7, y8, y9⟩
                  rw [hcb] at y3
                  first
                    | exact hlt y1
                    | exact i_nlt y2 h39
                    | exact i_nlt h46 y3
                    | exact i_nlt y4 h54
                    | exact i_nlt y5 h61
                    | exact i_nlt y6 h69
                    | exact i_nlt y7 h77
                    | exact i_nlt y8 h84
                    | exact h92 y9
                    | exact i_nlt y9 h92))
    · have hlt : np < 10 := nI_lt9 (by omega) (by omega) h32
      have hj0 : (nI np).toNatClampNeg = np := nI_cl (by omega)
      have hqa : xqr 2 182 (nI np) := xqr_n rfl 10 rfl (by omega) (by omega)
      have hxa : xob (6 + np) 3 182 := xob_p1 (by omega)
      refine xG_run 4 rfl (by repeat' (first | exact trivial | assumption | exact xob_b rfl | exact xal_b rfl | (apply And.intro) | decide)) ?_
      try dsimp only [xsto1, xsto2, xkill, xget, xset, gd_0, gd_s]
      try simp (disch := omega) only [gI_self, g_ne, hn, nI_1]
      try rw [hA0]
      try rw [hA1]
      try rw [hA2]
      try rw [hA3]
      try rw [hA4]
      refine xG_br rfl (fun h39 => ?_) (fun h39 => ?_)
      · refine xG_run 3 rfl (by repeat' (first | exact trivial | assumption | exact xob_b rfl | exact xal_b rfl | (apply And.intro) | decide)) ?_
        try dsimp only [xsto1, xsto2, xkill, xget, xset, gd_0, gd_s]
        try simp (disch := omega) only [gI_self, g_ne, hn, nI_1]
        try rw [hA0]
        try rw [hA1]
        try rw [hA2]
        try rw [hA3]
        try rw [hA4]
        refine xG_br rfl (fun h102 => ?_) (fun h102 => ?_)
        · first
            | (exfalso; first | exact absurd h102 (by decide) | exact h102 (by decide))
            | (refine xG_run 4 rfl (by repeat' (first | exact trivial | assumption | exact xob_b rfl | exact xal_b rfl | (apply And.intro) | decide)) ?_
               try dsimp only [xsto1, xsto2, xkill, xget, xset, gd_0, gd_s]
               try simp (disch := omega) only [gI_self, g_ne, hn, nI_1]
               try rw [hA0]
               try rw [hA1]
               try rw [hA2]
               try rw [hA3]
               try rw [hA4]
               try simp (disch := omega) only [gI_self, g_ne, hn, nI_1]
               refine xG_run 1 rfl (by repeat' (first | exact trivial | assumption | exact xob_b rfl | exact xal_b rfl | (apply And.intro) | decide)) ?_
               try dsimp only [xsto1, xsto2, xkill, xget, xset, gd_0, gd_s]
               try simp (disch := omega) only [gI_self, g_ne, hn, nI_1]
               try rw [hA0]
               try rw [hA1]
               try rw [hA2]
               try rw [hA3]
               try rw [hA4]
               rw [hj0]
               refine xG_run 8 rfl (by repeat' (first | exact trivial | assumption | exact xob_b rfl | exact xal_b rfl | (apply And.intro) | decide)) ?_
               try dsimp only [xsto1, xsto2, xkill, xget, xset, gd_0, gd_s]
               try simp (disch := omega) only [gI_self, g_ne, hn, nI_1]
               try rw [hA0]
               try rw [hA1]
               try rw [hA2]
               try rw [hA3]
               try rw [hA4]
               refine xG_run 8 rfl (by repeat' (first | exact trivial | assumption | exact xob_b rfl | exact xal_b rfl | (apply And.intro) | decide)) ?_
               try dsimp only [xsto1, xsto2, xkill, xget, xset, gd_0, gd_s]
               try simp (disch := omega) only [gI_self, g_ne, hn, nI_1]
               try rw [hA0]
               try rw [hA1]
               try rw [hA2]
               try rw [hA3]
               try rw [hA4]
               refine xG_run 8 rfl (by repeat' (first | exact trivial | assumption | exact xob_b rfl | exact xal_b rfl | (apply And.intro) | decide)) ?_
               try dsimp only [xsto1, xsto2, xkill, xget, xset, gd_0, gd_s]
               try simp (disch := omega) only [gI_self, g_ne, hn, nI_1]
               try rw [hA0]
               try rw [hA1]
               try rw [hA2]
               try rw [hA3]
               try rw [hA4]
               refine xG_run 8 rfl (by repeat' (first | exact trivial | assumption | exact xob_b rfl | exact xal_b rfl | (apply And.intro) | decide)) ?_
               try dsimp only [xsto1, xsto2, xkill, xget, xset, gd_0, gd_s]
               try simp (disch := omega) only [gI_self, g_ne, hn, nI_1]
               try rw [hA0]
               try rw [hA1]
               try rw [hA2]
               try rw [hA3]
               try rw [hA4]
               refine xG_run 8 rfl (by repeat' (first | exact trivial | assumption | exact xob_b rfl | exact xal_b rfl | (apply And.intro) | decide)) ?_
               try dsimp only [xsto1, xsto2, xkill, xget, xset, gd_0, gd_s]
               try simp (disch := omega) only [gI_self, g_ne, hn, nI_1]
               try rw [hA0]
               try rw [hA1]
               try rw [hA2]
               try rw [hA3]
               try rw [hA4]
               refine xG_run 3 rfl (by repeat' (first | exact trivial | assumption | exact xob_b rfl | exact xal_b rfl | (apply And.intro) | decide)) ?_
               try dsimp only [xsto1, xsto2, xkill, xget, xset, gd_0, gd_s]
               try simp (disch := omega) only [gI_self, g_ne, hn, nI_1]
               try rw [hA0]
               try rw [hA1]
               try rw [hA2]
               try rw [hA3]
               try rw [hA4]
               refine r2_z rfl rfl (by first | decide | assumption) ?_
               first
                 | exact Or.inl ⟨⟨hlt, by first | exact i_nlt2 h39 | exact h39, by rw [hcb]; first | exact Int32.not_le.mp h46 | exact h46, by first | exact i_nlt2 h54 | exact h54, by first | exact i_nlt2 h61 | exact h61, by first | exact i_nlt2 h69 | exact h69, by first | exact i_nlt2 h77 | exact h77, by first | exact i_nlt2 h84 | exact h84, by first | exact i_nlt2 h92 | exact h92⟩, rfl, rfl⟩
                 | (refine Or.inr ⟨?_, rfl, rfl⟩
                    rintro ⟨y1, y2, y3, y4, y5, y6, y7, y8, y9⟩
                    rw [hcb] at y3
                    first
                      | exact hlt y1
                      | exact i_nlt y2 h39
                      | exact i_nlt h46 y3
                      | exact i_nlt y4 h54
                      | exact i_nlt y5 h61
                      | exact i_nlt y6 h69
                      | exact i_nlt y7 h77
                      | exact i_nlt y8 h84
                      | exact h92 y9
                      | exact i_nlt y9 h92))
        · first
            | (exfalso; first | exact absurd h102 (by decide) | exact h102 (by decide))
            | (refine xG_run 1 rfl (by repeat' (first | exact trivial | assumption | exact xob_b rfl | exact xal_b rfl | (apply And.intro) | decide)) ?_
               try dsimp only [xsto1, xsto2, xkill, xget, xset, gd_0, gd_s]
               try simp (disch := omega) only [gI_self, g_ne, hn, nI_1]
               try rw [hA0]
               try rw [hA1]
               try rw [hA2]
               try rw [hA3]
               try rw [hA4]
               refine r2_z rfl rfl (by first | decide | assumption) ?_
               first
                 | exact Or.inl ⟨⟨hlt, by first | exact i_nlt2 h39 | exact h39, by rw [hcb]; first | exact Int32.not_le.mp h46 | exact h46, by first | exact i_nlt2 h54 | exact h54, by first | exact i_nlt2 h61 | exact h61, by first | exact i_nlt2 h69 | exact h69, by first | exact i_nlt2 h77 | exact h77, by first | exact i_nlt2 h84 | exact h84, by first | exact i_nlt2 h92 | exact h92⟩, rfl, rfl⟩
                 | (refine Or.inr ⟨?_, rfl, rfl⟩
                    rintro ⟨y1, y2, y3, y4, y5, y6, y7, y8, y9⟩
                    rw [hcb] at y3
                    first
                      | exact hlt y1
                      | exact i_nlt y2 h39
                      | exact i_nlt h46 y3
                      | exact i_nlt y4 h54
                      | exact i_nlt y5 h61
                      | exact i_nlt y6 h69
                      | exact i_nlt y7 h77
                      | exact i_nlt y8 h84
                      | exact h92 y9
                      | exact i_nlt y9 h92))
      · refine xG_run 4 rfl (by repeat' (first | exact trivial | assumption | exact xob_b rfl | exact xal_b rfl | (apply And.intro) | decide)) ?_
        try dsimp only [xsto1, xsto2, xkill, xget, xset, gd_0, gd_s]
        try simp (disch := omega) only [gI_self, g_ne, hn, nI_1]
        try rw [hA0]
        try rw [hA1]
        try rw [hA2]
        try rw [hA3]
        try rw [hA4]
        refine xG_br rfl (fun h46 => ?_) (fun h46 => ?_)
        · refine xG_run 3 rfl (by repeat' (first | exact trivial | assumption | exact xob_b rfl | exact xal_b rfl | (apply And.intro) | decide)) ?_
          try dsimp only [xsto1, xsto2, xkill, xget, xset, gd_0, gd_s]
          try simp (disch := omega) only [gI_self, g_ne, hn, nI_1]
          try rw [hA0]
          try rw [hA1]
          try rw [hA2]
          try rw [hA3]
          try rw [hA4]
          refine xG_br rfl (fun h102 => ?_) (fun h102 => ?_)
          · first
              | (exfalso; first | exact absurd h102 (by decide) | exact h102 (by decide))
              | (refine xG_run 4 rfl (by repeat' (first | exact trivial | assumption | exact xob_b rfl | exact xal_b rfl | (apply And.intro) | decide)) ?_
                 try dsimp only [xsto1, xsto2, xkill, xget, xset, gd_0, gd_s]
                 try simp (disch := omega) only [gI_self, g_ne, hn, nI_1]
                 try rw [hA0]
                 try rw [hA1]
                 try rw [hA2]
                 try rw [hA3]
                 try rw [hA4]
                 try simp (disch := omega) only [gI_self, g_ne, hn, nI_1]
                 refine xG_run 1 rfl (by repeat' (first | exact trivial | assumption | exact xob_b rfl | exact xal_b rfl | (apply And.intro) | decide)) ?_
                 try dsimp only [xsto1, xsto2, xkill, xget, xset, gd_0, gd_s]
                 try simp (disch := omega) only [gI_self, g_ne, hn, nI_1]
                 try rw [hA0]
                 try rw [hA1]
                 try rw [hA2]
                 try rw [hA3]
                 try rw [hA4]
                 rw [hj0]
                 refine xG_run 8 rfl (by repeat' (first | exact trivial | assumption | exact xob_b rfl | exact xal_b rfl | (apply And.intro) | decide)) ?_
                 try dsimp only [xsto1, xsto2, xkill, xget, xset, gd_0, gd_s]
                 try simp (disch := omega) only [gI_self, g_ne, hn, nI_1]
                 try rw [hA0]
                 try rw [hA1]
                 try rw [hA2]
                 try rw [hA3]
                 try rw [hA4]
                 refine xG_run 8 rfl (by repeat' (first | exact trivial | assumption | exact xob_b rfl | exact xal_b rfl | (apply And.intro) | decide)) ?_
                 try dsimp only [xsto1, xsto2, xkill, xget, xset, gd_0, gd_s]
                 try simp (disch := omega) only [gI_self, g_ne, hn, nI_1]
                 try rw [hA0]
                 try rw [hA1]
                 try rw [hA2]
                 try rw [hA3]
                 try rw [hA4]
                 refine xG_run 8 rfl (by repeat' (first | exact trivial | assumption | exact xob_b rfl | exact xal_b rfl | (apply And.intro) | decide)) ?_
                 try dsimp only [xsto1, xsto2, xkill, xget, xset, gd_0, gd_s]
                 try simp (disch := omega) only [gI_self, g_ne, hn, nI_1]
                 try rw [hA0]
                 try rw [hA1]
                 try rw [hA2]
                 try rw [hA3]
                 try rw [hA4]
                 refine xG_run 8 rfl (by repeat' (first | exact trivial | assumption | exact xob_b rfl | exact xal_b rfl | (apply And.intro) | decide)) ?_
                 try dsimp only [xsto1, xsto2, xkill, xget, xset, gd_0, gd_s]
                 try simp (disch := omega) only [gI_self, g_ne, hn, nI_1]
                 try rw [hA0]
                 try rw [hA1]
                 try rw [hA2]
                 try rw [hA3]
                 try rw [hA4]
                 refine xG_run 8 rfl (by repeat' (first | exact trivial | assumption | exact xob_b rfl | exact xal_b rfl | (apply And.intro) | decide)) ?_
                 try dsimp only [xsto1, xsto2, xkill, xget, xset, gd_0, gd_s]
                 try simp (disch := omega) only [gI_self, g_ne, hn, nI_1]
                 try rw [hA0]
                 try rw [hA1]
                 try rw [hA2]
                 try rw [hA3]
                 try rw [hA4]
                 refine xG_run 3 rfl (by repeat' (first | exact trivial | assumption | exact xob_b rfl | exact xal_b rfl | (apply And.intro) | decide)) ?_
                 try dsimp only [xsto1, xsto2, xkill, xget, xset, gd_0, gd_s]
                 try simp (disch := omega) only [gI_self, g_ne, hn, nI_1]
                 try rw [hA0]
                 try rw [hA1]
                 try rw [hA2]
                 try rw [hA3]
                 try rw [hA4]
                 refine r2_z rfl rfl (by first | decide | assumption) ?_
                 first
                   | exact Or.inl ⟨⟨hlt, by first | exact i_nlt2 h39 | exact h39, by rw [hcb]; first | exact Int32.not_le.mp h46 | exact h46, by first | exact i_nlt2 h54 | exact h54, by first | exact i_nlt2 h61 | exact h61, by first | exact i_nlt2 h69 | exact h69, by first | exact i_nlt2 h77 | exact h77, by first | exact i_nlt2 h84 | exact h84, by first | exact i_nlt2 h92 | exact h92⟩, rfl, rfl⟩
                   | (refine Or.inr ⟨?_, rfl, rfl⟩
                      rintro ⟨y1, y2, y3, y4, y5, y6, y7, y8, y9⟩
                      rw [hcb] at y3
                      first
                        | exact hlt y1
                        | exact i_nlt y2 h39
                        | exact i_nlt h46 y3
                        | exact i_nlt y4 h54
                        | exact i_nlt y5 h61
                        | exact i_nlt y6 h69
                        | exact i_nlt y7 h77
                        | exact i_nlt y8 h84
                        | exact h92 y9
                        | exact i_nlt y9 h92))
          · first
              | (exfalso; first | exact absurd h102 (by decide) | exact h102 (by decide))
              | (refine xG_run 1 rfl (by repeat' (first | exact trivial | assumption | exact xob_b rfl | exact xal_b rfl | (apply And.intro) | decide)) ?_
                 try dsimp only [xsto1, xsto2, xkill, xget, xset, gd_0, gd_s]
                 try simp (disch := omega) only [gI_self, g_ne, hn, nI_1]
                 try rw [hA0]
                 try rw [hA1]
                 try rw [hA2]
                 try rw [hA3]
                 try rw [hA4]
                 refine r2_z rfl rfl (by first | decide | assumption) ?_
                 first
                   | exact Or.inl ⟨⟨hlt, by first | exact i_nlt2 h39 | exact h39, by rw [hcb]; first | exact Int32.not_le.mp h46 | exact h46, by first | exact i_nlt2 h54 | exact h54, by first | exact i_nlt2 h61 | exact h61, by first | exact i_nlt2 h69 | exact h69, by first | exact i_nlt2 h77 | exact h77, by first | exact i_nlt2 h84 | exact h84, by first | exact i_nlt2 h92 | exact h92⟩, rfl, rfl⟩
                   | (refine Or.inr ⟨?_, rfl, rfl⟩
                      rintro ⟨y1, y2, y3, y4, y5, y6, y7, y8, y9⟩
                      rw [hcb] at y3
                      first
                        | exact hlt y1
                        | exact i_nlt y2 h39
                        | exact i_nlt h46 y3
                        | exact i_nlt y4 h54
                        | exact i_nlt y5 h61
                        | exact i_nlt y6 h69
                        | exact i_nlt y7 h77
                        | exact i_nlt y8 h84
                        | exact h92 y9
                        | exact i_nlt y9 h92))
        · refine xG_run 4 rfl (by repeat' (first | exact trivial | assumption | exact xob_b rfl | exact xal_b rfl | (apply And.intro) | decide)) ?_
          try dsimp only [xsto1, xsto2, xkill, xget, xset, gd_0, gd_s]
          try simp (disch := omega) only [gI_self, g_ne, hn, nI_1]
          try rw [hA0]
          try rw [hA1]
          try rw [hA2]
          try rw [hA3]
          try rw [hA4]
          refine xG_br rfl (fun h54 => ?_) (fun h54 => ?_)
          · refine xG_run 3 rfl (by repeat' (first | exact trivial | assumption | exact xob_b rfl | exact xal_b rfl | (apply And.intro) | decide)) ?_
            try dsimp only [xsto1, xsto2, xkill, xget, xset, gd_0, gd_s]
            try simp (disch := omega) only [gI_self, g_ne, hn, nI_1]
            try rw [hA0]
            try rw [hA1]
            try rw [hA2]
            try rw [hA3]
            try rw [hA4]
            refine xG_br rfl (fun h102 => ?_) (fun h102 => ?_)
            · first
                | (exfalso; first | exact absurd h102 (by decide) | exact h102 (by decide))
                | (refine xG_run 4 rfl (by repeat' (first | exact trivial | assumption | exact xob_b rfl | exact xal_b rfl | (apply And.intro) | decide)) ?_
                   try dsimp only [xsto1, xsto2, xkill, xget, xset, gd_0, gd_s]
                   try simp (disch := omega) only [gI_self, g_ne, hn, nI_1]
                   try rw [hA0]
                   try rw [hA1]
                   try rw [hA2]
                   try rw [hA3]
                   try rw [hA4]
                   try simp (disch := omega) only [gI_self, g_ne, hn, nI_1]
                   refine xG_run 1 rfl (by repeat' (first | exact trivial | assumption | exact xob_b rfl | exact xal_b rfl | (apply And.intro) | decide)) ?_
                   try dsimp only [xsto1, xsto2, xkill, xget, xset, gd_0, gd_s]
                   try simp (disch := omega) only [gI_self, g_ne, hn, nI_1]
                   try rw [hA0]
                   try rw [hA1]
                   try rw [hA2]
                   try rw [hA3]
                   try rw [hA4]
                   rw [hj0]
                   refine xG_run 8 rfl (by repeat' (first | exact trivial | assumption | exact xob_b rfl | exact xal_b rfl | (apply And.intro) | decide)) ?_
                   try dsimp only [xsto1, xsto2, xkill, xget, xset, gd_0, gd_s]
                   try simp (disch := omega) only [gI_self, g_ne, hn, nI_1]
                   try rw [hA0]
                   try rw [hA1]
                   try rw [hA2]
                   try rw [hA3]
                   try rw [hA4]
                   refine xG_run 8 rfl (by repeat' (first | exact trivial | assumption | exact xob_b rfl | exact xal_b rfl | (apply And.intro) | decide)) ?_
                   try dsimp only [xsto1, xsto2, xkill, xget, xset, gd_0, gd_s]
                   try simp (disch := omega) only [gI_self, g_ne, hn, nI_1]
                   try rw [hA0]
                   try rw [hA1]
                   try rw [hA2]
                   try rw [hA3]
                   try rw [hA4]
                   refine xG_run 8 rfl (by repeat' (first | exact trivial | assumption | exact xob_b rfl | exact xal_b rfl | (apply And.intro) | decide)) ?_
                   try dsimp only [xsto1, xsto2, xkill, xget, xset, gd_0, gd_s]
                   try simp (disch := omega) only [gI_self, g_ne, hn, nI_1]
                   try rw [hA0]
                   try rw [hA1]
                   try rw [hA2]
                   try rw [hA3]
                   try rw [hA4]
                   refine xG_run 8 rfl (by repeat' (first | exact trivial | assumption | exact xob_b rfl | exact xal_b rfl | (apply And.intro) | decide)) ?_
                   try dsimp only [xsto1, xsto2, xkill, xget, xset, gd_0, gd_s]
                   try simp (disch := omega) only [gI_self, g_ne, hn, nI_1]
                   try rw [hA0]
                   try rw [hA1]
                   try rw [hA2]
                   try rw [hA3]
                   try rw [hA4]
                   refine xG_run 8 rfl (by repeat' (first | exact trivial | assumption | exact xob_b rfl | exact xal_b rfl | (apply And.intro) | decide)) ?_
                   try dsimp only [xsto1, xsto2, xkill, xget, xset, gd_0, gd_s]
                   try simp (disch := omega) only [gI_self, g_ne, hn, nI_1]
                   try rw [hA0]
                   try rw [hA1]
                   try rw [hA2]
                   try rw [hA3]
                   try rw [hA4]
                   refine xG_run 3 rfl (by repeat' (first | exact trivial | assumption | exact xob_b rfl | exact xal_b rfl | (apply And.intro) | decide)) ?_
                   try dsimp only [xsto1, xsto2, xkill, xget, xset, gd_0, gd_s]
                   try simp (disch := omega) only [gI_self, g_ne, hn, nI_1]
                   try rw [hA0]
                   try rw [hA1]
                   try rw [hA2]
                   try rw [hA3]
                   try rw [hA4]
                   refine r2_z rfl rfl (by first | decide | assumption) ?_
                   first
                     | exact Or.inl ⟨⟨hlt, by first | exact i_nlt2 h39 | exact h39, by rw [hcb]; first | exact Int32.not_le.mp h46 | exact h46, by first | exact i_nlt2 h54 | exact h54, by first | exact i_nlt2 h61 | exact h61, by first | exact i_nlt2 h69 | exact h69, by first | exact i_nlt2 h77 | exact h77, by first | exact i_nlt2 h84 | exact h84, by first | exact i_nlt2 h92 | exact h92⟩, rfl, rfl⟩
                     | (refine Or.inr ⟨?_, rfl, rfl⟩
                        rintro ⟨y1, y2, y3, y4, y5, y6, y7, y8, y9⟩
                        rw [hcb] at y3
                        first
                          | exact hlt y1
                          | exact i_nlt y2 h39
                          | exact i_nlt h46 y3
                          | exact i_nlt y4 h54
                          | exact i_nlt y5 h61
                          | exact i_nlt y6 h69
                          | exact i_nlt y7 h77
                          | exact i_nlt y8 h84
                          | exact h92 y9
                          | exact i_nlt y9 h92))
            · first
                | (exfalso; first | exact absurd h102 (by decide) | exact h102 (by decide))
                | (refine xG_run 1 rfl (by repeat' (first | exact trivial | assumption | exact xob_b rfl | exact xal_b rfl | (apply And.intro) | decide)) ?_
                   try dsimp only [xsto1, xsto2, xkill, xget, xset, gd_0, gd_s]
                   try simp (disch := omega) only [gI_self, g_ne, hn, nI_1]
                   try rw [hA0]
                   try rw [hA1]
                   try rw [hA2]
                   try rw [hA3]
                   try rw [hA4]
                   refine r2_z rfl rfl (by first | decide | assumption) ?_
                   first
                     | exact Or.inl ⟨⟨hlt, by first | exact i_nlt2 h39 | exact h39, by rw [hcb]; first | exact Int32.not_le.mp h46 | exact h46, by first | exact i_nlt2 h54 | exact h54, by first | exact i_nlt2 h61 | exact h61, by first | exact i_nlt2 h69 | exact h69, by first | exact i_nlt2 h77 | exact h77, by first | exact i_nlt2 h84 | exact h84, by first | exact i_nlt2 h92 | exact h92⟩, rfl, rfl⟩
                     | (refine Or.inr ⟨?_, rfl, rfl⟩
                        rintro ⟨y1, y2, y3, y4, y5, y6, y7, y8, y9⟩
                        rw [hcb] at y3
                        first
                          | exact hlt y1
                          | exact i_nlt y2 h39
                          | exact i_nlt h46 y3
                          | exact i_nlt y4 h54
                          | exact i_nlt y5 h61
                          | exact i_nlt y6 h69
                          | exact i_nlt y7 h77
                          | exact i_nlt y8 h84
                          | exact h92 y9
                          | exact i_nlt y9 h92))
          · refine xG_run 4 rfl (by repeat' (first | exact trivial | assumption | exact xob_b rfl | exact xal_b rfl | (apply And.intro) | decide)) ?_
            try dsimp only [xsto1, xsto2, xkill, xget, xset, gd_0, gd_s]
            try simp (disch := omega) only [gI_self, g_ne, hn, nI_1]
            try rw [hA0]
            try rw [hA1]
            try rw [hA2]
            try rw [hA3]
            try rw [hA4]
            refine xG_br rfl (fun h61 => ?_) (fun h61 => ?_)
            · refine xG_run 3 rfl (by repeat' (first | exact trivial | assumption | exact xob_b rfl | exact xal_b rfl | (apply And.intro) | decide)) ?_
              try dsimp only [xsto1, xsto2, xkill, xget, xset, gd_0, gd_s]
              try simp (disch := omega) only [gI_self, g_ne, hn, nI_1]
              try rw [hA0]
              try rw [hA1]
              try rw [hA2]
              try rw [hA3]
              try rw [hA4]
              refine xG_br rfl (fun h102 => ?_) (fun h102 => ?_)
              · first
                  | (exfalso; first | exact absurd h102 (by decide) | exact h102 (by decide))
                  | (refine xG_run 4 rfl (by repeat' (first | exact trivial | assumption | exact xob_b rfl | exact xal_b rfl | (apply And.intro) | decide)) ?_
                     try dsimp only [xsto1, xsto2, xkill, xget, xset, gd_0, gd_s]
                     try simp (disch := omega) only [gI_self, g_ne, hn, nI_1]
                     try rw [hA0]
                     try rw [hA1]
                     try rw [hA2]
                     try rw [hA3]
                     try rw [hA4]
                     try simp (disch := omega) only [gI_self, g_ne, hn, nI_1]
                     refine xG_run 1 rfl (by repeat' (first | exact trivial | assumption | exact xob_b rfl | exact xal_b rfl | (apply And.intro) | decide)) ?_
                     try dsimp only [xsto1, xsto2, xkill, xget, xset, gd_0, gd_s]
                     try simp (disch := omega) only [gI_self, g_ne, hn, nI_1]
                     try rw [hA0]
                     try rw [hA1]
                     try rw [hA2]
                     try rw [hA3]
                     try rw [hA4]
                     rw [hj0]
                     refine xG_run 8 rfl (by repeat' (first | exact trivial | assumption | exact xob_b rfl | exact xal_b rfl | (apply And.intro) | decide)) ?_
                     try dsimp only [xsto1, xsto2, xkill, xget, xset, gd_0, gd_s]
                     try simp (disch := omega) only [gI_self, g_ne, hn, nI_1]
                     try rw [hA0]
                     try rw [hA1]
                     try rw [hA2]
                     try rw [hA3]
                     try rw [hA4]
                     refine xG_run 8 rfl (by repeat' (first | exact trivial | assumption | exact xob_b rfl | exact xal_b rfl | (apply And.intro) | decide)) ?_
                     try dsimp only [xsto1, xsto2, xkill, xget, xset, gd_0, gd_s]
                     try simp (disch := omega) only [gI_self, g_ne, hn, nI_1]
                     try rw [hA0]
                     try rw [hA1]
                     try rw [hA2]
                     try rw [hA3]
                     try rw [hA4]
                     refine xG_run 8 rfl (by repeat' (first | exact trivial | assumption | exact xob_b rfl | exact xal_b rfl | (apply And.intro) | decide)) ?_
                     try dsimp only [xsto1, xsto2, xkill, xget, xset, gd_0, gd_s]
                     try simp (disch := omega) only [gI_self, g_ne, hn, nI_1]
                     try rw [hA0]
                     try rw [hA1]
                     try rw [hA2]
                     try rw [hA3]
                     try rw [hA4]
                     refine xG_run 8 rfl (by repeat' (first | exact trivial | assumption | exact xob_b rfl | exact xal_b rfl | (apply And.intro) | decide)) ?_
                     try dsimp only [xsto1, xsto2, xkill, xget, xset, gd_0, gd_s]
                     try simp (disch := omega) only [gI_self, g_ne, hn, nI_1]
                     try rw [hA0]
                     try rw [hA1]
                     try rw [hA2]
                     try rw [hA3]
                     try rw [hA4]
                     refine xG_run 8 rfl (by repeat' (first | exact trivial | assumption | exact xob_b rfl | exact xal_b rfl | (apply And.intro) | decide)) ?_
                     try dsimp only [xsto1, xsto2, xkill, xget, xset, gd_0, gd_s]
                     try simp (disch := omega) only [gI_self, g_ne, hn, nI_1]
                     try rw [hA0]
                     try rw [hA1]
                     try rw [hA2]
                     try rw [hA3]
                     try rw [hA4]
                     refine xG_run 3 rfl (by repeat' (first | exact trivial | assumption | exact xob_b rfl | exact xal_b rfl | (apply And.intro) | decide)) ?_
                     try dsimp only [xsto1, xsto2, xkill, xget, xset, gd_0, gd_s]
                     try simp (disch := omega) only [gI_self, g_ne, hn, nI_1]
                     try rw [hA0]
                     try rw [hA1]
                     try rw [hA2]
                     try rw [hA3]
                     try rw [hA4]
                     refine r2_z rfl rfl (by first | decide | assumption) ?_
                     first
                       | exact Or.inl ⟨⟨hlt, by first | exact i_nlt2 h39 | exact h39, by rw [hcb]; first | exact Int32.not_le.mp h46 | exact h46, by first | exact i_nlt2 h54 | exact h54, by first | exact i_nlt2 h61 | exact h61, by first | exact i_nlt2 h69 | exact h69, by first | exact i_nlt2 h77 | exact h77, by first | exact i_nlt2 h84 | exact h84, by first | exact i_nlt2 h92 | exact h92⟩, rfl, rfl⟩
                       | (refine Or.inr ⟨?_, rfl, rfl⟩
                          rintro ⟨y1, y2, y3, y4, y5, y6, y7, y8, y9⟩
                          rw [hcb] at y3
                          first
                            | exact hlt y1
                            | exact i_nlt y2 h39
                            | exact i_nlt h46 y3
                            | exact i_nlt y4 h54
                            | exact i_nlt y5 h61
                            | exact i_nlt y6 h69
                            | exact i_nlt y7 h77
                            | exact i_nlt y8 h84
                            | exact h92 y9
                            | exact i_nlt y9 h92))
              · first
                  | (exfalso; first | exact absurd h102 (by decide) | exact h102 (by decide))
                  | (refine xG_run 1 rfl (by repeat' (first | exact trivial | assumption | exact xob_b rfl | exact xal_b rfl | (apply And.intro) | decide)) ?_
                     try dsimp only [xsto1, xsto2, xkill, xget, xset, gd_0, gd_s]
                     try simp (disch := omega) only [gI_self, g_ne, hn, nI_1]
                     try rw [hA0]
                     try rw [hA1]
                     try rw [hA2]
                     try rw [hA3]
                     try rw [hA4]
                     refine r2_z rfl rfl (by first | decide | assumption) ?_
                     first
                       | exact Or.inl ⟨⟨hlt, by first | exact i_nlt2 h39 | exact h39, by rw [hcb]; first | exact Int32.not_le.mp h46 | exact h46, by first | exact i_nlt2 h54 | exact h54, by first | exact i_nlt2 h61 | exact h61, by first | exact i_nlt2 h69 | exact h69, by first | exact i_nlt2 h77 | exact h77, by first | exact i_nlt2 h84 | exact h84, by first | exact i_nlt2 h92 | exact h92⟩, rfl, rfl⟩
                       | (refine Or.inr ⟨?_, rfl, rfl⟩
                          rintro ⟨y1, y2, y3, y4, y5, y6, y7, y8, y9⟩
                          rw [hcb] at y3
                          first
                            | exact hlt y1
                            | exact i_nlt y2 h39
                            | exact i_nlt h46 y3
                            | exact i_nlt y4 h54
                            | exact i_nlt y5 h61
                            | exact i_nlt y6 h69
                            | exact i_nlt y7 h77
                            | exact i_nlt y8 h84
                            | exact h92 y9
                            | exact i_nlt y9 h92))
            · refine xG_run 4 rfl (by repeat' (first | exact trivial | assumption | exact xob_b rfl | exact xal_b rfl | (apply And.intro) | decide)) ?_
              try dsimp only [xsto1, xsto2, xkill, xget, xset, gd_0, gd_s]
              try simp (disch := omega) only [gI_self, g_ne, hn, nI_1]
              try rw [hA0]
              try rw [hA1]
              try rw [hA2]
              try rw [hA3]
              try rw [hA4]
              refine xG_br rfl (fun h69 => ?_) (fun h69 => ?_)
              · refine xG_run 3 rfl (by repeat' (first | exact trivial | assumption | exact xob_b rfl | exact xal_b rfl | (apply And.intro) | decide)) ?_
                try dsimp only [xsto1, xsto2, xkill, xget, xset, gd_0, gd_s]
                try simp (disch := omega) only [gI_self, g_ne, hn, nI_1]
                try rw [hA0]
                try rw [hA1]
                try rw [hA2]
                try rw [hA3]
                try rw [hA4]
                refine xG_br rfl (fun h102 => ?_) (fun h102 => ?_)
                · first
                    | (exfalso; first | exact absurd h102 (by decide) | exact h102 (by decide))
                    | (refine xG_run 4 rfl (by repeat' (first | exact trivial | assumption | exact xob_b rfl | exact xal_b rfl | (apply And.intro) | decide)) ?_
                       try dsimp only [xsto1, xsto2, xkill, xget, xset, gd_0, gd_s]
                       try simp (disch := omega) only [gI_self, g_ne, hn, nI_1]
                       try rw [hA0]
                       try rw [hA1]
                       try rw [hA2]
                       try rw [hA3]
                       try rw [hA4]
                       try simp (disch := omega) only [gI_self, g_ne, hn, nI_1]
                       refine xG_run 1 rfl (by repeat' (first | exact trivial | assumption | exact xob_b rfl | exact xal_b rfl | (apply And.intro) | decide)) ?_
                       try dsimp only [xsto1, xsto2, xkill, xget, xset, gd_0, gd_s]
                       try simp (disch := omega) only [gI_self, g_ne, hn, nI_1]
                       try rw [hA0]
                       try rw [hA1]
                       try rw [hA2]
                       try rw [hA3]
                       try rw [hA4]
                       rw [hj0]
                       refine xG_run 8 rfl (by repeat' (first | exact trivial | assumption | exact xob_b rfl | exact xal_b rfl | (apply And.intro) | decide)) ?_
                       try dsimp only [xsto1, xsto2, xkill, xget, xset, gd_0, gd_s]
                       try simp (disch := omega) only [gI_self, g_ne, hn, nI_1]
                       try rw [hA0]
                       try rw [hA1]
                       try rw [hA2]
                       try rw [hA3]
                       try rw [hA4]
                       refine xG_run 8 rfl (by repeat' (first | exact trivial | assumption | exact xob_b rfl | exact xal_b rfl | (apply And.intro) | decide)) ?_
                       try dsimp only [xsto1, xsto2, xkill, xget, xset, gd_0, gd_s]
                       try simp (disch := omega) only [gI_self, g_ne, hn, nI_1]
                       try rw [hA0]
                       try rw [hA1]
                       try rw [hA2]
                       try rw [hA3]
                       try rw [hA4]
                       refine xG_run 8 rfl (by repeat' (first | exact trivial | assumption | exact xob_b rfl | exact xal_b rfl | (apply And.intro) | decide)) ?_
                       try dsimp only [xsto1, xsto2, xkill, xget, xset, gd_0, gd_s]
                       try simp (disch := omega) only [gI_self, g_ne, hn, nI_1]
                       try rw [hA0]
                       try rw [hA1]
                       try rw [hA2]
                       try rw [hA3]
                       try rw [hA4]
                       refine xG_run 8 rfl (by repeat' (first | exact trivial | assumption | exact xob_b rfl | exact xal_b rfl | (apply And.intro) | decide)) ?_
                       try dsimp only [xsto1, xsto2, xkill, xget, xset, gd_0, gd_s]
                       try simp (disch := omega) only [gI_self, g_ne, hn, nI_1]
                       try rw [hA0]
                       try rw [hA1]
                       try rw [hA2]
                       try rw [hA3]
                       try rw [hA4]
                       refine xG_run 8 rfl (by repeat' (first | exact trivial | assumption | exact xob_b rfl | exact xal_b rfl | (apply And.intro) | decide)) ?_
                       try dsimp only [xsto1, xsto2, xkill, xget, xset, gd_0, gd_s]
                       try simp (disch := omega) only [gI_self, g_ne, hn, nI_1]
                       try rw [hA0]
                       try rw [hA1]
                       try rw [hA2]
                       try rw [hA3]
                       try rw [hA4]
                       refine xG_run 3 rfl (by repeat' (first | exact trivial | assumption | exact xob_b rfl | exact xal_b rfl | (apply And.intro) | decide)) ?_
                       try dsimp only [xsto1, xsto2, xkill, xget, xset, gd_0, gd_s]
                       try simp (disch := omega) only [gI_self, g_ne, hn, nI_1]
                       try rw [hA0]
                       try rw [hA1]
                       try rw [hA2]
                       try rw [hA3]
                       try rw [hA4]
                       refine r2_z rfl rfl (by first | decide | assumption) ?_
                       first
                         | exact Or.inl ⟨⟨hlt, by first | exact i_nlt2 h39 | exact h39, by rw [hcb]; first | exact Int32.not_le.mp h46 | exact h46, by first | exact i_nlt2 h54 | exact h54, by first | exact i_nlt2 h61 | exact h61, by first | exact i_nlt2 h69 | exact h69, by first | exact i_nlt2 h77 | exact h77, by first | exact i_nlt2 h84 | exact h84, by first | exact i_nlt2 h92 | exact h92⟩, rfl, rfl⟩
                         | (refine Or.inr ⟨?_, rfl, rfl⟩
                            rintro ⟨y1, y2, y3, y4, y5, y6, y7, y8, y9⟩
                            rw [hcb] at y3
                            first
                              | exact hlt y1
                              | exact i_nlt y2 h39
                              | exact i_nlt h46 y3
                              | exact i_nlt y4 h54
                              | exact i_nlt y5 h61
                              | exact i_nlt y6 h69
                              | exact i_nlt y7 h77
                              | exact i_nlt y8 h84
                              | exact h92 y9
                              | exact i_nlt y9 h92))
                · first
                    | (exfalso; first | exact absurd h102 (by decide) | exact h102 (by decide))
                    | (refine xG_run 1 rfl (by repeat' (first | exact trivial | assumption | exact xob_b rfl | exact xal_b rfl | (apply And.intro) | decide)) ?_
                       try dsimp only [xsto1, xsto2, xkill, xget, xset, gd_0, gd_s]
                       try simp (disch := omega) only [gI_self, g_ne, hn, nI_1]
                       try rw [hA0]
                       try rw [hA1]
                       try rw [hA2]
                       try rw [hA3]
                       try rw [hA4]
                       refine r2_z rfl rfl (by first | decide | assumption) ?_
                       first
                         | exact Or.inl ⟨⟨hlt, by first | exact i_nlt2 h39 | exact h39, by rw [hcb]; first | exact Int32.not_le.mp h46 | exact h46, by first | exact i_nlt2 h54 | exact h54, by first | exact i_nlt2 h61 | exact h61, by first | exact i_nlt2 h69 | exact h69, by first | exact i_nlt2 h77 | exact h77, by first | exact i_nlt2 h84 | exact h84, by first | exact i_nlt2 h92 | exact h92⟩, rfl, rfl⟩
                         | (refine Or.inr ⟨?_, rfl, rfl⟩
                            rintro ⟨y1, y2, y3, y4, y5, y6, y7, y8, y9⟩
                            rw [hcb] at y3
                            first
                              | exact hlt y1
                              | exact i_nlt y2 h39
                              | exact i_nlt h46 y3
                              | exact i_nlt y4 h54
                              | exact i_nlt y5 h61
                              | exact i_nlt y6 h69
                              | exact i_nlt y7 h77
                              | exact i_nlt y8 h84
                              | exact h92 y9
                              | exact i_nlt y9 h92))
              · refine xG_run 4 rfl (by repeat' (first | exact trivial | assumption | exact xob_b rfl | exact xal_b rfl | (apply And.intro) | decide)) ?_
                try dsimp only [xsto1, xsto2, xkill, xget, xset, gd_0, gd_s]
                try simp (disch := omega) only [gI_self, g_ne, hn, nI_1]
                try rw [hA0]
                try rw [hA1]
                try rw [hA2]
                try rw [hA3]
                try rw [hA4]
                refine xG_br rfl (fun h77 => ?_) (fun h77 => ?_)
                · refine xG_run 3 rfl (by repeat' (first | exact trivial | assumption | exact xob_b rfl | exact xal_b rfl | (apply And.intro) | decide)) ?_
                  try dsimp only [xsto1, xsto2, xkill, xget, xset, gd_0, gd_s]
                  try simp (disch := omega) only [gI_self, g_ne, hn, nI_1]
                  try rw [hA0]
                  try rw [hA1]
                  try rw [hA2]
                  try rw [hA3]
                  try rw [hA4]
                  refine xG_br rfl (fun h102 => ?_) (fun h102 => ?_)
                  · first
                      | (exfalso; first | exact absurd h102 (by decide) | exact h102 (by decide))
                      | (refine xG_run 4 rfl (by repeat' (first | exact trivial | assumption | exact xob_b rfl | exact xal_b rfl | (apply And.intro) | decide)) ?_
                         try dsimp only [xsto1, xsto2, xkill, xget, xset, gd_0, gd_s]
                         try simp (disch := omega) only [gI_self, g_ne, hn, nI_1]
                         try rw [hA0]
                         try rw [hA1]
                         try rw [hA2]
                         try rw [hA3]
                         try rw [hA4]
                         try simp (disch := omega) only [gI_self, g_ne, hn, nI_1]
                         refine xG_run 1 rfl (by repeat' (first | exact trivial | assumption | exact xob_b rfl | exact xal_b rfl | (apply And.intro) | decide)) ?_
                         try dsimp only [xsto1, xsto2, xkill, xget, xset, gd_0, gd_s]
                         try simp (disch := omega) only [gI_self, g_ne, hn, nI_1]
                         try rw [hA0]
                         try rw [hA1]
                         try rw [hA2]
                         try rw [hA3]
                         try rw [hA4]
                         rw [hj0]
                         refine xG_run 8 rfl (by repeat' (first | exact trivial | assumption | exact xob_b rfl | exact xal_b rfl | (apply And.intro) | decide)) ?_
                         try dsimp only [xsto1, xsto2, xkill, xget, xset, gd_0, gd_s]
                         try simp (disch := omega) only [gI_self, g_ne, hn, nI_1]
                         try rw [hA0]
                         try rw [hA1]
                         try rw [hA2]
                         try rw [hA3]
                         try rw [hA4]
                         refine xG_run 8 rfl (by repeat' (first | exact trivial | assumption | exact xob_b rfl | exact xal_b rfl | (apply And.intro) | decide)) ?_
                         try dsimp only [xsto1, xsto2, xkill, xget, xset, gd_0, gd_s]
                         try simp (disch := omega) only [gI_self, g_ne, hn, nI_1]
                         try rw [hA0]
                         try rw [hA1]
                         try rw [hA2]
                         try rw [hA3]
                         try rw [hA4]
                         refine xG_run 8 rfl (by repeat' (first | exact trivial | assumption | exact xob_b rfl | exact xal_b rfl | (apply And.intro) | decide)) ?_
                         try dsimp only [xsto1, xsto2, xkill, xget, xset, gd_0, gd_s]
                         try simp (disch := omega) only [gI_self, g_ne, hn, nI_1]
                         try rw [hA0]
                         try rw [hA1]
                         try rw [hA2]
                         try rw [hA3]
                         try rw [hA4]
                         refine xG_run 8 rfl (by repeat' (first | exact trivial | assumption | exact xob_b rfl | exact xal_b rfl | (apply And.intro) | decide)) ?_
                         try dsimp only [xsto1, xsto2, xkill, xget, xset, gd_0, gd_s]
                         try simp (disch := omega) only [gI_self, g_ne, hn, nI_1]
                         try rw [hA0]
                         try rw [hA1]
                         try rw [hA2]
                         try rw [hA3]
                         try rw [hA4]
                         refine xG_run 8 rfl (by repeat' (first | exact trivial | assumption | exact xob_b rfl | exact xal_b rfl | (apply And.intro) | decide)) ?_
                         try dsimp only [xsto1, xsto2, xkill, xget, xset, gd_0, gd_s]
                         try simp (disch := omega) only [gI_self, g_ne, hn, nI_1]
                         try rw [hA0]
                         try rw [hA1]
                         try rw [hA2]
                         try rw [hA3]
                         try rw [hA4]
                         refine xG_run 3 rfl (by repeat' (first | exact trivial | assumption | exact xob_b rfl | exact xal_b rfl | (apply And.intro) | decide)) ?_
                         try dsimp only [xsto1, xsto2, xkill, xget, xset, gd_0, gd_s]
                         try simp (disch := omega) only [gI_self, g_ne, hn, nI_1]
                         try rw [hA0]
                         try rw [hA1]
                         try rw [hA2]
                         try rw [hA3]
                         try rw [hA4]
                         refine r2_z rfl rfl (by first | decide | assumption) ?_
                         first
                           | exact Or.inl ⟨⟨hlt, by first | exact i_nlt2 h39 | exact h39, by rw [hcb]; first | exact Int32.not_le.mp h46 | exact h46, by first | exact i_nlt2 h54 | exact h54, by first | exact i_nlt2 h61 | exact h61, by first | exact i_nlt2 h69 | exact h69, by first | exact i_nlt2 h77 | exact h77, by first | exact i_nlt2 h84 | exact h84, by first | exact i_nlt2 h92 | exact h92⟩, rfl, rfl⟩
                           | (refine Or.inr ⟨?_, rfl, rfl⟩
                              rintro ⟨y1, y2, y3, y4, y5, y6, y7, y8, y9⟩
                              rw [hcb] at y3
                              first
                                | exact hlt y1
                                | exact i_nlt y2 h39
                                | exact i_nlt h46 y3
                                | exact i_nlt y4 h54
                                | exact i_nlt y5 h61
                                | exact i_nlt y6 h69
                                | exact i_nlt y7 h77
                                | exact i_nlt y8 h84
                                | exact h92 y9
                                | exact i_nlt y9 h92))
                  · first
                      | (exfalso; first | exact absurd h102 (by decide) | exact h102 (by decide))
                      | (refine xG_run 1 rfl (by repeat' (first | exact trivial | assumption | exact xob_b rfl | exact xal_b rfl | (apply And.intro) | decide)) ?_
                         try dsimp only [xsto1, xsto2, xkill, xget, xset, gd_0, gd_s]
                         try simp (disch := omega) only [gI_self, g_ne, hn, nI_1]
                         try rw [hA0]
                         try rw [hA1]
                         try rw [hA2]
                         try rw [hA3]
                         try rw [hA4]
                         refine r2_z rfl rfl (by first | decide | assumption) ?_
                         first
                           | exact Or.inl ⟨⟨hlt, by first | exact i_nlt2 h39 | exact h39, by rw [hcb]; first | exact Int32.not_le.mp h46 | exact h46, by first | exact i_nlt2 h54 | exact h54, by first | exact i_nlt2 h61 | exact h61, by first | exact i_nlt2 h69 | exact h69, by first | exact i_nlt2 h77 | exact h77, by first | exact i_nlt2 h84 | exact h84, by first | exact i_nlt2 h92 | exact h92⟩, rfl, rfl⟩
                           | (refine Or.inr ⟨?_, rfl, rfl⟩
                              rintro ⟨y1, y2, y3, y4, y5, y6, y7, y8, y9⟩
                              rw [hcb] at y3
                              first
                                | exact hlt y1
                                | exact i_nlt y2 h39
                                | exact i_nlt h46 y3
                                | exact i_nlt y4 h54
                                | exact i_nlt y5 h61
                                | exact i_nlt y6 h69
                                | exact i_nlt y7 h77
                                | exact i_nlt y8 h84
                                | exact h92 y9
                                | exact i_nlt y9 h92))
                · refine xG_run 4 rfl (by repeat' (first | exact trivial | assumption | exact xob_b rfl | exact xal_b rfl | (apply And.intro) | decide)) ?_
                  try dsimp only [xsto1, xsto2, xkill, xget, xset, gd_0, gd_s]
                  try simp (disch := omega) only [gI_self, g_ne, hn, nI_1]
                  try rw [hA0]
                  try rw [hA1]
                  try rw [hA2]
                  try rw [hA3]
                  try rw [hA4]
                  refine xG_br rfl (fun h84 => ?_) (fun h84 => ?_)
                  · refine xG_run 3 rfl (by repeat' (first | exact trivial | assumption | exact xob_b rfl | exact xal_b rfl | (apply And.intro) | decide)) ?_
                    try dsimp only [xsto1, xsto2, xkill, xget, xset, gd_0, gd_s]
                    try simp (disch := omega) only [gI_self, g_ne, hn, nI_1]
                    try rw [hA0]
                    try rw [hA1]
                    try rw [hA2]
                    try rw [hA3]
                    try rw [hA4]
                    refine xG_br rfl (fun h102 => ?_) (fun h102 => ?_)
                    · first
                        | (exfalso; first | exact absurd h102 (by decide) | exact h102 (by decide))
                        | (refine xG_run 4 rfl (by repeat' (first | exact trivial | assumption | exact xob_b rfl | exact xal_b rfl | (apply And.intro) | decide)) ?_
                           try dsimp only [xsto1, xsto2, xkill, xget, xset, gd_0, gd_s]
                           try simp (disch := omega) only [gI_self, g_ne, hn, nI_1]
                           try rw [hA0]
                           try rw [hA1]
                           try rw [hA2]
                           try rw [hA3]
                           try rw [hA4]
                           try simp (disch := omega) only [gI_self, g_ne, hn, nI_1]
                           refine xG_run 1 rfl (by repeat' (first | exact trivial | assumption | exact xob_b rfl | exact xal_b rfl | (apply And.intro) | decide)) ?_
                           try dsimp only [xsto1, xsto2, xkill, xget, xset, gd_0, gd_s]
                           try simp (disch := omega) only [gI_self, g_ne, hn, nI_1]
                           try rw [hA0]
                           try rw [hA1]
                           try rw [hA2]
                           try rw [hA3]
                           try rw [hA4]
                           rw [hj0]
                           refine xG_run 8 rfl (by repeat' (first | exact trivial | assumption | exact xob_b rfl | exact xal_b rfl | (apply And.intro) | decide)) ?_
                           try dsimp only [xsto1, xsto2, xkill, xget, xset, gd_0, gd_s]
                           try simp (disch := omega) only [gI_self, g_ne, hn, nI_1]
                           try rw [hA0]
                           try rw [hA1]
                           try rw [hA2]
                           try rw [hA3]
                           try rw [hA4]
                           refine xG_run 8 rfl (by repeat' (first | exact trivial | assumption | exact xob_b rfl | exact xal_b rfl | (apply And.intro) | decide)) ?_
                           try dsimp only [xsto1, xsto2, xkill, xget, xset, gd_0, gd_s]
                           try simp (disch := omega) only [gI_self, g_ne, hn, nI_1]
                           try rw [hA0]
                           try rw [hA1]
                           try rw [hA2]
                           try rw [hA3]
                           try rw [hA4]
                           refine xG_run 8 rfl (by repeat' (first | exact trivial | assumption | exact xob_b rfl | exact xal_b rfl | (apply And.intro) | decide)) ?_
                           try dsimp only [xsto1, xsto2, xkill, xget, xset, gd_0, gd_s]
                           try simp (disch := omega) only [gI_self, g_ne, hn, nI_1]
                           try rw [hA0]
                           try rw [hA1]
                           try rw [hA2]
                           try rw [hA3]
                           try rw [hA4]
                           refine xG_run 8 rfl (by repeat' (first | exact trivial | assumption | exact xob_b rfl | exact xal_b rfl | (apply And.intro) | decide)) ?_
                           try dsimp only [xsto1, xsto2, xkill, xget, xset, gd_0, gd_s]
                           try simp (disch := omega) only [gI_self, g_ne, hn, nI_1]
                           try rw [hA0]
                           try rw [hA1]
                           try rw [hA2]
                           try rw [hA3]
                           try rw [hA4]
                           refine xG_run 8 rfl (by repeat' (first | exact trivial | assumption | exact xob_b rfl | exact xal_b rfl | (apply And.intro) | decide)) ?_
                           try dsimp only [xsto1, xsto2, xkill, xget, xset, gd_0, gd_s]
                           try simp (disch := omega) only [gI_self, g_ne, hn, nI_1]
                           try rw [hA0]
                           try rw [hA1]
                           try rw [hA2]
                           try rw [hA3]
                           try rw [hA4]
                           refine xG_run 3 rfl (by repeat' (first | exact trivial | assumption | exact xob_b rfl | exact xal_b rfl | (apply And.intro) | decide)) ?_
                           try dsimp only [xsto1, xsto2, xkill, xget, xset, gd_0, gd_s]
                           try simp (disch := omega) only [gI_self, g_ne, hn, nI_1]
                           try rw [hA0]
                           try rw [hA1]
                           try rw [hA2]
                           try rw [hA3]
                           try rw [hA4]
                           refine r2_z rfl rfl (by first | decide | assumption) ?_
                           first
                             | exact Or.inl ⟨⟨hlt, by first | exact i_nlt2 h39 | exact h39, by rw [hcb]; first | exact Int32.not_le.mp h46 | exact h46, by first | exact i_nlt2 h54 | exact h54, by first | exact i_nlt2 h61 | exact h61, by first | exact i_nlt2 h69 | exact h69, by first | exact i_nlt2 h77 | exact h77, by first | exact i_nlt2 h84 | exact h84, by first | exact i_nlt2 h92 | exact h92⟩, rfl, rfl⟩
                             | (refine Or.inr ⟨?_, rfl, rfl⟩
                                rintro ⟨y1, y2, y3, y4, y5, y6, y7, y8, y9⟩
                                rw [hcb] at y3
                                first
                                  | exact hlt y1
                                  | exact i_nlt y2 h39
                                  | exact i_nlt h46 y3
                                  | exact i_nlt y4 h54
                                  | exact i_nlt y5 h61
                                  | exact i_nlt y6 h69
                                  | exact i_nlt y7 h77
                                  | exact i_nlt y8 h84
                                  | exact h92 y9
                                  | exact i_nlt y9 h92))
                    · first
                        | (exfalso; first | exact absurd h102 (by decide) | exact h102 (by decide))
                        | (refine xG_run 1 rfl (by repeat' (first | exact trivial | assumption | exact xob_b rfl | exact xal_b rfl | (apply And.intro) | decide)) ?_
                           try dsimp only [xsto1, xsto2, xkill, xget, xset, gd_0, gd_s]
                           try simp (disch := omega) only [gI_self, g_ne, hn, nI_1]
                           try rw [hA0]
                           try rw [hA1]
                           try rw [hA2]
                           try rw [hA3]
                           try rw [hA4]
                           refine r2_z rfl rfl (by first | decide | assumption) ?_
                           first
                             | exact Or.inl ⟨⟨hlt, by first | exact i_nlt2 h39 | exact h39, by rw [hcb]; first | exact Int32.not_le.mp h46 | exact h46, by first | exact i_nlt2 h54 | exact h54, by first | exact i_nlt2 h61 | exact h61, by first | exact i_nlt2 h69 | exact h69, by first | exact i_nlt2 h77 | exact h77, by first | exact i_nlt2 h84 | exact h84, by first | exact i_nlt2 h92 | exact h92⟩, rfl, rfl⟩
                             | (refine Or.inr ⟨?_, rfl, rfl⟩
                                rintro ⟨y1, y2, y3, y4, y5, y6, y7, y8, y9⟩
                                rw [hcb] at y3
                                first
                                  | exact hlt y1
                                  | exact i_nlt y2 h39
                                  | exact i_nlt h46 y3
                                  | exact i_nlt y4 h54
                                  | exact i_nlt y5 h61
                                  | exact i_nlt y6 h69
                                  | exact i_nlt y7 h77
                                  | exact i_nlt y8 h84
                                  | exact h92 y9
                                  | exact i_nlt y9 h92))
                  · refine xG_run 4 rfl (by repeat' (first | exact trivial | assumption | exact xob_b rfl | exact xal_b rfl | (apply And.intro) | decide)) ?_
                    try dsimp only [xsto1, xsto2, xkill, xget, xset, gd_0, gd_s]
                    try simp (disch := omega) only [gI_self, g_ne, hn, nI_1]
                    try rw [hA0]
                    try rw [hA1]
                    try rw [hA2]
                    try rw [hA3]
                    try rw [hA4]
                    refine xG_br rfl (fun h92 => ?_) (fun h92 => ?_)
                    · refine xG_run 3 rfl (by repeat' (first | exact trivial | assumption | exact xob_b rfl | exact xal_b rfl | (apply And.intro) | decide)) ?_
                      try dsimp only [xsto1, xsto2, xkill, xget, xset, gd_0, gd_s]
                      try simp (disch := omega) only [gI_self, g_ne, hn, nI_1]
                      try rw [hA0]
                      try rw [hA1]
                      try rw [hA2]
                      try rw [hA3]
                      try rw [hA4]
                      refine xG_br rfl (fun h102 => ?_) (fun h102 => ?_)
                      · first
                          | (exfalso; first | exact absurd h102 (by decide) | exact h102 (by decide))
                          | (refine xG_run 4 rfl (by repeat' (first | exact trivial | assumption | exact xob_b rfl | exact xal_b rfl | (apply And.intro) | decide)) ?_
                             try dsimp only [xsto1, xsto2, xkill, xget, xset, gd_0, gd_s]
                             try simp (disch := omega) only [gI_self, g_ne, hn, nI_1]
                             try rw [hA0]
                             try rw [hA1]
                             try rw [hA2]
                             try rw [hA3]
                             try rw [hA4]
                             try simp (disch := omega) only [gI_self, g_ne, hn, nI_1]
                             refine xG_run 1 rfl (by repeat' (first | exact trivial | assumption | exact xob_b rfl | exact xal_b rfl | (apply And.intro) | decide)) ?_
                             try dsimp only [xsto1, xsto2, xkill, xget, xset, gd_0, gd_s]
                             try simp (disch := omega) only [gI_self, g_ne, hn, nI_1]
                             try rw [hA0]
                             try rw [hA1]
                             try rw [hA2]
                             try rw [hA3]
                             try rw [hA4]
                             rw [hj0]
                             refine xG_run 8 rfl (by repeat' (first | exact trivial | assumption | exact xob_b rfl | exact xal_b rfl | (apply And.intro) | decide)) ?_
                             try dsimp only [xsto1, xsto2, xkill, xget, xset, gd_0, gd_s]
                             try simp (disch := omega) only [gI_self, g_ne, hn, nI_1]
                             try rw [hA0]
                             try rw [hA1]
                             try rw [hA2]
                             try rw [hA3]
                             try rw [hA4]
                             refine xG_run 8 rfl (by repeat' (first | exact trivial | assumption | exact xob_b rfl | exact xal_b rfl | (apply And.intro) | decide)) ?_
                             try dsimp only [xsto1, xsto2, xkill, xget, xset, gd_0, gd_s]
                             try simp (disch := omega) only [gI_self, g_ne, hn, nI_1]
                             try rw [hA0]
                             try rw [hA1]
                             try rw [hA2]
                             try rw [hA3]
                             try rw [hA4]
                             refine xG_run 8 rfl (by repeat' (first | exact trivial | assumption | exact xob_b rfl | exact xal_b rfl | (apply And.intro) | decide)) ?_
                             try dsimp only [xsto1, xsto2, xkill, xget, xset, gd_0, gd_s]
                             try simp (disch := omega) only [gI_self, g_ne, hn, nI_1]
                             try rw [hA0]
                             try rw [hA1]
                             try rw [hA2]
                             try rw [hA3]
                             try rw [hA4]
                             refine xG_run 8 rfl (by repeat' (first | exact trivial | assumption | exact xob_b rfl | exact xal_b rfl | (apply And.intro) | decide)) ?_
                             try dsimp only [xsto1, xsto2, xkill, xget, xset, gd_0, gd_s]
                             try simp (disch := omega) only [gI_self, g_ne, hn, nI_1]
                             try rw [hA0]
                             try rw [hA1]
                             try rw [hA2]
                             try rw [hA3]
                             try rw [hA4]
                             refine xG_run 8 rfl (by repeat' (first | exact trivial | assumption | exact xob_b rfl | exact xal_b rfl | (apply And.intro) | decide)) ?_
                             try dsimp only [xsto1, xsto2, xkill, xget, xset, gd_0, gd_s]
                             try simp (disch := omega) only [gI_self, g_ne, hn, nI_1]
                             try rw [hA0]
                             try rw [hA1]
                             try rw [hA2]
                             try rw [hA3]
                             try rw [hA4]
                             refine xG_run 3 rfl (by repeat' (first | exact trivial | assumption | exact xob_b rfl | exact xal_b rfl | (apply And.intro) | decide)) ?_
                             try dsimp only [xsto1, xsto2, xkill, xget, xset, gd_0, gd_s]
                             try simp (disch := omega) only [gI_self, g_ne, hn, nI_1]
                             try rw [hA0]
                             try rw [hA1]
                             try rw [hA2]
                             try rw [hA3]
                             try rw [hA4]
                             refine r2_z rfl rfl (by first | decide | assumption) ?_
                             first
                               | exact Or.inl ⟨⟨hlt, by first | exact i_nlt2 h39 | exact h39, by rw [hcb]; first | exact Int32.not_le.mp h46 | exact h46, by first | exact i_nlt2 h54 | exact h54, by first | exact i_nlt2 h61 | exact h61, by first | exact i_nlt2 h69 | exact h69, by first | exact i_nlt2 h77 | exact h77, by first | exact i_nlt2 h84 | exact h84, by first | exact i_nlt2 h92 | exact h92⟩, rfl, rfl⟩
                               | (refine Or.inr ⟨?_, rfl, rfl⟩
                                  rintro ⟨y1, y2, y3, y4, y5, y6, y7, y8, y9⟩
                                  rw [hcb] at y3
                                  first
                                    | exact hlt y1
                                    | exact i_nlt y2 h39
                                    | exact i_nlt h46 y3
                                    | exact i_nlt y4 h54
                                    | exact i_nlt y5 h61
                                    | exact i_nlt y6 h69
                                    | exact i_nlt y7 h77
                                    | exact i_nlt y8 h84
                                    | exact h92 y9
                                    | exact i_nlt y9 h92))
                      · first
                          | (exfalso; first | exact absurd h102 (by decide) | exact h102 (by decide))
                          | (refine xG_run 1 rfl (by repeat' (first | exact trivial | assumption | exact xob_b rfl | exact xal_b rfl | (apply And.intro) | decide)) ?_
                             try dsimp only [xsto1, xsto2, xkill, xget, xset, gd_0, gd_s]
                             try simp (disch := omega) only [gI_self, g_ne, hn, nI_1]
                             try rw [hA0]
                             try rw [hA1]
                             try rw [hA2]
                             try rw [hA3]
                             try rw [hA4]
                             refine r2_z rfl rfl (by first | decide | assumption) ?_
                             first
                               | exact Or.inl ⟨⟨hlt, by first | exact i_nlt2 h39 | exact h39, by rw [hcb]; first | exact Int32.not_le.mp h46 | exact h46, by first | exact i_nlt2 h54 | exact h54, by first | exact i_nlt2 h61 | exact h61, by first | exact i_nlt2 h69 | exact h69, by first | exact i_nlt2 h77 | exact h77, by first | exact i_nlt2 h84 | exact h84, by first | exact i_nlt2 h92 | exact h92⟩, rfl, rfl⟩
                               | (refine Or.inr ⟨?_, rfl, rfl⟩
                                  rintro ⟨y1, y2, y3, y4, y5, y6, y7, y8, y9⟩
                                  rw [hcb] at y3
                                  first
                                    | exact hlt y1
                                    | exact i_nlt y2 h39
                                    | exact i_nlt h46 y3
                                    | exact i_nlt y4 h54
                                    | exact i_nlt y5 h61
                                    | exact i_nlt y6 h69
                                    | exact i_nlt y7 h77
                                    | exact i_nlt y8 h84
                                    | exact h92 y9
                                    | exact i_nlt y9 h92))
                    · refine xG_run 4 rfl (by repeat' (first | exact trivial | assumption | exact xob_b rfl | exact xal_b rfl | (apply And.intro) | decide)) ?_
                      try dsimp only [xsto1, xsto2, xkill, xget, xset, gd_0, gd_s]
                      try simp (disch := omega) only [gI_self, g_ne, hn, nI_1]
                      try rw [hA0]
                      try rw [hA1]
                      try rw [hA2]
                      try rw [hA3]
                      try rw [hA4]
                      refine xG_br rfl (fun h102 => ?_) (fun h102 => ?_)
                      · first
                          | (exfalso; first | exact absurd h102 (by decide) | exact h102 (by decide))
                          | (refine xG_run 4 rfl (by repeat' (first | exact trivial | assumption | exact xob_b rfl | exact xal_b rfl | (apply And.intro) | decide)) ?_
                             try dsimp only [xsto1, xsto2, xkill, xget, xset, gd_0, gd_s]
                             try simp (disch := omega) only [gI_self, g_ne, hn, nI_1]
                             try rw [hA0]
                             try rw [hA1]
                             try rw [hA2]
                             try rw [hA3]
                             try rw [hA4]
                             try simp (disch := omega) only [gI_self, g_ne, hn, nI_1]
                             refine xG_run 1 rfl (by repeat' (first | exact trivial | assumption | exact xob_b rfl | exact xal_b rfl | (apply And.intro) | decide)) ?_
                             try dsimp only [xsto1, xsto2, xkill, xget, xset, gd_0, gd_s]
                             try simp (disch := omega) only [gI_self, g_ne, hn, nI_1]
                             try rw [hA0]
                             try rw [hA1]
                             try rw [hA2]
                             try rw [hA3]
                             try rw [hA4]
                             rw [hj0]
                             refine xG_run 8 rfl (by repeat' (first | exact trivial | assumption | exact xob_b rfl | exact xal_b rfl | (apply And.intro) | decide)) ?_
                             try dsimp only [xsto1, xsto2, xkill, xget, xset, gd_0, gd_s]
                             try simp (disch := omega) only [gI_self, g_ne, hn, nI_1]
                             try rw [hA0]
                             try rw [hA1]
                             try rw [hA2]
                             try rw [hA3]
                             try rw [hA4]
                             refine xG_run 8 rfl (by repeat' (first | exact trivial | assumption | exact xob_b rfl | exact xal_b rfl | (apply And.intro) | decide)) ?_
                             try dsimp only [xsto1, xsto2, xkill, xget, xset, gd_0, gd_s]
                             try simp (disch := omega) only [gI_self, g_ne, hn, nI_1]
                             try rw [hA0]
                             try rw [hA1]
                             try rw [hA2]
                             try rw [hA3]
                             try rw [hA4]
                             refine xG_run 8 rfl (by repeat' (first | exact trivial | assumption | exact xob_b rfl | exact xal_b rfl | (apply And.intro) | decide)) ?_
                             try dsimp only [xsto1, xsto2, xkill, xget, xset, gd_0, gd_s]
                             try simp (disch := omega) only [gI_self, g_ne, hn, nI_1]
                             try rw [hA0]
                             try rw [hA1]
                             try rw [hA2]
                             try rw [hA3]
                             try rw [hA4]
                             refine xG_run 8 rfl (by repeat' (first | exact trivial | assumption | exact xob_b rfl | exact xal_b rfl | (apply And.intro) | decide)) ?_
                             try dsimp only [xsto1, xsto2, xkill, xget, xset, gd_0, gd_s]
                             try simp (disch := omega) only [gI_self, g_ne, hn, nI_1]
                             try rw [hA0]
                             try rw [hA1]
                             try rw [hA2]
                             try rw [hA3]
                             try rw [hA4]
                             refine xG_run 8 rfl (by repeat' (first | exact trivial | assumption | exact xob_b rfl | exact xal_b rfl | (apply And.intro) | decide)) ?_
                             try dsimp only [xsto1, xsto2, xkill, xget, xset, gd_0, gd_s]
                             try simp (disch := omega) only [gI_self, g_ne, hn, nI_1]
                             try rw [hA0]
                             try rw [hA1]
                             try rw [hA2]
                             try rw [hA3]
                             try rw [hA4]
                             refine xG_run 3 rfl (by repeat' (first | exact trivial | assumption | exact xob_b rfl | exact xal_b rfl | (apply And.intro) | decide)) ?_
                             try dsimp only [xsto1, xsto2, xkill, xget, xset, gd_0, gd_s]
                             try simp (disch := omega) only [gI_self, g_ne, hn, nI_1]
                             try rw [hA0]
                             try rw [hA1]
                             try rw [hA2]
                             try rw [hA3]
                             try rw [hA4]
                             refine r2_z rfl rfl (by first | decide | assumption) ?_
                             first
                               | exact Or.inl ⟨⟨hlt, by first | exact i_nlt2 h39 | exact h39, by rw [hcb]; first | exact Int32.not_le.mp h46 | exact h46, by first | exact i_nlt2 h54 | exact h54, by first | exact i_nlt2 h61 | exact h61, by first | exact i_nlt2 h69 | exact h69, by first | exact i_nlt2 h77 | exact h77, by first | exact i_nlt2 h84 | exact h84, by first | exact i_nlt2 h92 | exact h92⟩, rfl, rfl⟩
                               | (refine Or.inr ⟨?_, rfl, rfl⟩
                                  rintro ⟨y1, y2, y3, y4, y5, y6, y7, y8, y9⟩
                                  rw [hcb] at y3
                                  first
                                    | exact hlt y1
                                    | exact i_nlt y2 h39
                                    | exact i_nlt h46 y3
                                    | exact i_nlt y4 h54
                                    | exact i_nlt y5 h61
                                    | exact i_nlt y6 h69
                                    | exact i_nlt y7 h77
                                    | exact i_nlt y8 h84
                                    | exact h92 y9
                                    | exact i_nlt y9 h92))
                      · first
                          | (exfalso; first | exact absurd h102 (by decide) | exact h102 (by decide))
                          | (refine xG_run 1 rfl (by repeat' (first | exact trivial | assumption | exact xob_b rfl | exact xal_b rfl | (apply And.intro) | decide)) ?_
                             try dsimp only [xsto1, xsto2, xkill, xget, xset, gd_0, gd_s]
                             try simp (disch := omega) only [gI_self, g_ne, hn, nI_1]
                             try rw [hA0]
                             try rw [hA1]
                             try rw [hA2]
                             try rw [hA3]
                             try rw [hA4]
                             refine r2_z rfl rfl (by first | decide | assumption) ?_
                             first
                               | exact Or.inl ⟨⟨hlt, by first | exact i_nlt2 h39 | exact h39, by rw [hcb]; first | exact Int32.not_le.mp h46 | exact h46, by first | exact i_nlt2 h54 | exact h54, by first | exact i_nlt2 h61 | exact h61, by first | exact i_nlt2 h69 | exact h69, by first | exact i_nlt2 h77 | exact h77, by first | exact i_nlt2 h84 | exact h84, by first | exact i_nlt2 h92 | exact h92⟩, rfl, rfl⟩
                               | (refine Or.inr ⟨?_, rfl, rfl⟩
                                  rintro ⟨y1, y2, y3, y4, y5, y6, y7, y8, y9⟩
                                  rw [hcb] at y3
                                  first
                                    | exact hlt y1
                                    | exact i_nlt y2 h39
                                    | exact i_nlt h46 y3
                                    | exact i_nlt y4 h54
                                    | exact i_nlt y5 h61
                                    | exact i_nlt y6 h69
                                    | exact i_nlt y7 h77
                                    | exact i_nlt y8 h84
                                    | exact h92 y9
                                    | exact i_nlt y9 h92))
  · try rw [hn] at h4
    have h0 : ¬ np = 0 := fun q => h4 (by rw [q]; exact Int32.le_refl _)
    have hcb : cB M np = gI M (6 + (np - 1)) 2 := if_neg h0
    have e1 := nI_p1 (k := np) (by omega) (by omega)
    have hj1 : (nI (np - 1)).toNatClampNeg = np - 1 := nI_cl (by omega)
    have hqb : xqr 2 182 (nI (np - 1)) := xqr_n rfl 10 rfl (by omega) (by omega)
    have hxb : xob (6 + (np - 1)) 3 182 := xob_p1 (by omega)
    refine xG_run 6 rfl (by repeat' (first | exact trivial | assumption | exact xob_b rfl | exact xal_b rfl | (apply And.intro) | decide)) ?_
    try dsimp only [xsto1, xsto2, xkill, xget, xset, gd_0, gd_s]
    try simp (disch := omega) only [gI_self, g_ne, hn, nI_1]
    try rw [hA0]
    try rw [hA1]
    try rw [hA2]
    try rw [hA3]
    try rw [hA4]
    try rw [hn]
    try rw [e1]
    refine xG_run 1 rfl (by repeat' (first | exact trivial | assumption | exact xob_b rfl | exact xal_b rfl | (apply And.intro) | decide)) ?_
    try dsimp only [xsto1, xsto2, xkill, xget, xset, gd_0, gd_s]
    try simp (disch := omega) only [gI_self, g_ne, hn, nI_1]
    try rw [hA0]
    try rw [hA1]
    try rw [hA2]
    try rw [hA3]
    try rw [hA4]
    rw [hj1]
    refine xG_run 6 rfl (by repeat' (first | exact trivial | assumption | exact xob_b rfl | exact xal_b rfl | (apply And.intro) | decide)) ?_
    try dsimp only [xsto1, xsto2, xkill, xget, xset, gd_0, gd_s]
    try simp (disch := omega) only [gI_self, g_ne, hn, nI_1]
    try rw [hA0]
    try rw [hA1]
    try rw [hA2]
    try rw [hA3]
    try rw [hA4]
    refine xG_br rfl (fun h32 => ?_) (fun h32 => ?_)
    · have hlt : ¬ np < 10 := by intro q; exact nI_nlt9 q (by omega) h32
      refine xG_run 3 rfl (by repeat' (first | exact trivial | assumption | exact xob_b rfl | exact xal_b rfl | (apply And.intro) | decide)) ?_
      try dsimp only [xsto1, xsto2, xkill, xget, xset, gd_0, gd_s]
      try simp (disch := omega) only [gI_self, g_ne, hn, nI_1]
      try rw [hA0]
      try rw [hA1]
      try rw [hA2]
      try rw [hA3]
      try rw [hA4]
      refine xG_br rfl (fun h102 => ?_) (fun h102 => ?_)
      · first
          | (exfalso; first | exact absurd h102 (by decide) | exact h102 (by decide))
          | (refine xG_run 4 rfl (by repeat' (first | exact trivial | assumption | exact xob_b rfl | exact xal_b rfl | (apply And.intro) | decide)) ?_
             try dsimp only [xsto1, xsto2, xkill, xget, xset, gd_0, gd_s]
             try simp (disch := omega) only [gI_self, g_ne, hn, nI_1]
             try rw [hA0]
             try rw [hA1]
             try rw [hA2]
             try rw [hA3]
             try rw [hA4]
             try simp (disch := omega) only [gI_self, g_ne, hn, nI_1]
             refine xG_run 1 rfl (by repeat' (first | exact trivial | assumption | exact xob_b rfl | exact xal_b rfl | (apply And.intro) | decide)) ?_
             try dsimp only [xsto1, xsto2, xkill, xget, xset, gd_0, gd_s]
             try simp (disch := omega) only [gI_self, g_ne, hn, nI_1]
             try rw [hA0]
             try rw [hA1]
             try rw [hA2]
             try rw [hA3]
             try rw [hA4]
             rw [hj0]
             refine xG_run 8 rfl (by repeat' (first | exact trivial | assumption | exact xob_b rfl | exact xal_b rfl | (apply And.intro) | decide)) ?_
             try dsimp only [xsto1, xsto2, xkill, xget, xset, gd_0, gd_s]
             try simp (disch := omega) only [gI_self, g_ne, hn, nI_1]
             try rw [hA0]
             try rw [hA1]
             try rw [hA2]
             try rw [hA3]
             try rw [hA4]
             refine xG_run 8 rfl (by repeat' (first | exact trivial | assumption | exact xob_b rfl | exact xal_b rfl | (apply And.intro) | decide)) ?_
             try dsimp only [xsto1, xsto2, xkill, xget, xset, gd_0, gd_s]
             try simp (disch := omega) only [gI_self, g_ne, hn, nI_1]
             try rw [hA0]
             try rw [hA1]
             try rw [hA2]
             try rw [hA3]
             try rw [hA4]
             refine xG_run 8 rfl (by repeat' (first | exact trivial | assumption | exact xob_b rfl | exact xal_b rfl | (apply And.intro) | decide)) ?_
             try dsimp only [xsto1, xsto2, xkill, xget, xset, gd_0, gd_s]
             try simp (disch := omega) only [gI_self, g_ne, hn, nI_1]
             try rw [hA0]
             try rw [hA1]
             try rw [hA2]
             try rw [hA3]
             try rw [hA4]
             refine xG_run 8 rfl (by repeat' (first | exact trivial | assumption | exact xob_b rfl | exact xal_b rfl | (apply And.intro) | decide)) ?_
             try dsimp only [xsto1, xsto2, xkill, xget, xset, gd_0, gd_s]
             try simp (disch := omega) only [gI_self, g_ne, hn, nI_1]
             try rw [hA0]
             try rw [hA1]
             try rw [hA2]
             try rw [hA3]
             try rw [hA4]
             refine xG_run 8 rfl (by repeat' (first | exact trivial | assumption | exact xob_b rfl | exact xal_b rfl | (apply And.intro) | decide)) ?_
             try dsimp only [xsto1, xsto2, xkill, xget, xset, gd_0, gd_s]
             try simp (disch := omega) only [gI_self, g_ne, hn, nI_1]
             try rw [hA0]
             try rw [hA1]
             try rw [hA2]
             try rw [hA3]
             try rw [hA4]
             refine xG_run 3 rfl (by repeat' (first | exact trivial | assumption | exact xob_b rfl | exact xal_b rfl | (apply And.intro) | decide)) ?_
             try dsimp only [xsto1, xsto2, xkill, xget, xset, gd_0, gd_s]
             try simp (disch := omega) only [gI_self, g_ne, hn, nI_1]
             try rw [hA0]
             try rw [hA1]
             try rw [hA2]
             try rw [hA3]
             try rw [hA4]
             refine r2_z rfl rfl (by first | decide | assumption) ?_
             first
               | exact Or.inl ⟨⟨hlt, by first | exact i_nlt2 h39 | exact h39, by rw [hcb]; first | exact Int32.not_le.mp h46 | exact h46, by first | exact i_nlt2 h54 | exact h54, by first | exact i_nlt2 h61 | exact h61, by first | exact i_nlt2 h69 | exact h69, by first | exact i_nlt2 h77 | exact h77, by first | exact i_nlt2 h84 | exact h84, by first | exact i_nlt2 h92 | exact h92⟩, rfl, rfl⟩
               | (refine Or.inr ⟨?_, rfl, rfl⟩
                  rintro ⟨y1, y2, y3, y4, y5, y6, y7, y8, y9⟩
                  rw [hcb] at y3
                  first
                    | exact hlt y1
                    | exact i_nlt y2 h39
                    | exact i_nlt h46 y3
                    | exact i_nlt y4 h54
                    | exact i_nlt y5 h61
                    | exact i_nlt y6 h69
                    | exact i_nlt y7 h77
                    | exact i_nlt y8 h84
                    | exact h92 y9
                    | exact i_nlt y9 h92))
      · first
          | (exfalso; first | exact absurd h102 (by decide) | exact h102 (by decide))
          | (refine xG_run 1 rfl (by repeat' (first | exact trivial | assumption | exact xob_b rfl | exact xal_b rfl | (apply And.intro) | decide)) ?_
             try dsimp only [xsto1, xsto2, xkill, xget, xset, gd_0, gd_s]
             try simp (disch := omega) only [gI_self, g_ne, hn, nI_1]
             try rw [hA0]
             try rw [hA1]
             try rw [hA2]
             try rw [hA3]
             try rw [hA4]
             refine r2_z rfl rfl (by first | decide | assumption) ?_
             first
               | exact Or.inl ⟨⟨hlt, by first | exact i_nlt2 h39 | exact h39, by rw [hcb]; first | exact Int32.not_le.mp h46 | exact h46, by first | exact i_nlt2 h54 | exact h54, by first | exact i_nlt2 h61 | exact h61, by first | exact i_nlt2 h69 | exact h69, by first | exact i_nlt2 h77 | exact h77, by first | exact i_nlt2 h84 | exact h84, by first | exact i_nlt2 h92 | exact h92⟩, rfl, rfl⟩
               | (refine Or.inr ⟨?_, rfl, rfl⟩
                  rintro ⟨y1, y2, y3, y4, y5, y6, y7, y8, y9⟩
                  rw [hcb] at y3
                  first
                    | exact hlt y1
                    | exact i_nlt y2 h39
                    | exact i_nlt h46 y3
                    | exact i_nlt y4 h54
                    | exact i_nlt y5 h61
                    | exact i_nlt y6 h69
                    | exact i_nlt y7 h77
                    | exact i_nlt y8 h84
                    | exact h92 y9
                    | exact i_nlt y9 h92))
    · have hlt : np < 10 := nI_lt9 (by omega) (by omega) h32
      have hj0 : (nI np).toNatClampNeg = np := nI_cl (by omega)
      have hqa : xqr 2 182 (nI np) := xqr_n rfl 10 rfl (by omega) (by omega)
      have hxa : xob (6 + np) 3 182 := xob_p1 (by omega)
      refine xG_run 4 rfl (by repeat' (first | exact trivial | assumption | exact xob_b rfl | exact xal_b rfl | (apply And.intro) | decide)) ?_
      try dsimp only [xsto1, xsto2, xkill, xget, xset, gd_0, gd_s]
      try simp (disch := omega) only [gI_self, g_ne, hn, nI_1]
      try rw [hA0]
      try rw [hA1]
      try rw [hA2]
      try rw [hA3]
      try rw [hA4]
      refine xG_br rfl (fun h39 => ?_) (fun h39 => ?_)
      · refine xG_run 3 rfl (by repeat' (first | exact trivial | assumption | exact xob_b rfl | exact xal_b rfl | (apply And.intro) | decide)) ?_
        try dsimp only [xsto1, xsto2, xkill, xget, xset, gd_0, gd_s]
        try simp (disch := omega) only [gI_self, g_ne, hn, nI_1]
        try rw [hA0]
        try rw [hA1]
        try rw [hA2]
        try rw [hA3]
        try rw [hA4]
        refine xG_br rfl (fun h102 => ?_) (fun h102 => ?_)
        · first
            | (exfalso; first | exact absurd h102 (by decide) | exact h102 (by decide))
            | (refine xG_run 4 rfl (by repeat' (first | exact trivial | assumption | exact xob_b rfl | exact xal_b rfl | (apply And.intro) | decide)) ?_
               try dsimp only [xsto1, xsto2, xkill, xget, xset, gd_0, gd_s]
               try simp (disch := omega) only [gI_self, g_ne, hn, nI_1]
               try rw [hA0]
               try rw [hA1]
               try rw [hA2]
               try rw [hA3]
               try rw [hA4]
               try simp (disch := omega) only [gI_self, g_ne, hn, nI_1]
               refine xG_run 1 rfl (by repeat' (first | exact trivial | assumption | exact xob_b rfl | exact xal_b rfl | (apply And.intro) | decide)) ?_
               try dsimp only [xsto1, xsto2, xkill, xget, xset, gd_0, gd_s]
               try simp (disch := omega) only [gI_self, g_ne, hn, nI_1]
               try rw [hA0]
               try rw [hA1]
               try rw [hA2]
               try rw [hA3]
               try rw [hA4]
               rw [hj0]
               refine xG_run 8 rfl (by repeat' (first | exact trivial | assumption | exact xob_b rfl | exact xal_b rfl | (apply And.intro) | decide)) ?_
               try dsimp only [xsto1, xsto2, xkill, xget, xset, gd_0, gd_s]
               try simp (disch := omega) only [gI_self, g_ne, hn, nI_1]
               try rw [hA0]
               try rw [hA1]
               try rw [hA2]
               try rw [hA3]
               try rw [hA4]
               refine xG_run 8 rfl (by repeat' (first | exact trivial | assumption | exact xob_b rfl | exact xal_b rfl | (apply And.intro) | decide)) ?_
               try dsimp only [xsto1, xsto2, xkill, xget, xset, gd_0, gd_s]
               try simp (disch := omega) only [gI_self, g_ne, hn, nI_1]
               try rw [hA0]
               try rw [hA1]
               try rw [hA2]
               try rw [hA3]
               try rw [hA4]
               refine xG_run 8 rfl (by repeat' (first | exact trivial | assumption | exact xob_b rfl | exact xal_b rfl | (apply And.intro) | decide)) ?_
               try dsimp only [xsto1, xsto2, xkill, xget, xset, gd_0, gd_s]
               try simp (disch := omega) only [gI_self, g_ne, hn, nI_1]
               try rw [hA0]
               try rw [hA1]
               try rw [hA2]
               try rw [hA3]
               try rw [hA4]
               refine xG_run 8 rfl (by repeat' (first | exact trivial | assumption | exact xob_b rfl | exact xal_b rfl | (apply And.intro) | decide)) ?_
               try dsimp only [xsto1, xsto2, xkill, xget, xset, gd_0, gd_s]
               try simp (disch := omega) only [gI_self, g_ne, hn, nI_1]
               try rw [hA0]
               try rw [hA1]
               try rw [hA2]
               try rw [hA3]
               try rw [hA4]
               refine xG_run 8 rfl (by repeat' (first | exact trivial | assumption | exact xob_b rfl | exact xal_b rfl | (apply And.intro) | decide)) ?_
               try dsimp only [xsto1, xsto2, xkill, xget, xset, gd_0, gd_s]
               try simp (disch := omega) only [gI_self, g_ne, hn, nI_1]
               try rw [hA0]
               try rw [hA1]
               try rw [hA2]
               try rw [hA3]
               try rw [hA4]
               refine xG_run 3 rfl (by repeat' (first | exact trivial | assumption | exact xob_b rfl | exact xal_b rfl | (apply And.intro) | decide)) ?_
               try dsimp only [xsto1, xsto2, xkill, xget, xset, gd_0, gd_s]
               try simp (disch := omega) only [gI_self, g_ne, hn, nI_1]
               try rw [hA0]
               try rw [hA1]
               try rw [hA2]
               try rw [hA3]
               try rw [hA4]
               refine r2_z rfl rfl (by first | decide | assumption) ?_
               first
                 | exact Or.inl ⟨⟨hlt, by first | exact i_nlt2 h39 | exact h39, by rw [hcb]; first | exact Int32.not_le.mp h46 | exact h46, by first | exact i_nlt2 h54 | exact h54, by first | exact i_nlt2 h61 | exact h61, by first | exact i_nlt2 h69 | exact h69, by first | exact i_nlt2 h77 | exact h77, by first | exact i_nlt2 h84 | exact h84, by first | exact i_nlt2 h92 | exact h92⟩, rfl, rfl⟩
                 | (refine Or.inr ⟨?_, rfl, rfl⟩
                    rintro ⟨y1, y2, y3, y4, y5, y6, y7, y8, y9⟩
                    rw [hcb] at y3
                    first
                      | exact hlt y1
                      | exact i_nlt y2 h39
                      | exact i_nlt h46 y3
                      | exact i_nlt y4 h54
                      | exact i_nlt y5 h61
                      | exact i_nlt y6 h69
                      | exact i_nlt y7 h77
                      | exact i_nlt y8 h84
                      | exact h92 y9
                      | exact i_nlt y9 h92))
        · first
            | (exfalso; first | exact absurd h102 (by decide) | exact h102 (by decide))
            | (refine xG_run 1 rfl (by repeat' (first | exact trivial | assumption | exact xob_b rfl | exact xal_b rfl | (apply And.intro) | decide)) ?_
               try dsimp only [xsto1, xsto2, xkill, xget, xset, gd_0, gd_s]
               try simp (disch := omega) only [gI_self, g_ne, hn, nI_1]
               try rw [hA0]
               try rw [hA1]
               try rw [hA2]
               try rw [hA3]
               try rw [hA4]
               refine r2_z rfl rfl (by first | decide | assumption) ?_
               first
                 | exact Or.inl ⟨⟨hlt, by first | exact i_nlt2 h39 | exact h39, by rw [hcb]; first | exact Int32.not_le.mp h46 | exact h46, by first | exact i_nlt2 h54 | exact h54, by first | exact i_nlt2 h61 | exact h61, by first | exact i_nlt2 h69 | exact h69, by first | exact i_nlt2 h77 | exact h77, by first | exact i_nlt2 h84 | exact h84, by first | exact i_nlt2 h92 | exact h92⟩, rfl, rfl⟩
                 | (refine Or.inr ⟨?_, rfl, rfl⟩
                    rintro ⟨y1, y2, y3, y4, y5, y6, y7, y8, y9⟩
                    rw [hcb] at y3
                    first
                      | exact hlt y1
                      | exact i_nlt y2 h39
                      | exact i_nlt h46 y3
                      | exact i_nlt y4 h54
                      | exact i_nlt y5 h61
                      | exact i_nlt y6 h69
                      | exact i_nlt y7 h77
                      | exact i_nlt y8 h84
                      | exact h92 y9
                      | exact i_nlt y9 h92))
      · refine xG_run 4 rfl (by repeat' (first | exact trivial | assumption | exact xob_b rfl | exact xal_b rfl | (apply And.intro) | decide)) ?_
        try dsimp only [xsto1, xsto2, xkill, xget, xset, gd_0, gd_s]
        try simp (disch := omega) only [gI_self, g_ne, hn, nI_1]
        try rw [hA0]
        try rw [hA1]
        try rw [hA2]
        try rw [hA3]
        try rw [hA4]
        refine xG_br rfl (fun h46 => ?_) (fun h46 => ?_)
        · refine xG_run 3 rfl (by repeat' (first | exact trivial | assumption | exact xob_b rfl | exact xal_b rfl | (apply And.intro) | decide)) ?_
          try dsimp only [xsto1, xsto2, xkill, xget, xset, gd_0, gd_s]
          try simp (disch := omega) only [gI_self, g_ne, hn, nI_1]
          try rw [hA0]
          try rw [hA1]
          try rw [hA2]
          try rw [hA3]
          try rw [hA4]
          refine xG_br rfl (fun h102 => ?_) (fun h102 => ?_)
          · first
              | (exfalso; first | exact absurd h102 (by decide) | exact h102 (by decide))
              | (refine xG_run 4 rfl (by repeat' (first | exact trivial | assumption | exact xob_b rfl | exact xal_b rfl | (apply And.intro) | decide)) ?_
                 try dsimp only [xsto1, xsto2, xkill, xget, xset, gd_0, gd_s]
                 try simp (disch := omega) only [gI_self, g_ne, hn, nI_1]
                 try rw [hA0]
                 try rw [hA1]
                 try rw [hA2]
                 try rw [hA3]
                 try rw [hA4]
                 try simp (disch := omega) only [gI_self, g_ne, hn, nI_1]
                 refine xG_run 1 rfl (by repeat' (first | exact trivial | assumption | exact xob_b rfl | exact xal_b rfl | (apply And.intro) | decide)) ?_
                 try dsimp only [xsto1, xsto2, xkill, xget, xset, gd_0, gd_s]
                 try simp (disch := omega) only [gI_self, g_ne, hn, nI_1]
                 try rw [hA0]
                 try rw [hA1]
                 try rw [hA2]
                 try rw [hA3]
                 try rw [hA4]
                 rw [hj0]
                 refine xG_run 8 rfl (by repeat' (first | exact trivial | assumption | exact xob_b rfl | exact xal_b rfl | (apply And.intro) | decide)) ?_
                 try dsimp only [xsto1, xsto2, xkill, xget, xset, gd_0, gd_s]
                 try simp (disch := omega) only [gI_self, g_ne, hn, nI_1]
                 try rw [hA0]
                 try rw [hA1]
                 try rw [hA2]
                 try rw [hA3]
                 try rw [hA4]
                 refine xG_run 8 rfl (by repeat' (first | exact trivial | assumption | exact xob_b rfl | exact xal_b rfl | (apply And.intro) | decide)) ?_
                 try dsimp only [xsto1, xsto2, xkill, xget, xset, gd_0, gd_s]
                 try simp (disch := omega) only [gI_self, g_ne, hn, nI_1]
                 try rw [hA0]
                 try rw [hA1]
                 try rw [hA2]
                 try rw [hA3]
                 try rw [hA4]
                 refine xG_run 8 rfl (by repeat' (first | exact trivial | assumption | exact xob_b rfl | exact xal_b rfl | (apply And.intro) | decide)) ?_
                 try dsimp only [xsto1, xsto2, xkill, xget, xset, gd_0, gd_s]
                 try simp (disch := omega) only [gI_self, g_ne, hn, nI_1]
                 try rw [hA0]
                 try rw [hA1]
                 try rw [hA2]
                 try rw [hA3]
                 try rw [hA4]
                 refine xG_run 8 rfl (by repeat' (first | exact trivial | assumption | exact xob_b rfl | exact xal_b rfl | (apply And.intro) | decide)) ?_
                 try dsimp only [xsto1, xsto2, xkill, xget, xset, gd_0, gd_s]
                 try simp (disch := omega) only [gI_self, g_ne, hn, nI_1]
                 try rw [hA0]
                 try rw [hA1]
                 try rw [hA2]
                 try rw [hA3]
                 try rw [hA4]
                 refine xG_run 8 rfl (by repeat' (first | exact trivial | assumption | exact xob_b rfl | exact xal_b rfl | (apply And.intro) | decide)) ?_
                 try dsimp only [xsto1, xsto2, xkill, xget, xset, gd_0, gd_s]
                 try simp (disch := omega) only [gI_self, g_ne, hn, nI_1]
                 try rw [hA0]
                 try rw [hA1]
                 try rw [hA2]
                 try rw [hA3]
                 try rw [hA4]
                 refine xG_run 3 rfl (by repeat' (first | exact trivial | assumption | exact xob_b rfl | exact xal_b rfl | (apply And.intro) | decide)) ?_
                 try dsimp only [xsto1, xsto2, xkill, xget, xset, gd_0, gd_s]
                 try simp (disch := omega) only [gI_self, g_ne, hn, nI_1]
                 try rw [hA0]
                 try rw [hA1]
                 try rw [hA2]
                 try rw [hA3]
                 try rw [hA4]
                 refine r2_z rfl rfl (by first | decide | assumption) ?_
                 first
                   | exact Or.inl ⟨⟨hlt, by first | exact i_nlt2 h39 | exact h39, by rw [hcb]; first | exact Int32.not_le.mp h46 | exact h46, by first | exact i_nlt2 h54 | exact h54, by first | exact i_nlt2 h61 | exact h61, by first | exact i_nlt2 h69 | exact h69, by first | exact i_nlt2 h77 | exact h77, by first | exact i_nlt2 h84 | exact h84, by first | exact i_nlt2 h92 | exact h92⟩, rfl, rfl⟩
                   | (refine Or.inr ⟨?_, rfl, rfl⟩
                      rintro ⟨y1, y2, y3, y4, y5, y6, y7, y8, y9⟩
                      rw [hcb] at y3
                      first
                        | exact hlt y1
                        | exact i_nlt y2 h39
                        | exact i_nlt h46 y3
                        | exact i_nlt y4 h54
                        | exact i_nlt y5 h61
                        | exact i_nlt y6 h69
                        | exact i_nlt y7 h77
                        | exact i_nlt y8 h84
                        | exact h92 y9
                        | exact i_nlt y9 h92))
          · first
              | (exfalso; first | exact absurd h102 (by decide) | exact h102 (by decide))
              | (refine xG_run 1 rfl (by repeat' (first | exact trivial | assumption | exact xob_b rfl | exact xal_b rfl | (apply And.intro) | decide)) ?_
                 try dsimp only [xsto1, xsto2, xkill, xget, xset, gd_0, gd_s]
                 try simp (disch := omega) only [gI_self, g_ne, hn, nI_1]
                 try rw [hA0]
                 try rw [hA1]
                 try rw [hA2]
                 try rw [hA3]
                 try rw [hA4]
                 refine r2_z rfl rfl (by first | decide | assumption) ?_
                 first
                   | exact Or.inl ⟨⟨hlt, by first | exact i_nlt2 h39 | exact h39, by rw [hcb]; first | exact Int32.not_le.mp h46 | exact h46, by first | exact i_nlt2 h54 | exact h54, by first | exact i_nlt2 h61 | exact h61, by first | exact i_nlt2 h69 | exact h69, by first | exact i_nlt2 h77 | exact h77, by first | exact i_nlt2 h84 | exact h84, by first | exact i_nlt2 h92 | exact h92⟩, rfl, rfl⟩
                   | (refine Or.inr ⟨?_, rfl, rfl⟩
                      rintro ⟨y1, y2, y3, y4, y5, y6, y7, y8, y9⟩
                      rw [hcb] at y3
                      first
                        | exact hlt y1
                        | exact i_nlt y2 h39
                        | exact i_nlt h46 y3
                        | exact i_nlt y4 h54
                        | exact i_nlt y5 h61
                        | exact i_nlt y6 h69
                        | exact i_nlt y7 h77
                        | exact i_nlt y8 h84
                        | exact h92 y9
                        | exact i_nlt y9 h92))
        · refine xG_run 4 rfl (by repeat' (first | exact trivial | assumption | exact xob_b rfl | exact xal_b rfl | (apply And.intro) | decide)) ?_
          try dsimp only [xsto1, xsto2, xkill, xget, xset, gd_0, gd_s]
          try simp (disch := omega) only [gI_self, g_ne, hn, nI_1]
          try rw [hA0]
          try rw [hA1]
          try rw [hA2]
          try rw [hA3]
          try rw [hA4]
          refine xG_br rfl (fun h54 => ?_) (fun h54 => ?_)
          · refine xG_run 3 rfl (by repeat' (first | exact trivial | assumption | exact xob_b rfl | exact xal_b rfl | (apply And.intro) | decide)) ?_
            try dsimp only [xsto1, xsto2, xkill, xget, xset, gd_0, gd_s]
            try simp (disch := omega) only [gI_self, g_ne, hn, nI_1]
            try rw [hA0]
            try rw [hA1]
            try rw [hA2]
            try rw [hA3]
            try rw [hA4]
            refine xG_br rfl (fun h102 => ?_) (fun h102 => ?_)
            · first
                | (exfalso; first | exact absurd h102 (by decide) | exact h102 (by decide))
                | (refine xG_run 4 rfl (by repeat' (first | exact trivial | assumption | exact xob_b rfl | exact xal_b rfl | (apply And.intro) | decide)) ?_
                   try dsimp only [xsto1, xsto2, xkill, xget, xset, gd_0, gd_s]
                   try simp (disch := omega) only [gI_self, g_ne, hn, nI_1]
                   try rw [hA0]
                   try rw [hA1]
                   try rw [hA2]
                   try rw [hA3]
                   try rw [hA4]
                   try simp (disch := omega) only [gI_self, g_ne, hn, nI_1]
                   refine xG_run 1 rfl (by repeat' (first | exact trivial | assumption | exact xob_b rfl | exact xal_b rfl | (apply And.intro) | decide)) ?_
                   try dsimp only [xsto1, xsto2, xkill, xget, xset, gd_0, gd_s]
                   try simp (disch := omega) only [gI_self, g_ne, hn, nI_1]
                   try rw [hA0]
                   try rw [hA1]
                   try rw [hA2]
                   try rw [hA3]
                   try rw [hA4]
                   rw [hj0]
                   refine xG_run 8 rfl (by repeat' (first | exact trivial | assumption | exact xob_b rfl | exact xal_b rfl | (apply And.intro) | decide)) ?_
                   try dsimp only [xsto1, xsto2, xkill, xget, xset, gd_0, gd_s]
                   try simp (disch := omega) only [gI_self, g_ne, hn, nI_1]
                   try rw [hA0]
                   try rw [hA1]
                   try rw [hA2]
                   try rw [hA3]
                   try rw [hA4]
                   refine xG_run 8 rfl (by repeat' (first | exact trivial | assumption | exact xob_b rfl | exact xal_b rfl | (apply And.intro) | decide)) ?_
                   try dsimp only [xsto1, xsto2, xkill, xget, xset, gd_0, gd_s]
                   try simp (disch := omega) only [gI_self, g_ne, hn, nI_1]
                   try rw [hA0]
                   try rw [hA1]
                   try rw [hA2]
                   try rw [hA3]
                   try rw [hA4]
                   refine xG_run 8 rfl (by repeat' (first | exact trivial | assumption | exact xob_b rfl | exact xal_b rfl | (apply And.intro) | decide)) ?_
                   try dsimp only [xsto1, xsto2, xkill, xget, xset, gd_0, gd_s]
                   try simp (disch := omega) only [gI_self, g_ne, hn, nI_1]
                   try rw [hA0]
                   try rw [hA1]
                   try rw [hA2]
                   try rw [hA3]
                   try rw [hA4]
                   refine xG_run 8 rfl (by repeat' (first | exact trivial | assumption | exact xob_b rfl | exact xal_b rfl | (apply And.intro) | decide)) ?_
                   try dsimp only [xsto1, xsto2, xkill, xget, xset, gd_0, gd_s]
                   try simp (disch := omega) only [gI_self, g_ne, hn, nI_1]
                   try rw [hA0]
                   try rw [hA1]
                   try rw [hA2]
                   try rw [hA3]
                   try rw [hA4]
                   refine xG_run 8 rfl (by repeat' (first | exact trivial | assumption | exact xob_b rfl | exact xal_b rfl | (apply And.intro) | decide)) ?_
                   try dsimp only [xsto1, xsto2, xkill, xget, xset, gd_0, gd_s]
                   try simp (disch := omega) only [gI_self, g_ne, hn, nI_1]
                   try rw [hA0]
                   try rw [hA1]
                   try rw [hA2]
                   try rw [hA3]
                   try rw [hA4]
                   refine xG_run 3 rfl (by repeat' (first | exact trivial | assumption | exact xob_b rfl | exact xal_b rfl | (apply And.intro) | decide)) ?_
                   try dsimp only [xsto1, xsto2, xkill, xget, xset, gd_0, gd_s]
                   try simp (disch := omega) only [gI_self, g_ne, hn, nI_1]
                   try rw [hA0]
                   try rw [hA1]
                   try rw [hA2]
                   try rw [hA3]
                   try rw [hA4]
                   refine r2_z rfl rfl (by first | decide | assumption) ?_
                   first
                     | exact Or.inl ⟨⟨hlt, by first | exact i_nlt2 h39 | exact h39, by rw [hcb]; first | exact Int32.not_le.mp h46 | exact h46, by first | exact i_nlt2 h54 | exact h54, by first | exact i_nlt2 h61 | exact h61, by first | exact i_nlt2 h69 | exact h69, by first | exact i_nlt2 h77 | exact h77, by first | exact i_nlt2 h84 | exact h84, by first | exact i_nlt2 h92 | exact h92⟩, rfl, rfl⟩
                     | (refine Or.inr ⟨?_, rfl, rfl⟩
                        rintro ⟨y1, y2, y3, y4, y5, y6, y7, y8, y9⟩
                        rw [hcb] at y3
                        first
                          | exact hlt y1
                          | exact i_nlt y2 h39
                          | exact i_nlt h46 y3
                          | exact i_nlt y4 h54
                          | exact i_nlt y5 h61
                          | exact i_nlt y6 h69
                          | exact i_nlt y7 h77
                          | exact i_nlt y8 h84
                          | exact h92 y9
                          | exact i_nlt y9 h92))
            · first
                | (exfalso; first | exact absurd h102 (by decide) | exact h102 (by decide))
                | (refine xG_run 1 rfl (by repeat' (first | exact trivial | assumption | exact xob_b rfl | exact xal_b rfl | (apply And.intro) | decide)) ?_
                   try dsimp only [xsto1, xsto2, xkill, xget, xset, gd_0, gd_s]
                   try simp (disch := omega) only [gI_self, g_ne, hn, nI_1]
                   try rw [hA0]
                   try rw [hA1]
                   try rw [hA2]
                   try rw [hA3]
                   try rw [hA4]
                   refine r2_z rfl rfl (by first | decide | assumption) ?_
                   first
                     | exact Or.inl ⟨⟨hlt, by first | exact i_nlt2 h39 | exact h39, by rw [hcb]; first | exact Int32.not_le.mp h46 | exact h46, by first | exact i_nlt2 h54 | exact h54, by first | exact i_nlt2 h61 | exact h61, by first | exact i_nlt2 h69 | exact h69, by first | exact i_nlt2 h77 | exact h77, by first | exact i_nlt2 h84 | exact h84, by first | exact i_nlt2 h92 | exact h92⟩, rfl, rfl⟩
                     | (refine Or.inr ⟨?_, rfl, rfl⟩
                        rintro ⟨y1, y2, y3, y4, y5, y6, y7, y8, y9⟩
                        rw [hcb] at y3
                        first
                          | exact hlt y1
                          | exact i_nlt y2 h39
                          | exact i_nlt h46 y3
                          | exact i_nlt y4 h54
                          | exact i_nlt y5 h61
                          | exact i_nlt y6 h69
                          | exact i_nlt y7 h77
                          | exact i_nlt y8 h84
                          | exact h92 y9
                          | exact i_nlt y9 h92))
          · refine xG_run 4 rfl (by repeat' (first | exact trivial | assumption | exact xob_b rfl | exact xal_b rfl | (apply And.intro) | decide)) ?_
            try dsimp only [xsto1, xsto2, xkill, xget, xset, gd_0, gd_s]
            try simp (disch := omega) only [gI_self, g_ne, hn, nI_1]
            try rw [hA0]
            try rw [hA1]
            try rw [hA2]
            try rw [hA3]
            try rw [hA4]
            refine xG_br rfl (fun h61 => ?_) (fun h61 => ?_)
            · refine xG_run 3 rfl (by repeat' (first | exact trivial | assumption | exact xob_b rfl | exact xal_b rfl | (apply And.intro) | decide)) ?_
              try dsimp only [xsto1, xsto2, xkill, xget, xset, gd_0, gd_s]
              try simp (disch := omega) only [gI_self, g_ne, hn, nI_1]
              try rw [hA0]
              try rw [hA1]
              try rw [hA2]
              try rw [hA3]
              try rw [hA4]
              refine xG_br rfl (fun h102 => ?_) (fun h102 => ?_)
              · first
                  | (exfalso; first | exact absurd h102 (by decide) | exact h102 (by decide))
                  | (refine xG_run 4 rfl (by repeat' (first | exact trivial | assumption | exact xob_b rfl | exact xal_b rfl | (apply And.intro) | decide)) ?_
                     try dsimp only [xsto1, xsto2, xkill, xget, xset, gd_0, gd_s]
                     try simp (disch := omega) only [gI_self, g_ne, hn, nI_1]
                     try rw [hA0]
                     try rw [hA1]
                     try rw [hA2]
                     try rw [hA3]
                     try rw [hA4]
                     try simp (disch := omega) only [gI_self, g_ne, hn, nI_1]
                     refine xG_run 1 rfl (by repeat' (first | exact trivial | assumption | exact xob_b rfl | exact xal_b rfl | (apply And.intro) | decide)) ?_
                     try dsimp only [xsto1, xsto2, xkill, xget, xset, gd_0, gd_s]
                     try simp (disch := omega) only [gI_self, g_ne, hn, nI_1]
                     try rw [hA0]
                     try rw [hA1]
                     try rw [hA2]
                     try rw [hA3]
                     try rw [hA4]
                     rw [hj0]
                     refine xG_run 8 rfl (by repeat' (first | exact trivial | assumption | exact xob_b rfl | exact xal_b rfl | (apply And.intro) | decide)) ?_
                     try dsimp only [xsto1, xsto2, xkill, xget, xset, gd_0, gd_s]
                     try simp (disch := omega) only [gI_self, g_ne, hn, nI_1]
                     try rw [hA0]
                     try rw [hA1]
                     try rw [hA2]
                     try rw [hA3]
                     try rw [hA4]
                     refine xG_run 8 rfl (by repeat' (first | exact trivial | assumption | exact xob_b rfl | exact xal_b rfl | (apply And.intro) | decide)) ?_
                     try dsimp only [xsto1, xsto2, xkill, xget, xset, gd_0, gd_s]
                     try simp (disch := omega) only [gI_self, g_ne, hn, nI_1]
                     try rw [hA0]
                     try rw [hA1]
                     try rw [hA2]
                     try rw [hA3]
                     try rw [hA4]
                     refine xG_run 8 rfl (by repeat' (first | exact trivial | assumption | exact xob_b rfl | exact xal_b rfl | (apply And.intro) | decide)) ?_
                     try dsimp only [xsto1, xsto2, xkill, xget, xset, gd_0, gd_s]
                     try simp (disch := omega) only [gI_self, g_ne, hn, nI_1]
                     try rw [hA0]
                     try rw [hA1]
                     try rw [hA2]
                     try rw [hA3]
                     try rw [hA4]
                     refine xG_run 8 rfl (by repeat' (first | exact trivial | assumption | exact xob_b rfl | exact xal_b rfl | (apply And.intro) | decide)) ?_
                     try dsimp only [xsto1, xsto2, xkill, xget, xset, gd_0, gd_s]
                     try simp (disch := omega) only [gI_self, g_ne, hn, nI_1]
                     try rw [hA0]
                     try rw [hA1]
                     try rw [hA2]
                     try rw [hA3]
                     try rw [hA4]
                     refine xG_run 8 rfl (by repeat' (first | exact trivial | assumption | exact xob_b rfl | exact xal_b rfl | (apply And.intro) | decide)) ?_
                     try dsimp only [xsto1, xsto2, xkill, xget, xset, gd_0, gd_s]
                     try simp (disch := omega) only [gI_self, g_ne, hn, nI_1]
                     try rw [hA0]
                     try rw [hA1]
                     try rw [hA2]
                     try rw [hA3]
                     try rw [hA4]
                     refine xG_run 3 rfl (by repeat' (first | exact trivial | assumption | exact xob_b rfl | exact xal_b rfl | (apply And.intro) | decide)) ?_
                     try dsimp only [xsto1, xsto2, xkill, xget, xset, gd_0, gd_s]
                     try simp (disch := omega) only [gI_self, g_ne, hn, nI_1]
                     try rw [hA0]
                     try rw [hA1]
                     try rw [hA2]
                     try rw [hA3]
                     try rw [hA4]
                     refine r2_z rfl rfl (by first | decide | assumption) ?_
                     first
                       | exact Or.inl ⟨⟨hlt, by first | exact i_nlt2 h39 | exact h39, by rw [hcb]; first | exact Int32.not_le.mp h46 | exact h46, by first | exact i_nlt2 h54 | exact h54, by first | exact i_nlt2 h61 | exact h61, by first | exact i_nlt2 h69 | exact h69, by first | exact i_nlt2 h77 | exact h77, by first | exact i_nlt2 h84 | exact h84, by first | exact i_nlt2 h92 | exact h92⟩, rfl, rfl⟩
                       | (refine Or.inr ⟨?_, rfl, rfl⟩
                          rintro ⟨y1, y2, y3, y4, y5, y6, y7, y8, y9⟩
                          rw [hcb] at y3
                          first
                            | exact hlt y1
                            | exact i_nlt y2 h39
                            | exact i_nlt h46 y3
                            | exact i_nlt y4 h54
                            | exact i_nlt y5 h61
                            | exact i_nlt y6 h69
                            | exact i_nlt y7 h77
                            | exact i_nlt y8 h84
                            | exact h92 y9
                            | exact i_nlt y9 h92))
              · first
                  | (exfalso; first | exact absurd h102 (by decide) | exact h102 (by decide))
                  | (refine xG_run 1 rfl (by repeat' (first | exact trivial | assumption | exact xob_b rfl | exact xal_b rfl | (apply And.intro) | decide)) ?_
                     try dsimp only [xsto1, xsto2, xkill, xget, xset, gd_0, gd_s]
                     try simp (disch := omega) only [gI_self, g_ne, hn, nI_1]
                     try rw [hA0]
                     try rw [hA1]
                     try rw [hA2]
                     try rw [hA3]
                     try rw [hA4]
                     refine r2_z rfl rfl (by first | decide | assumption) ?_
                     first
                       | exact Or.inl ⟨⟨hlt, by first | exact i_nlt2 h39 | exact h39, by rw [hcb]; first | exact Int32.not_le.mp h46 | exact h46, by first | exact i_nlt2 h54 | exact h54, by first | exact i_nlt2 h61 | exact h61, by first | exact i_nlt2 h69 | exact h69, by first | exact i_nlt2 h77 | exact h77, by first | exact i_nlt2 h84 | exact h84, by first | exact i_nlt2 h92 | exact h92⟩, rfl, rfl⟩
                       | (refine Or.inr ⟨?_, rfl, rfl⟩
                          rintro ⟨y1, y2, y3, y4, y5, y6, y7, y8, y9⟩
                          rw [hcb] at y3
                          first
                            | exact hlt y1
                            | exact i_nlt y2 h39
                            | exact i_nlt h46 y3
                            | exact i_nlt y4 h54
                            | exact i_nlt y5 h61
                            | exact i_nlt y6 h69
                            | exact i_nlt y7 h77
                            | exact i_nlt y8 h84
                            | exact h92 y9
                            | exact i_nlt y9 h92))
            · refine xG_run 4 rfl (by repeat' (first | exact trivial | assumption | exact xob_b rfl | exact xal_b rfl | (apply And.intro) | decide)) ?_
              try dsimp only [xsto1, xsto2, xkill, xget, xset, gd_0, gd_s]
              try simp (disch := omega) only [gI_self, g_ne, hn, nI_1]
              try rw [hA0]
              try rw [hA1]
              try rw [hA2]
              try rw [hA3]
              try rw [hA4]
              refine xG_br rfl (fun h69 => ?_) (fun h69 => ?_)
              · refine xG_run 3 rfl (by repeat' (first | exact trivial | assumption | exact xob_b rfl | exact xal_b rfl | (apply And.intro) | decide)) ?_
                try dsimp only [xsto1, xsto2, xkill, xget, xset, gd_0, gd_s]
                try simp (disch := omega) only [gI_self, g_ne, hn, nI_1]
                try rw [hA0]
                try rw [hA1]
                try rw [hA2]
                try rw [hA3]
                try rw [hA4]
                refine xG_br rfl (fun h102 => ?_) (fun h102 => ?_)
                · first
                    | (exfalso; first | exact absurd h102 (by decide) | exact h102 (by decide))
                    | (refine xG_run 4 rfl (by repeat' (first | exact trivial | assumption | exact xob_b rfl | exact xal_b rfl | (apply And.intro) | decide)) ?_
                       try dsimp only [xsto1, xsto2, xkill, xget, xset, gd_0, gd_s]
                       try simp (disch := omega) only [gI_self, g_ne, hn, nI_1]
                       try rw [hA0]
                       try rw [hA1]
                       try rw [hA2]
                       try rw [hA3]
                       try rw [hA4]
                       try simp (disch := omega) only [gI_self, g_ne, hn, nI_1]
                       refine xG_run 1 rfl (by repeat' (first | exact trivial | assumption | exact xob_b rfl | exact xal_b rfl | (apply And.intro) | decide)) ?_
                       try dsimp only [xsto1, xsto2, xkill, xget, xset, gd_0, gd_s]
                       try simp (disch := omega) only [gI_self, g_ne, hn, nI_1]
                       try rw [hA0]
                       try rw [hA1]
                       try rw [hA2]
                       try rw [hA3]
                       try rw [hA4]
                       rw [hj0]
                       refine xG_run 8 rfl (by repeat' (first | exact trivial | assumption | exact xob_b rfl | exact xal_b rfl | (apply And.intro) | decide)) ?_
                       try dsimp only [xsto1, xsto2, xkill, xget, xset, gd_0, gd_s]
                       try simp (disch := omega) only [gI_self, g_ne, hn, nI_1]
                       try rw [hA0]
                       try rw [hA1]
                       try rw [hA2]
                       try rw [hA3]
                       try rw [hA4]
                       refine xG_run 8 rfl (by repeat' (first | exact trivial | assumption | exact xob_b rfl | exact xal_b rfl | (apply And.intro) | decide)) ?_
                       try dsimp only [xsto1, xsto2, xkill, xget, xset, gd_0, gd_s]
                       try simp (disch := omega) only [gI_self, g_ne, hn, nI_1]
                       try rw [hA0]
                       try rw [hA1]
                       try rw [hA2]
                       try rw [hA3]
                       try rw [hA4]
                       refine xG_run 8 rfl (by repeat' (first | exact trivial | assumption | exact xob_b rfl | exact xal_b rfl | (apply And.intro) | decide)) ?_
                       try dsimp only [xsto1, xsto2, xkill, xget, xset, gd_0, gd_s]
                       try simp (disch := omega) only [gI_self, g_ne, hn, nI_1]
                       try rw [hA0]
                       try rw [hA1]
                       try rw [hA2]
                       try rw [hA3]
                       try rw [hA4]
                       refine xG_run 8 rfl (by repeat' (first | exact trivial | assumption | exact xob_b rfl | exact xal_b rfl | (apply And.intro) | decide)) ?_
                       try dsimp only [xsto1, xsto2, xkill, xget, xset, gd_0, gd_s]
                       try simp (disch := omega) only [gI_self, g_ne, hn, nI_1]
                       try rw [hA0]
                       try rw [hA1]
                       try rw [hA2]
                       try rw [hA3]
                       try rw [hA4]
                       refine xG_run 8 rfl (by repeat' (first | exact trivial | assumption | exact xob_b rfl | exact xal_b rfl | (apply And.intro) | decide)) ?_
                       try dsimp only [xsto1, xsto2, xkill, xget, xset, gd_0, gd_s]
                       try simp (disch := omega) only [gI_self, g_ne, hn, nI_1]
                       try rw [hA0]
                       try rw [hA1]
                       try rw [hA2]
                       try rw [hA3]
                       try rw [hA4]
                       refine xG_run 3 rfl (by repeat' (first | exact trivial | assumption | exact xob_b rfl | exact xal_b rfl | (apply And.intro) | decide)) ?_
                       try dsimp only [xsto1, xsto2, xkill, xget, xset, gd_0, gd_s]
                       try simp (disch := omega) only [gI_self, g_ne, hn, nI_1]
                       try rw [hA0]
                       try rw [hA1]
                       try rw [hA2]
                       try rw [hA3]
                       try rw [hA4]
                       refine r2_z rfl rfl (by first | decide | assumption) ?_
                       first
                         | exact Or.inl ⟨⟨hlt, by first | exact i_nlt2 h39 | exact h39, by rw [hcb]; first | exact Int32.not_le.mp h46 | exact h46, by first | exact i_nlt2 h54 | exact h54, by first | exact i_nlt2 h61 | exact h61, by first | exact i_nlt2 h69 | exact h69, by first | exact i_nlt2 h77 | exact h77, by first | exact i_nlt2 h84 | exact h84, by first | exact i_nlt2 h92 | exact h92⟩, rfl, rfl⟩
                         | (refine Or.inr ⟨?_, rfl, rfl⟩
                            rintro ⟨y1, y2, y3, y4, y5, y6, y7, y8, y9⟩
                            rw [hcb] at y3
                            first
                              | exact hlt y1
                              | exact i_nlt y2 h39
                              | exact i_nlt h46 y3
                              | exact i_nlt y4 h54
                              | exact i_nlt y5 h61
                              | exact i_nlt y6 h69
                              | exact i_nlt y7 h77
                              | exact i_nlt y8 h84
                              | exact h92 y9
                              | exact i_nlt y9 h92))
                · first
                    | (exfalso; first | exact absurd h102 (by decide) | exact h102 (by decide))
                    | (refine xG_run 1 rfl (by repeat' (first | exact trivial | assumption | exact xob_b rfl | exact xal_b rfl | (apply And.intro) | decide)) ?_
                       try dsimp only [xsto1, xsto2, xkill, xget, xset, gd_0, gd_s]
                       try simp (disch := omega) only [gI_self, g_ne, hn, nI_1]
                       try rw [hA0]
                       try rw [hA1]
                       try rw [hA2]
                       try rw [hA3]
                       try rw [hA4]
                       refine r2_z rfl rfl (by first | decide | assumption) ?_
                       first
                         | exact Or.inl ⟨⟨hlt, by first | exact i_nlt2 h39 | exact h39, by rw [hcb]; first | exact Int32.not_le.mp h46 | exact h46, by first | exact i_nlt2 h54 | exact h54, by first | exact i_nlt2 h61 | exact h61, by first | exact i_nlt2 h69 | exact h69, by first | exact i_nlt2 h77 | exact h77, by first | exact i_nlt2 h84 | exact h84, by first | exact i_nlt2 h92 | exact h92⟩, rfl, rfl⟩
                         | (refine Or.inr ⟨?_, rfl, rfl⟩
                            rintro ⟨y1, y2, y3, y4, y5, y6, y7, y8, y9⟩
                            rw [hcb] at y3
                            first
                              | exact hlt y1
                              | exact i_nlt y2 h39
                              | exact i_nlt h46 y3
                              | exact i_nlt y4 h54
                              | exact i_nlt y5 h61
                              | exact i_nlt y6 h69
                              | exact i_nlt y7 h77
                              | exact i_nlt y8 h84
                              | exact h92 y9
                              | exact i_nlt y9 h92))
              · refine xG_run 4 rfl (by repeat' (first | exact trivial | assumption | exact xob_b rfl | exact xal_b rfl | (apply And.intro) | decide)) ?_
                try dsimp only [xsto1, xsto2, xkill, xget, xset, gd_0, gd_s]
                try simp (disch := omega) only [gI_self, g_ne, hn, nI_1]
                try rw [hA0]
                try rw [hA1]
                try rw [hA2]
                try rw [hA3]
                try rw [hA4]
                refine xG_br rfl (fun h77 => ?_) (fun h77 => ?_)
                · refine xG_run 3 rfl (by repeat' (first | exact trivial | assumption | exact xob_b rfl | exact xal_b rfl | (apply And.intro) | decide)) ?_
                  try dsimp only [xsto1, xsto2, xkill, xget, xset, gd_0, gd_s]
                  try simp (disch := omega) only [gI_self, g_ne, hn, nI_1]
                  try rw [hA0]
                  try rw [hA1]
                  try rw [hA2]
                  try rw [hA3]
                  try rw [hA4]
                  refine xG_br rfl (fun h102 => ?_) (fun h102 => ?_)
                  · first
                      | (exfalso; first | exact absurd h102 (by decide) | exact h102 (by decide))
                      | (refine xG_run 4 rfl (by repeat' (first | exact trivial | assumption | exact xob_b rfl | exact xal_b rfl | (apply And.intro) | decide)) ?_
                         try dsimp only [xsto1, xsto2, xkill, xget, xset, gd_0, gd_s]
                         try simp (disch := omega) only [gI_self, g_ne, hn, nI_1]
                         try rw [hA0]
                         try rw [hA1]
                         try rw [hA2]
                         try rw [hA3]
                         try rw [hA4]
                         try simp (disch := omega) only [gI_self, g_ne, hn, nI_1]
                         refine xG_run 1 rfl (by repeat' (first | exact trivial | assumption | exact xob_b rfl | exact xal_b rfl | (apply And.intro) | decide)) ?_
                         try dsimp only [xsto1, xsto2, xkill, xget, xset, gd_0, gd_s]
                         try simp (disch := omega) only [gI_self, g_ne, hn, nI_1]
                         try rw [hA0]
                         try rw [hA1]
                         try rw [hA2]
                         try rw [hA3]
                         try rw [hA4]
                         rw [hj0]
                         refine xG_run 8 rfl (by repeat' (first | exact trivial | assumption | exact xob_b rfl | exact xal_b rfl | (apply And.intro) | decide)) ?_
                         try dsimp only [xsto1, xsto2, xkill, xget, xset, gd_0, gd_s]
                         try simp (disch := omega) only [gI_self, g_ne, hn, nI_1]
                         try rw [hA0]
                         try rw [hA1]
                         try rw [hA2]
                         try rw [hA3]
                         try rw [hA4]
                         refine xG_run 8 rfl (by repeat' (first | exact trivial | assumption | exact xob_b rfl | exact xal_b rfl | (apply And.intro) | decide)) ?_
                         try dsimp only [xsto1, xsto2, xkill, xget, xset, gd_0, gd_s]
                         try simp (disch := omega) only [gI_self, g_ne, hn, nI_1]
                         try rw [hA0]
                         try rw [hA1]
                         try rw [hA2]
                         try rw [hA3]
                         try rw [hA4]
                         refine xG_run 8 rfl (by repeat' (first | exact trivial | assumption | exact xob_b rfl | exact xal_b rfl | (apply And.intro) | decide)) ?_
                         try dsimp only [xsto1, xsto2, xkill, xget, xset, gd_0, gd_s]
                         try simp (disch := omega) only [gI_self, g_ne, hn, nI_1]
                         try rw [hA0]
                         try rw [hA1]
                         try rw [hA2]
                         try rw [hA3]
                         try rw [hA4]
                         refine xG_run 8 rfl (by repeat' (first | exact trivial | assumption | exact xob_b rfl | exact xal_b rfl | (apply And.intro) | decide)) ?_
                         try dsimp only [xsto1, xsto2, xkill, xget, xset, gd_0, gd_s]
                         try simp (disch := omega) only [gI_self, g_ne, hn, nI_1]
                         try rw [hA0]
                         try rw [hA1]
                         try rw [hA2]
                         try rw [hA3]
                         try rw [hA4]
                         refine xG_run 8 rfl (by repeat' (first | exact trivial | assumption | exact xob_b rfl | exact xal_b rfl | (apply And.intro) | decide)) ?_
                         try dsimp only [xsto1, xsto2, xkill, xget, xset, gd_0, gd_s]
                         try simp (disch := omega) only [gI_self, g_ne, hn, nI_1]
                         try rw [hA0]
                         try rw [hA1]
                         try rw [hA2]
                         try rw [hA3]
                         try rw [hA4]
                         refine xG_run 3 rfl (by repeat' (first | exact trivial | assumption | exact xob_b rfl | exact xal_b rfl | (apply And.intro) | decide)) ?_
                         try dsimp only [xsto1, xsto2, xkill, xget, xset, gd_0, gd_s]
                         try simp (disch := omega) only [gI_self, g_ne, hn, nI_1]
                         try rw [hA0]
                         try rw [hA1]
                         try rw [hA2]
                         try rw [hA3]
                         try rw [hA4]
                         refine r2_z rfl rfl (by first | decide | assumption) ?_
                         first
                           | exact Or.inl ⟨⟨hlt, by first | exact i_nlt2 h39 | exact h39, by rw [hcb]; first | exact Int32.not_le.mp h46 | exact h46, by first | exact i_nlt2 h54 | exact h54, by first | exact i_nlt2 h61 | exact h61, by first | exact i_nlt2 h69 | exact h69, by first | exact i_nlt2 h77 | exact h77, by first | exact i_nlt2 h84 | exact h84, by first | exact i_nlt2 h92 | exact h92⟩, rfl, rfl⟩
                           | (refine Or.inr ⟨?_, rfl, rfl⟩
                              rintro ⟨y1, y2, y3, y4, y5, y6, y7, y8, y9⟩
                              rw [hcb] at y3
                              first
                                | exact hlt y1
                                | exact i_nlt y2 h39
                                | exact i_nlt h46 y3
                                | exact i_nlt y4 h54
                                | exact i_nlt y5 h61
                                | exact i_nlt y6 h69
                                | exact i_nlt y7 h77
                                | exact i_nlt y8 h84
                                | exact h92 y9
                                | exact i_nlt y9 h92))
                  · first
                      | (exfalso; first | exact absurd h102 (by decide) | exact h102 (by decide))
                      | (refine xG_run 1 rfl (by repeat' (first | exact trivial | assumption | exact xob_b rfl | exact xal_b rfl | (apply And.intro) | decide)) ?_
                         try dsimp only [xsto1, xsto2, xkill, xget, xset, gd_0, gd_s]
                         try simp (disch := omega) only [gI_self, g_ne, hn, nI_1]
                         try rw [hA0]
                         try rw [hA1]
                         try rw [hA2]
                         try rw [hA3]
                         try rw [hA4]
                         refine r2_z rfl rfl (by first | decide | assumption) ?_
                         first
                           | exact Or.inl ⟨⟨hlt, by first | exact i_nlt2 h39 | exact h39, by rw [hcb]; first | exact Int32.not_le.mp h46 | exact h46, by first | exact i_nlt2 h54 | exact h54, by first | exact i_nlt2 h61 | exact h61, by first | exact i_nlt2 h69 | exact h69, by first | exact i_nlt2 h77 | exact h77, by first | exact i_nlt2 h84 | exact h84, by first | exact i_nlt2 h92 | exact h92⟩, rfl, rfl⟩
                           | (refine Or.inr ⟨?_, rfl, rfl⟩
                              rintro ⟨y1, y2, y3, y4, y5, y6, y7, y8, y9⟩
                              rw [hcb] at y3
                              first
                                | exact hlt y1
                                | exact i_nlt y2 h39
                                | exact i_nlt h46 y3
                                | exact i_nlt y4 h54
                                | exact i_nlt y5 h61
                                | exact i_nlt y6 h69
                                | exact i_nlt y7 h77
                                | exact i_nlt y8 h84
                                | exact h92 y9
                                | exact i_nlt y9 h92))
                · refine xG_run 4 rfl (by repeat' (first | exact trivial | assumption | exact xob_b rfl | exact xal_b rfl | (apply And.intro) | decide)) ?_
                  try dsimp only [xsto1, xsto2, xkill, xget, xset, gd_0, gd_s]
                  try simp (disch := omega) only [gI_self, g_ne, hn, nI_1]
                  try rw [hA0]
                  try rw [hA1]
                  try rw [hA2]
                  try rw [hA3]
                  try rw [hA4]
                  refine xG_br rfl (fun h84 => ?_) (fun h84 => ?_)
                  · refine xG_run 3 rfl (by repeat' (first | exact trivial | assumption | exact xob_b rfl | exact xal_b rfl | (apply And.intro) | decide)) ?_
                    try dsimp only [xsto1, xsto2, xkill, xget, xset, gd_0, gd_s]
                    try simp (disch := omega) only [gI_self, g_ne, hn, nI_1]
                    try rw [hA0]
                    try rw [hA1]
                    try rw [hA2]
                    try rw [hA3]
                    try rw [hA4]
                    refine xG_br rfl (fun h102 => ?_) (fun h102 => ?_)
                    · first
                        | (exfalso; first | exact absurd h102 (by decide) | exact h102 (by decide))
                        | (refine xG_run 4 rfl (by repeat' (first | exact trivial | assumption | exact xob_b rfl | exact xal_b rfl | (apply And.intro) | decide)) ?_
                           try dsimp only [xsto1, xsto2, xkill, xget, xset, gd_0, gd_s]
                           try simp (disch := omega) only [gI_self, g_ne, hn, nI_1]
                           try rw [hA0]
                           try rw [hA1]
                           try rw [hA2]
                           try rw [hA3]
                           try rw [hA4]
                           try simp (disch := omega) only [gI_self, g_ne, hn, nI_1]
                           refine xG_run 1 rfl (by repeat' (first | exact trivial | assumption | exact xob_b rfl | exact xal_b rfl | (apply And.intro) | decide)) ?_
                           try dsimp only [xsto1, xsto2, xkill, xget, xset, gd_0, gd_s]
                           try simp (disch := omega) only [gI_self, g_ne, hn, nI_1]
                           try rw [hA0]
                           try rw [hA1]
                           try rw [hA2]
                           try rw [hA3]
                           try rw [hA4]
                           rw [hj0]
                           refine xG_run 8 rfl (by repeat' (first | exact trivial | assumption | exact xob_b rfl | exact xal_b rfl | (apply And.intro) | decide)) ?_
                           try dsimp only [xsto1, xsto2, xkill, xget, xset, gd_0, gd_s]
                           try simp (disch := omega) only [gI_self, g_ne, hn, nI_1]
                           try rw [hA0]
                           try rw [hA1]
                           try rw [hA2]
                           try rw [hA3]
                           try rw [hA4]
                           refine xG_run 8 rfl (by repeat' (first | exact trivial | assumption | exact xob_b rfl | exact xal_b rfl | (apply And.intro) | decide)) ?_
                           try dsimp only [xsto1, xsto2, xkill, xget, xset, gd_0, gd_s]
                           try simp (disch := omega) only [gI_self, g_ne, hn, nI_1]
                           try rw [hA0]
                           try rw [hA1]
                           try rw [hA2]
                           try rw [hA3]
                           try rw [hA4]
                           refine xG_run 8 rfl (by repeat' (first | exact trivial | assumption | exact xob_b rfl | exact xal_b rfl | (apply And.intro) | decide)) ?_
                           try dsimp only [xsto1, xsto2, xkill, xget, xset, gd_0, gd_s]
                           try simp (disch := omega) only [gI_self, g_ne, hn, nI_1]
                           try rw [hA0]
                           try rw [hA1]
                           try rw [hA2]
                           try rw [hA3]
                           try rw [hA4]
                           refine xG_run 8 rfl (by repeat' (first | exact trivial | assumption | exact xob_b rfl | exact xal_b rfl | (apply And.intro) | decide)) ?_
                           try dsimp only [xsto1, xsto2, xkill, xget, xset, gd_0, gd_s]
                           try simp (disch := omega) only [gI_self, g_ne, hn, nI_1]
                           try rw [hA0]
                           try rw [hA1]
                           try rw [hA2]
                           try rw [hA3]
                           try rw [hA4]
                           refine xG_run 8 rfl (by repeat' (first | exact trivial | assumption | exact xob_b rfl | exact xal_b rfl | (apply And.intro) | decide)) ?_
                           try dsimp only [xsto1, xsto2, xkill, xget, xset, gd_0, gd_s]
                           try simp (disch := omega) only [gI_self, g_ne, hn, nI_1]
                           try rw [hA0]
                           try rw [hA1]
                           try rw [hA2]
                           try rw [hA3]
                           try rw [hA4]
                           refine xG_run 3 rfl (by repeat' (first | exact trivial | assumption | exact xob_b rfl | exact xal_b rfl | (apply And.intro) | decide)) ?_
                           try dsimp only [xsto1, xsto2, xkill, xget, xset, gd_0, gd_s]
                           try simp (disch := omega) only [gI_self, g_ne, hn, nI_1]
                           try rw [hA0]
                           try rw [hA1]
                           try rw [hA2]
                           try rw [hA3]
                           try rw [hA4]
                           refine r2_z rfl rfl (by first | decide | assumption) ?_
                           first
                             | exact Or.inl ⟨⟨hlt, by first | exact i_nlt2 h39 | exact h39, by rw [hcb]; first | exact Int32.not_le.mp h46 | exact h46, by first | exact i_nlt2 h54 | exact h54, by first | exact i_nlt2 h61 | exact h61, by first | exact i_nlt2 h69 | exact h69, by first | exact i_nlt2 h77 | exact h77, by first | exact i_nlt2 h84 | exact h84, by first | exact i_nlt2 h92 | exact h92⟩, rfl, rfl⟩
                             | (refine Or.inr ⟨?_, rfl, rfl⟩
                                rintro ⟨y1, y2, y3, y4, y5, y6, y7, y8, y9⟩
                                rw [hcb] at y3
                                first
                                  | exact hlt y1
                                  | exact i_nlt y2 h39
                                  | exact i_nlt h46 y3
                                  | exact i_nlt y4 h54
                                  | exact i_nlt y5 h61
                                  | exact i_nlt y6 h69
                                  | exact i_nlt y7 h77
                                  | exact i_nlt y8 h84
                                  | exact h92 y9
                                  | exact i_nlt y9 h92))
                    · first
                        | (exfalso; first | exact absurd h102 (by decide) | exact h102 (by decide))
                        | (refine xG_run 1 rfl (by repeat' (first | exact trivial | assumption | exact xob_b rfl | exact xal_b rfl | (apply And.intro) | decide)) ?_
                           try dsimp only [xsto1, xsto2, xkill, xget, xset, gd_0, gd_s]
                           try simp (disch := omega) only [gI_self, g_ne, hn, nI_1]
                           try rw [hA0]
                           try rw [hA1]
                           try rw [hA2]
                           try rw [hA3]
                           try rw [hA4]
                           refine r2_z rfl rfl (by first | decide | assumption) ?_
                           first
                             | exact Or.inl ⟨⟨hlt, by first | exact i_nlt2 h39 | exact h39, by rw [hcb]; first | exact Int32.not_le.mp h46 | exact h46, by first | exact i_nlt2 h54 | exact h54, by first | exact i_nlt2 h61 | exact h61, by first | exact i_nlt2 h69 | exact h69, by first | exact i_nlt2 h77 | exact h77, by first | exact i_nlt2 h84 | exact h84, by first | exact i_nlt2 h92 | exact h92⟩, rfl, rfl⟩
                             | (refine Or.inr ⟨?_, rfl, rfl⟩
                                rintro ⟨y1, y2, y3, y4, y5, y6, y7, y8, y9⟩
                                rw [hcb] at y3
                                first
                                  | exact hlt y1
                                  | exact i_nlt y2 h39
                                  | exact i_nlt h46 y3
                                  | exact i_nlt y4 h54
                                  | exact i_nlt y5 h61
                                  | exact i_nlt y6 h69
                                  | exact i_nlt y7 h77
                                  | exact i_nlt y8 h84
                                  | exact h92 y9
                                  | exact i_nlt y9 h92))
                  · refine xG_run 4 rfl (by repeat' (first | exact trivial | assumption | exact xob_b rfl | exact xal_b rfl | (apply And.intro) | decide)) ?_
                    try dsimp only [xsto1, xsto2, xkill, xget, xset, gd_0, gd_s]
                    try simp (disch := omega) only [gI_self, g_ne, hn, nI_1]
                    try rw [hA0]
                    try rw [hA1]
                    try rw [hA2]
                    try rw [hA3]
                    try rw [hA4]
                    refine xG_br rfl (fun h92 => ?_) (fun h92 => ?_)
                    · refine xG_run 3 rfl (by repeat' (first | exact trivial | assumption | exact xob_b rfl | exact xal_b rfl | (apply And.intro) | decide)) ?_
                      try dsimp only [xsto1, xsto2, xkill, xget, xset, gd_0, gd_s]
                      try simp (disch := omega) only [gI_self, g_ne, hn, nI_1]
                      try rw [hA0]
                      try rw [hA1]
                      try rw [hA2]
                      try rw [hA3]
                      try rw [hA4]
                      refine xG_br rfl (fun h102 => ?_) (fun h102 => ?_)
                      · first
                          | (exfalso; first | exact absurd h102 (by decide) | exact h102 (by decide))
                          | (refine xG_run 4 rfl (by repeat' (first | exact trivial | assumption | exact xob_b rfl | exact xal_b rfl | (apply And.intro) | decide)) ?_
                             try dsimp only [xsto1, xsto2, xkill, xget, xset, gd_0, gd_s]
                             try simp (disch := omega) only [gI_self, g_ne, hn, nI_1]
                             try rw [hA0]
                             try rw [hA1]
                             try rw [hA2]
                             try rw [hA3]
                             try rw [hA4]
                             try simp (disch := omega) only [gI_self, g_ne, hn, nI_1]
                             refine xG_run 1 rfl (by repeat' (first | exact trivial | assumption | exact xob_b rfl | exact xal_b rfl | (apply And.intro) | decide)) ?_
                             try dsimp only [xsto1, xsto2, xkill, xget, xset, gd_0, gd_s]
                             try simp (disch := omega) only [gI_self, g_ne, hn, nI_1]
                             try rw [hA0]
                             try rw [hA1]
                             try rw [hA2]
                             try rw [hA3]
                             try rw [hA4]
                             rw [hj0]
                             refine xG_run 8 rfl (by repeat' (first | exact trivial | assumption | exact xob_b rfl | exact xal_b rfl | (apply And.intro) | decide)) ?_
                             try dsimp only [xsto1, xsto2, xkill, xget, xset, gd_0, gd_s]
                             try simp (disch := omega) only [gI_self, g_ne, hn, nI_1]
                             try rw [hA0]
                             try rw [hA1]
                             try rw [hA2]
                             try rw [hA3]
                             try rw [hA4]
                             refine xG_run 8 rfl (by repeat' (first | exact trivial | assumption | exact xob_b rfl | exact xal_b rfl | (apply And.intro) | decide)) ?_
                             try dsimp only [xsto1, xsto2, xkill, xget, xset, gd_0, gd_s]
                             try simp (disch := omega) only [gI_self, g_ne, hn, nI_1]
                             try rw [hA0]
                             try rw [hA1]
                             try rw [hA2]
                             try rw [hA3]
                             try rw [hA4]
                             refine xG_run 8 rfl (by repeat' (first | exact trivial | assumption | exact xob_b rfl | exact xal_b rfl | (apply And.intro) | decide)) ?_
                             try dsimp only [xsto1, xsto2, xkill, xget, xset, gd_0, gd_s]
                             try simp (disch := omega) only [gI_self, g_ne, hn, nI_1]
                             try rw [hA0]
                             try rw [hA1]
                             try rw [hA2]
                             try rw [hA3]
                             try rw [hA4]
                             refine xG_run 8 rfl (by repeat' (first | exact trivial | assumption | exact xob_b rfl | exact xal_b rfl | (apply And.intro) | decide)) ?_
                             try dsimp only [xsto1, xsto2, xkill, xget, xset, gd_0, gd_s]
                             try simp (disch := omega) only [gI_self, g_ne, hn, nI_1]
                             try rw [hA0]
                             try rw [hA1]
                             try rw [hA2]
                             try rw [hA3]
                             try rw [hA4]
                             refine xG_run 8 rfl (by repeat' (first | exact trivial | assumption | exact xob_b rfl | exact xal_b rfl | (apply And.intro) | decide)) ?_
                             try dsimp only [xsto1, xsto2, xkill, xget, xset, gd_0, gd_s]
                             try simp (disch := omega) only [gI_self, g_ne, hn, nI_1]
                             try rw [hA0]
                             try rw [hA1]
                             try rw [hA2]
                             try rw [hA3]
                             try rw [hA4]
                             refine xG_run 3 rfl (by repeat' (first | exact trivial | assumption | exact xob_b rfl | exact xal_b rfl | (apply And.intro) | decide)) ?_
                             try dsimp only [xsto1, xsto2, xkill, xget, xset, gd_0, gd_s]
                             try simp (disch := omega) only [gI_self, g_ne, hn, nI_1]
                             try rw [hA0]
                             try rw [hA1]
                             try rw [hA2]
                             try rw [hA3]
                             try rw [hA4]
                             refine r2_z rfl rfl (by first | decide | assumption) ?_
                             first
                               | exact Or.inl ⟨⟨hlt, by first | exact i_nlt2 h39 | exact h39, by rw [hcb]; first | exact Int32.not_le.mp h46 | exact h46, by first | exact i_nlt2 h54 | exact h54, by first | exact i_nlt2 h61 | exact h61, by first | exact i_nlt2 h69 | exact h69, by first | exact i_nlt2 h77 | exact h77, by first | exact i_nlt2 h84 | exact h84, by first | exact i_nlt2 h92 | exact h92⟩, rfl, rfl⟩
                               | (refine Or.inr ⟨?_, rfl, rfl⟩
                                  rintro ⟨y1, y2, y3, y4, y5, y6, y7, y8, y9⟩
                                  rw [hcb] at y3
                                  first
                                    | exact hlt y1
                                    | exact i_nlt y2 h39
                                    | exact i_nlt h46 y3
                                    | exact i_nlt y4 h54
                                    | exact i_nlt y5 h61
                                    | exact i_nlt y6 h69
                                    | exact i_nlt y7 h77
                                    | exact i_nlt y8 h84
                                    | exact h92 y9
                                    | exact i_nlt y9 h92))
                      · first
                          | (exfalso; first | exact absurd h102 (by decide) | exact h102 (by decide))
                          | (refine xG_run 1 rfl (by repeat' (first | exact trivial | assumption | exact xob_b rfl | exact xal_b rfl | (apply And.intro) | decide)) ?_
                             try dsimp only [xsto1, xsto2, xkill, xget, xset, gd_0, gd_s]
                             try simp (disch := omega) only [gI_self, g_ne, hn, nI_1]
                             try rw [hA0]
                             try rw [hA1]
                             try rw [hA2]
                             try rw [hA3]
                             try rw [hA4]
                             refine r2_z rfl rfl (by first | decide | assumption) ?_
                             first
                               | exact Or.inl ⟨⟨hlt, by first | exact i_nlt2 h39 | exact h39, by rw [hcb]; first | exact Int32.not_le.mp h46 | exact h46, by first | exact i_nlt2 h54 | exact h54, by first | exact i_nlt2 h61 | exact h61, by first | exact i_nlt2 h69 | exact h69, by first | exact i_nlt2 h77 | exact h77, by first | exact i_nlt2 h84 | exact h84, by first | exact i_nlt2 h92 | exact h92⟩, rfl, rfl⟩
                               | (refine Or.inr ⟨?_, rfl, rfl⟩
                                  rintro ⟨y1, y2, y3, y4, y5, y6, y7, y8, y9⟩
                                  rw [hcb] at y3
                                  first
                                    | exact hlt y1
                                    | exact i_nlt y2 h39
                                    | exact i_nlt h46 y3
                                    | exact i_nlt y4 h54
                                    | exact i_nlt y5 h61
                                    | exact i_nlt y6 h69
                                    | exact i_nlt y7 h77
                                    | exact i_nlt y8 h84
                                    | exact h92 y9
                                    | exact i_nlt y9 h92))
                    · refine xG_run 4 rfl (by repeat' (first | exact trivial | assumption | exact xob_b rfl | exact xal_b rfl | (apply And.intro) | decide)) ?_
                      try dsimp only [xsto1, xsto2, xkill, xget, xset, gd_0, gd_s]
                      try simp (disch := omega) only [gI_self, g_ne, hn, nI_1]
                      try rw [hA0]
                      try rw [hA1]
                      try rw [hA2]
                      try rw [hA3]
                      try rw [hA4]
                      refine xG_br rfl (fun h102 => ?_) (fun h102 => ?_)
                      · first
                          | (exfalso; first | exact absurd h102 (by decide) | exact h102 (by decide))
                          | (refine xG_run 4 rfl (by repeat' (first | exact trivial | assumption | exact xob_b rfl | exact xal_b rfl | (apply And.intro) | decide)) ?_
                             try dsimp only [xsto1, xsto2, xkill, xget, xset, gd_0, gd_s]
                             try simp (disch := omega) only [gI_self, g_ne, hn, nI_1]
                             try rw [hA0]
                             try rw [hA1]
                             try rw [hA2]
                             try rw [hA3]
                             try rw [hA4]
                             try simp (disch := omega) only [gI_self, g_ne, hn, nI_1]
                             refine xG_run 1 rfl (by repeat' (first | exact trivial | assumption | exact xob_b rfl | exact xal_b rfl | (apply And.intro) | decide)) ?_
                             try dsimp only [xsto1, xsto2, xkill, xget, xset, gd_0, gd_s]
                             try simp (disch := omega) only [gI_self, g_ne, hn, nI_1]
                             try rw [hA0]
                             try rw [hA1]
                             try rw [hA2]
                             try rw [hA3]
                             try rw [hA4]
                             rw [hj0]
                             refine xG_run 8 rfl (by repeat' (first | exact trivial | assumption | exact xob_b rfl | exact xal_b rfl | (apply And.intro) | decide)) ?_
                             try dsimp only [xsto1, xsto2, xkill, xget, xset, gd_0, gd_s]
                             try simp (disch := omega) only [gI_self, g_ne, hn, nI_1]
                             try rw [hA0]
                             try rw [hA1]
                             try rw [hA2]
                             try rw [hA3]
                             try rw [hA4]
                             refine xG_run 8 rfl (by repeat' (first | exact trivial | assumption | exact xob_b rfl | exact xal_b rfl | (apply And.intro) | decide)) ?_
                             try dsimp only [xsto1, xsto2, xkill, xget, xset, gd_0, gd_s]
                             try simp (disch := omega) only [gI_self, g_ne, hn, nI_1]
                             try rw [hA0]
                             try rw [hA1]
                             try rw [hA2]
                             try rw [hA3]
                             try rw [hA4]
                             refine xG_run 8 rfl (by repeat' (first | exact trivial | assumption | exact xob_b rfl | exact xal_b rfl | (apply And.intro) | decide)) ?_
                             try dsimp only [xsto1, xsto2, xkill, xget, xset, gd_0, gd_s]
                             try simp (disch := omega) only [gI_self, g_ne, hn, nI_1]
                             try rw [hA0]
                             try rw [hA1]
                             try rw [hA2]
                             try rw [hA3]
                             try rw [hA4]
                             refine xG_run 8 rfl (by repeat' (first | exact trivial | assumption | exact xob_b rfl | exact xal_b rfl | (apply And.intro) | decide)) ?_
                             try dsimp only [xsto1, xsto2, xkill, xget, xset, gd_0, gd_s]
                             try simp (disch := omega) only [gI_self, g_ne, hn, nI_1]
                             try rw [hA0]
                             try rw [hA1]
                             try rw [hA2]
                             try rw [hA3]
                             try rw [hA4]
                             refine xG_run 8 rfl (by repeat' (first | exact trivial | assumption | exact xob_b rfl | exact xal_b rfl | (apply And.intro) | decide)) ?_
                             try dsimp only [xsto1, xsto2, xkill, xget, xset, gd_0, gd_s]
                             try simp (disch := omega) only [gI_self, g_ne, hn, nI_1]
                             try rw [hA0]
                             try rw [hA1]
                             try rw [hA2]
                             try rw [hA3]
                             try rw [hA4]
                             refine xG_run 3 rfl (by repeat' (first | exact trivial | assumption | exact xob_b rfl | exact xal_b rfl | (apply And.intro) | decide)) ?_
                             try dsimp only [xsto1, xsto2, xkill, xget, xset, gd_0, gd_s]
                             try simp (disch := omega) only [gI_self, g_ne, hn, nI_1]
                             try rw [hA0]
                             try rw [hA1]
                             try rw [hA2]
                             try rw [hA3]
                             try rw [hA4]
                             refine r2_z rfl rfl (by first | decide | assumption) ?_
                             first
                               | exact Or.inl ⟨⟨hlt, by first | exact i_nlt2 h39 | exact h39, by rw [hcb]; first | exact Int32.not_le.mp h46 | exact h46, by first | exact i_nlt2 h54 | exact h54, by first | exact i_nlt2 h61 | exact h61, by first | exact i_nlt2 h69 | exact h69, by first | exact i_nlt2 h77 | exact h77, by first | exact i_nlt2 h84 | exact h84, by first | exact i_nlt2 h92 | exact h92⟩, rfl, rfl⟩
                               | (refine Or.inr ⟨?_, rfl, rfl⟩
                                  rintro ⟨y1, y2, y3, y4, y5, y6, y7, y8, y9⟩
                                  rw [hcb] at y3
                                  first
                                    | exact hlt y1
                                    | exact i_nlt y2 h39
                                    | exact i_nlt h46 y3
                                    | exact i_nlt y4 h54
                                    | exact i_nlt y5 h61
                                    | exact i_nlt y6 h69
                                    | exact i_nlt y7 h77
                                    | exact i_nlt y8 h84
                                    | exact h92 y9
                                    | exact i_nlt y9 h92))
                      · first
                          | (exfalso; first | exact absurd h102 (by decide) | exact h102 (by decide))
                          | (refine xG_run 1 rfl (by repeat' (first | exact trivial | assumption | exact xob_b rfl | exact xal_b rfl | (apply And.intro) | decide)) ?_
                             try dsimp only [xsto1, xsto2, xkill, xget, xset, gd_0, gd_s]
                             try simp (disch := omega) only [gI_self, g_ne, hn, nI_1]
                             try rw [hA0]
                             try rw [hA1]
                             try rw [hA2]
                             try rw [hA3]
                             try rw [hA4]
                             refine r2_z rfl rfl (by first | decide | assumption) ?_
                             first
                               | exact Or.inl ⟨⟨hlt, by first | exact i_nlt2 h39 | exact h39, by rw [hcb]; first | exact Int32.not_le.mp h46 | exact h46, by first | exact i_nlt2 h54 | exact h54, by first | exact i_nlt2 h61 | exact h61, by first | exact i_nlt2 h69 | exact h69, by first | exact i_nlt2 h77 | exact h77, by first | exact i_nlt2 h84 | exact h84, by first | exact i_nlt2 h92 | exact h92⟩, rfl, rfl⟩
                               | (refine Or.inr ⟨?_, rfl, rfl⟩
                                  rintro ⟨y1, y2, y3, y4, y5, y6, y7, y8, y9⟩
                                  rw [hcb] at y3
                                  first
                                    | exact hlt y1
                                    | exact i_nlt y2 h39
                                    | exact i_nlt h46 y3
                                    | exact i_nlt y4 h54
                                    | exact i_nlt y5 h61
                                    | exact i_nlt y6 h69
                                    | exact i_nlt y7 h77
                                    | exact i_nlt y8 h84
                                    | exact h92 y9
                                    | exact i_nlt y9 h92))
theorem cr_0 {x y : Int32} (hx : nr3 1 99 x) (hy : nr3 1 99 y) : ¬ x + y = 0 := fun q => by
  have e := congrArg Int32.toInt q
  have h1 := hx.1
  have h2 := hx.2
  have h3 := hy.1
  have h4 := hy.2
  rw [fb_addI (by omega) (by omega), Int32.toInt_zero] at e
  omega
set_option maxRecDepth 4000 in
theorem e_addRope {κ : xKK} {d : Nat} {M : xM} {np nr : Nat} {a : Nat → Int32} {sd : Int32} (hn : gI M 1 1 = nI np) (hn2 : np ≤ 10) (hr : gI M 1 3 = nI nr) (hr2 : nr ≤ 12) (hA : ∀ k, k < 4 → gI M 129 k = a k) (hh : ∀ h, h < np → nr3 1 99 (gI M (6 + h) 2)) (hd : 1 ≤ d) : xE2 κ mX1_addRope d [.ref 1, .ref 129, .int sd] M (fun v M' => (∃ h, h < np ∧ a 0 = nI h ∧ rpA np nr a ∧ v = some (.int 1) ∧ M' = crpM M nr h a sd) ∨ (¬ rpA np nr a ∧ v = some (.int 0) ∧ M' = M)) := by
  refine xE2_of ci_X1_addRope cl_X1_addRope cw_X1_addRope rfl (L := [some (.ref 1), some (.ref 129), some (.int sd), none, none, none]) rfl ?_
  have hA0 : gI M 129 (0 : Int32).toNatClampNeg = a 0 := hA 0 (by omega)
  have hs0 : xar 129 0 182 0 := xar_n (j := 0) rfl 5 rfl (by omega) (by omega)
  have hA1 : gI M 129 (1 : Int32).toNatClampNeg = a 1 := hA 1 (by omega)
  have hs1 : xar 129 0 182 1 := xar_n (j := 1) rfl 5 rfl (by omega) (by omega)
  have hA2 : gI M 129 (2 : Int32).toNatClampNeg = a 2 := hA 2 (by omega)
  have hs2 : xar 129 0 182 2 := xar_n (j := 2) rfl 5 rfl (by omega) (by omega)
  have hA3 : gI M 129 (3 : Int32).toNatClampNeg = a 3 := hA 3 (by omega)
  have hs3 : xar 129 0 182 3 := xar_n (j := 3) rfl 5 rfl (by omega) (by omega)
  refine xG_run 4 rfl (by repeat' (first | exact trivial | assumption | exact xob_b rfl | exact xal_b rfl | (apply And.intro) | decide)) ?_
  try dsimp only [xsto1, xsto2, xkill, xget, xset, gd_0, gd_s]
  try simp (disch := omega) only [gI_self, g_ne, hr, nI_1]
  try rw [hA0]
  try rw [hA1]
  try rw [hA2]
  try rw [hA3]
  refine xG_c2 1 rfl (by repeat' (first | exact trivial | assumption | exact xob_b rfl | exact xal_b rfl | (apply And.intro) | decide)) rfl rfl (by decide) cw_X1_pieceAt (d' := d - 1) (e_pieceAt hn hn2) (by omega) ?_
  rintro v M' ⟨hv, hM⟩
  subst M'
  rcases hv with ⟨rfl, hnp⟩ | ⟨p, hp, hip, rfl⟩
  · dsimp only [Option.toList, List.cons_append, List.nil_append]
    refine xG_run 6 rfl (by repeat' (first | exact trivial | assumption | exact xob_b rfl | exact xal_b rfl | (apply And.intro) | decide)) ?_
    try dsimp only [xsto1, xsto2, xkill, xget, xset, gd_0, gd_s]
    try simp (disch := omega) only [gI_self, g_ne, hr, nI_1]
    try rw [hA0]
    try rw [hA1]
    try rw [hA2]
    try rw [hA3]
    refine xG_br rfl (fun h60 => ?_) (fun h60 => ?_)
    · first
        | (exfalso; first | exact absurd h60 (by decide) | exact h60 (by decide))
        | (have hne := cr_0 (hh p hp) (show nr3 1 99 (a 1) from ⟨by have := i_nlt2 h25; rw [Int32.le_iff_toInt_le] at this; exact this, by have := i_nlt2 h33; rw [Int32.le_iff_toInt_le] at this; exact this⟩)
           refine xG_run 4 rfl (by repeat' (first | exact trivial | assumption | exact xob_b rfl | exact xal_b rfl | (apply And.intro) | decide)) ?_
           try dsimp only [xsto1, xsto2, xkill, xget, xset, gd_0, gd_s]
           try simp (disch := omega) only [gI_self, g_ne, hr, nI_1]
           try rw [hA0]
           try rw [hA1]
           try rw [hA2]
           try rw [hA3]
           try simp (disch := omega) only [hr, g_ne]
           refine xG_run 1 rfl (by repeat' (first | exact trivial | assumption | exact xob_b rfl | exact xal_b rfl | (apply And.intro) | decide)) ?_
           try dsimp only [xsto1, xsto2, xkill, xget, xset, gd_0, gd_s]
           try simp (disch := omega) only [gI_self, g_ne, hr, nI_1]
           try rw [hA0]
           try rw [hA1]
           try rw [hA2]
           try rw [hA3]
           rw [hj0]
           refine xG_run 8 rfl (by repeat' (first | exact trivial | assumption | exact xob_b rfl | exact xal_b rfl | (apply And.intro) | decide)) ?_
           try dsimp only [xsto1, xsto2, xkill, xget, xset, gd_0, gd_s]
           try simp (disch := omega) only [gI_self, g_ne, hr, nI_1]
           try rw [hA0]
           try rw [hA1]
           try rw [hA2]
           try rw [hA3]
           refine xG_run 8 rfl (by repeat' (first | exact trivial | assumption | exact xob_b rfl | exact xal_b rfl | (apply And.intro) | decide)) ?_
           try dsimp only [xsto1, xsto2, xkill, xget, xset, gd_0, gd_s]
           try simp (disch := omega) only [gI_self, g_ne, hr, nI_1]
           try rw [hA0]
           try rw [hA1]
           try rw [hA2]
           try rw [hA3]
           refine xG_run 8 rfl (by repeat' (first | exact trivial | assumption | exact xob_b rfl | exact xal_b rfl | (apply And.intro) | decide)) ?_
           try dsimp only [xsto1, xsto2, xkill, xget, xset, gd_0, gd_s]
           try simp (disch := omega) only [gI_self, g_ne, hr, nI_1]
           try rw [hA0]
           try rw [hA1]
           try rw [hA2]
           try rw [hA3]
           refine xG_run 8 rfl (by repeat' (first | exact trivial | assumption | exact xob_b rfl | exact xal_b rfl | (apply And.intro) | decide)) ?_
           try dsimp only [xsto1, xsto2, xkill, xget, xset, gd_0, gd_s]
           try simp (disch := omega) only [gI_self, g_ne, hr, nI_1]
           try rw [hA0]
           try rw [hA1]
           try rw [hA2]
           try rw [hA3]
           refine xG_run 6 rfl (by repeat' (first | exact trivial | assumption | exact xob_b rfl | exact xal_b rfl | (apply And.intro) | decide)) ?_
           try dsimp only [xsto1, xsto2, xkill, xget, xset, gd_0, gd_s]
           try simp (disch := omega) only [gI_self, g_ne, hr, nI_1]
           try rw [hA0]
           try rw [hA1]
           try rw [hA2]
           try rw [hA3]
           try simp (disch := omega) only [gI_self, g_ne, hr, nI_1]
           try rw [hA0]
           try rw [hA1]
           try rw [hA2]
           try rw [hA3]
           refine xG_run 8 rfl (by repeat' (first | exact trivial | assumption | exact xob_b rfl | exact xal_b rfl | (apply And.intro) | decide)) ?_
           try dsimp only [xsto1, xsto2, xkill, xget, xset, gd_0, gd_s]
           try simp (disch := omega) only [gI_self, g_ne, hr, nI_1]
           try rw [hA0]
           try rw [hA1]
           try rw [hA2]
           try rw [hA3]
           refine xG_run 3 rfl (by repeat' (first | exact trivial | assumption | exact xob_b rfl | exact xal_b rfl | (apply And.intro) | decide)) ?_
           try dsimp only [xsto1, xsto2, xkill, xget, xset, gd_0, gd_s]
           try simp (disch := omega) only [gI_self, g_ne, hr, nI_1]
           try rw [hA0]
           try rw [hA1]
           try rw [hA2]
           try rw [hA3]
           refine r2_z rfl rfl (by first | decide | assumption) ?_
           first
             | exact Or.inl ⟨p, hp, hip, ⟨by rw [hip]; exact inI hp (by omega), hlt, by first | exact i_nlt2 h25 | exact h25, by first | exact i_nlt2 h33 | exact h33, by first | exact i_nlt2 h40 | exact h40, by first | exact i_nlt2 h48 | exact h48⟩, rfl, rfl⟩
             | (refine Or.inr ⟨?_, rfl, rfl⟩
                rintro ⟨y1, y2, y3, y4, y5, y6⟩
                first
                  | exact hnp y1
                  | exact hlt y2
                  | exact i_nlt y3 h25
                  | exact i_nlt y4 h33
                  | exact i_nlt y5 h40
                  | exact h48 y6
                  | exact i_nlt y6 h48))
    · first
        | (exfalso; first | exact absurd h60 (by decide) | exact h60 (by decide))
        | (refine xG_run 1 rfl (by repeat' (first | exact trivial | assumption | exact xob_b rfl | exact xal_b rfl | (apply And.intro) | decide)) ?_
           try dsimp only [xsto1, xsto2, xkill, xget, xset, gd_0, gd_s]
           try simp (disch := omega) only [gI_self, g_ne, hr, nI_1]
           try rw [hA0]
           try rw [hA1]
           try rw [hA2]
           try rw [hA3]
           refine r2_z rfl rfl (by first | decide | assumption) ?_
           first
             | exact Or.inl ⟨p, hp, hip, ⟨by rw [hip]; exact inI hp (by omega), hlt, by first | exact i_nlt2 h25 | exact h25, by first | exact i_nlt2 h33 | exact h33, by first | exact i_nlt2 h40 | exact h40, by first | exact i_nlt2 h48 | exact h48⟩, rfl, rfl⟩
             | (refine Or.inr ⟨?_, rfl, rfl⟩
                rintro ⟨y1, y2, y3, y4, y5, y6⟩
                first
                  | exact hnp y1
                  | exact hlt y2
                  | exact i_nlt y3 h25
                  | exact i_nlt y4 h33
                  | exact i_nlt y5 h40
                  | exact h48 y6
                  | exact i_nlt y6 h48))
  · dsimp only [Option.toList, List.cons_append, List.nil_append]
    have hxp : xob (6 + p) 3 182 := xob_p1 (by omega)
    refine xG_run 6 rfl (by repeat' (first | exact trivial | assumption | exact xob_b rfl | exact xal_b rfl | (apply And.intro) | decide)) ?_
    try dsimp only [xsto1, xsto2, xkill, xget, xset, gd_0, gd_s]
    try simp (disch := omega) only [gI_self, g_ne, hr, nI_1]
    try rw [hA0]
    try rw [hA1]
    try rw [hA2]
    try rw [hA3]
    refine xG_br rfl (fun h18 => ?_) (fun h18 => ?_)
    · have hlt : ¬ nr < 12 := by intro q; exact nI_nlt9 q (by omega) h18
      refine xG_run 3 rfl (by repeat' (first | exact trivial | assumption | exact xob_b rfl | exact xal_b rfl | (apply And.intro) | decide)) ?_
      try dsimp only [xsto1, xsto2, xkill, xget, xset, gd_0, gd_s]
      try simp (disch := omega) only [gI_self, g_ne, hr, nI_1]
      try rw [hA0]
      try rw [hA1]
      try rw [hA2]
      try rw [hA3]
      refine xG_br rfl (fun h60 => ?_) (fun h60 => ?_)
      · first
          | (exfalso; first | exact absurd h60 (by decide) | exact h60 (by decide))
          | (have hne := cr_0 (hh p hp) (show nr3 1 99 (a 1) from ⟨by have := i_nlt2 h25; rw [Int32.le_iff_toInt_le] at this; exact this, by have := i_nlt2 h33; rw [Int32.le_iff_toInt_le] at this; exact this⟩)
             refine xG_run 4 rfl (by repeat' (first | exact trivial | assumption | exact xob_b rfl | exact xal_b rfl | (apply And.intro) | decide)) ?_
             try dsimp only [xsto1, xsto2, xkill, xget, xset, gd_0, gd_s]
             try simp (disch := omega) only [gI_self, g_ne, hr, nI_1]
             try rw [hA0]
             try rw [hA1]
             try rw [hA2]
             try rw [hA3]
             try simp (disch := omega) only [hr, g_ne]
             refine xG_run 1 rfl (by repeat' (first | exact trivial | assumption | exact xob_b rfl | exact xal_b rfl | (apply And.intro) | decide)) ?_
             try dsimp only [xsto1, xsto2, xkill, xget, xset, gd_0, gd_s]
             try simp (disch := omega) only [gI_self, g_ne, hr, nI_1]
             try rw [hA0]
             try rw [hA1]
             try rw [hA2]
             try rw [hA3]
             rw [hj0]
             refine xG_run 8 rfl (by repeat' (first | exact trivial | assumption | exact xob_b rfl | exact xal_b rfl | (apply And.intro) | decide)) ?_
             try dsimp only [xsto1, xsto2, xkill, xget, xset, gd_0, gd_s]
             try simp (disch := omega) only [gI_self, g_ne, hr, nI_1]
             try rw [hA0]
             try rw [hA1]
             try rw [hA2]
             try rw [hA3]
             refine xG_run 8 rfl (by repeat' (first | exact trivial | assumption | exact xob_b rfl | exact xal_b rfl | (apply And.intro) | decide)) ?_
             try dsimp only [xsto1, xsto2, xkill, xget, xset, gd_0, gd_s]
             try simp (disch := omega) only [gI_self, g_ne, hr, nI_1]
             try rw [hA0]
             try rw [hA1]
             try rw [hA2]
             try rw [hA3]
             refine xG_run 8 rfl (by repeat' (first | exact trivial | assumption | exact xob_b rfl | exact xal_b rfl | (apply And.intro) | decide)) ?_
             try dsimp only [xsto1, xsto2, xkill, xget, xset, gd_0, gd_s]
             try simp (disch := omega) only [gI_self, g_ne, hr, nI_1]
             try rw [hA0]
             try rw [hA1]
             try rw [hA2]
             try rw [hA3]
             refine xG_run 8 rfl (by repeat' (first | exact trivial | assumption | exact xob_b rfl | exact xal_b rfl | (apply And.intro) | decide)) ?_
             try dsimp only [xsto1, xsto2, xkill, xget, xset, gd_0, gd_s]
             try simp (disch := omega) only [gI_self, g_ne, hr, nI_1]
             try rw [hA0]
             try rw [hA1]
             try rw [hA2]
             try rw [hA3]
             refine xG_run 6 rfl (by repeat' (first | exact trivial | assumption | exact xob_b rfl | exact xal_b rfl | (apply And.intro) | decide)) ?_
             try dsimp only [xsto1, xsto2, xkill, xget, xset, gd_0, gd_s]
             try simp (disch := omega) only [gI_self, g_ne, hr, nI_1]
             try rw [hA0]
             try rw [hA1]
             try rw [hA2]
             try rw [hA3]
             try simp (disch := omega) only [gI_self, g_ne, hr, nI_1]
             try rw [hA0]
             try rw [hA1]
             try rw [hA2]
             try rw [hA3]
             refine xG_run 8 rfl (by repeat' (first | exact trivial | assumption | exact xob_b rfl | exact xal_b rfl | (apply And.intro) | decide)) ?_
             try dsimp only [xsto1, xsto2, xkill, xget, xset, gd_0, gd_s]
             try simp (disch := omega) only [gI_self, g_ne, hr, nI_1]
             try rw [hA0]
             try rw [hA1]
             try rw [hA2]
             try rw [hA3]
             refine xG_run 3 rfl (by repeat' (first | exact trivial | assumption | exact xob_b rfl | exact xal_b rfl | (apply And.intro) | decide)) ?_
             try dsimp only [xsto1, xsto2, xkill, xget, xset, gd_0, gd_s]
             try simp (disch := omega) only [gI_self, g_ne, hr, nI_1]
             try rw [hA0]
             try rw [hA1]
             try rw [hA2]
             try rw [hA3]
             refine r2_z rfl rfl (by first | decide | assumption) ?_
             first
               | exact Or.inl ⟨p, hp, hip, ⟨by rw [hip]; exact inI hp (by omega), hlt, by first | exact i_nlt2 h25 | exact h25, by first | exact i_nlt2 h33 | exact h33, by first | exact i_nlt2 h40 | exact h40, by first | exact i_nlt2 h48 | exact h48⟩, rfl, rfl⟩
               | (refine Or.inr ⟨?_, rfl, rfl⟩
                  rintro ⟨y1, y2, y3, y4, y5, y6⟩
                  first
                    | exact hnp y1
                    | exact hlt y2
                    | exact i_nlt y3 h25
                    | exact i_nlt y4 h33
                    | exact i_nlt y5 h40
                    | exact h48 y6
                    | exact i_nlt y6 h48))
      · first
          | (exfalso; first | exact absurd h60 (by decide) | exact h60 (by decide))
          | (refine xG_run 1 rfl (by repeat' (first | exact trivial | assumption | exact xob_b rfl | exact xal_b rfl | (apply And.intro) | decide)) ?_
             try dsimp only [xsto1, xsto2, xkill, xget, xset, gd_0, gd_s]
             try simp (disch := omega) only [gI_self, g_ne, hr, nI_1]
             try rw [hA0]
             try rw [hA1]
             try rw [hA2]
             try rw [hA3]
             refine r2_z rfl rfl (by first | decide | assumption) ?_
             first
               | exact Or.inl ⟨p, hp, hip, ⟨by rw [hip]; exact inI hp (by omega), hlt, by first | exact i_nlt2 h25 | exact h25, by first | exact i_nlt2 h33 | exact h33, by first | exact i_nlt2 h40 | exact h40, by first | exact i_nlt2 h48 | exact h48⟩, rfl, rfl⟩
               | (refine Or.inr ⟨?_, rfl, rfl⟩
                  rintro ⟨y1, y2, y3, y4, y5, y6⟩
                  first
                    | exact hnp y1
                    | exact hlt y2
                    | exact i_nlt y3 h25
                    | exact i_nlt y4 h33
                    | exact i_nlt y5 h40
                    | exact h48 y6
                    | exact i_nlt y6 h48))
    · have hlt : nr < 12 := nI_lt9 (by omega) (by omega) h18
      have hj0 : (nI nr).toNatClampNeg = nr := nI_cl (by omega)
      have hqa : xqr 3 182 (nI nr) := xqr_n rfl 12 rfl (by omega) (by omega)
      have hxa : xob (16 + nr) 5 182 := xob_r1 (by omega)
      refine xG_run 4 rfl (by repeat' (first | exact trivial | assumption | exact xob_b rfl | exact xal_b rfl | (apply And.intro) | decide)) ?_
      try dsimp only [xsto1, xsto2, xkill, xget, xset, gd_0, gd_s]
      try simp (disch := omega) only [gI_self, g_ne, hr, nI_1]
      try rw [hA0]
      try rw [hA1]
      try rw [hA2]
      try rw [hA3]
      refine xG_br rfl (fun h25 => ?_) (fun h25 => ?_)
      · refine xG_run 3 rfl (by repeat' (first | exact trivial | assumption | exact xob_b rfl | exact xal_b rfl | (apply And.intro) | decide)) ?_
        try dsimp only [xsto1, xsto2, xkill, xget, xset, gd_0, gd_s]
        try simp (disch := omega) only [gI_self, g_ne, hr, nI_1]
        try rw [hA0]
        try rw [hA1]
        try rw [hA2]
        try rw [hA3]
        refine xG_br rfl (fun h60 => ?_) (fun h60 => ?_)
        · first
            | (exfalso; first | exact absurd h60 (by decide) | exact h60 (by decide))
            | (have hne := cr_0 (hh p hp) (show nr3 1 99 (a 1) from ⟨by have := i_nlt2 h25; rw [Int32.le_iff_toInt_le] at this; exact this, by have := i_nlt2 h33; rw [Int32.le_iff_toInt_le] at this; exact this⟩)
               refine xG_run 4 rfl (by repeat' (first | exact trivial | assumption | exact xob_b rfl | exact xal_b rfl | (apply And.intro) | decide)) ?_
               try dsimp only [xsto1, xsto2, xkill, xget, xset, gd_0, gd_s]
               try simp (disch := omega) only [gI_self, g_ne, hr, nI_1]
               try rw [hA0]
               try rw [hA1]
               try rw [hA2]
               try rw [hA3]
               try simp (disch := omega) only [hr, g_ne]
               refine xG_run 1 rfl (by repeat' (first | exact trivial | assumption | exact xob_b rfl | exact xal_b rfl | (apply And.intro) | decide)) ?_
               try dsimp only [xsto1, xsto2, xkill, xget, xset, gd_0, gd_s]
               try simp (disch := omega) only [gI_self, g_ne, hr, nI_1]
               try rw [hA0]
               try rw [hA1]
               try rw [hA2]
               try rw [hA3]
               rw [hj0]
               refine xG_run 8 rfl (by repeat' (first | exact trivial | assumption | exact xob_b rfl | exact xal_b rfl | (apply And.intro) | decide)) ?_
               try dsimp only [xsto1, xsto2, xkill, xget, xset, gd_0, gd_s]
               try simp (disch := omega) only [gI_self, g_ne, hr, nI_1]
               try rw [hA0]
               try rw [hA1]
               try rw [hA2]
               try rw [hA3]
               refine xG_run 8 rfl (by repeat' (first | exact trivial | assumption | exact xob_b rfl | exact xal_b rfl | (apply And.intro) | decide)) ?_
               try dsimp only [xsto1, xsto2, xkill, xget, xset, gd_0, gd_s]
               try simp (disch := omega) only [gI_self, g_ne, hr, nI_1]
               try rw [hA0]
               try rw [hA1]
               try rw [hA2]
               try rw [hA3]
               refine xG_run 8 rfl (by repeat' (first | exact trivial | assumption | exact xob_b rfl | exact xal_b rfl | (apply And.intro) | decide)) ?_
               try dsimp only [xsto1, xsto2, xkill, xget, xset, gd_0, gd_s]
               try simp (disch := omega) only [gI_self, g_ne, hr, nI_1]
               try rw [hA0]
               try rw [hA1]
               try rw [hA2]
               try rw [hA3]
               refine xG_run 8 rfl (by repeat' (first | exact trivial | assumption | exact xob_b rfl | exact xal_b rfl | (apply And.intro) | decide)) ?_
               try dsimp only [xsto1, xsto2, xkill, xget, xset, gd_0, gd_s]
               try simp (disch := omega) only [gI_self, g_ne, hr, nI_1]
               try rw [hA0]
               try rw [hA1]
               try rw [hA2]
               try rw [hA3]
               refine xG_run 6 rfl (by repeat' (first | exact trivial | assumption | exact xob_b rfl | exact xal_b rfl | (apply And.intro) | decide)) ?_
               try dsimp only [xsto1, xsto2, xkill, xget, xset, gd_0, gd_s]
               try simp (disch := omega) only [gI_self, g_ne, hr, nI_1]
               try rw [hA0]
               try rw [hA1]
               try rw [hA2]
               try rw [hA3]
               try simp (disch := omega) only [gI_self, g_ne, hr, nI_1]
               try rw [hA0]
               try rw [hA1]
               try rw [hA2]
               try rw [hA3]
               refine xG_run 8 rfl (by repeat' (first | exact trivial | assumption | exact xob_b rfl | exact xal_b rfl | (apply And.intro) | decide)) ?_
               try dsimp only [xsto1, xsto2, xkill, xget, xset, gd_0, gd_s]
               try simp (disch := omega) only [gI_self, g_ne, hr, nI_1]
               try rw [hA0]
               try rw [hA1]
               try rw [hA2]
               try rw [hA3]
               refine xG_run 3 rfl (by repeat' (first | exact trivial | assumption | exact xob_b rfl | exact xal_b rfl | (apply And.intro) | decide)) ?_
               try dsimp only [xsto1, xsto2, xkill, xget, xset, gd_0, gd_s]
               try simp (disch := omega) only [gI_self, g_ne, hr, nI_1]
               try rw [hA0]
               try rw [hA1]
               try rw [hA2]
               try rw [hA3]
               refine r2_z rfl rfl (by first | decide | assumption) ?_
               first
                 | exact Or.inl ⟨p, hp, hip, ⟨by rw [hip]; exact inI hp (by omega), hlt, by first | exact i_nlt2 h25 | exact h25, by first | exact i_nlt2 h33 | exact h33, by first | exact i_nlt2 h40 | exact h40, by first | exact i_nlt2 h48 | exact h48⟩, rfl, rfl⟩
                 | (refine Or.inr ⟨?_, rfl, rfl⟩
                    rintro ⟨y1, y2, y3, y4, y5, y6⟩
                    first
                      | exact hnp y1
                      | exact hlt y2
                      | exact i_nlt y3 h25
                      | exact i_nlt y4 h33
                      | exact i_nlt y5 h40
                      | exact h48 y6
                      | exact i_nlt y6 h48))
        · first
            | (exfalso; first | exact absurd h60 (by decide) | exact h60 (by decide))
            | (refine xG_run 1 rfl (by repeat' (first | exact trivial | assumption | exact xob_b rfl | exact xal_b rfl | (apply And.intro) | decide)) ?_
               try dsimp only [xsto1, xsto2, xkill, xget, xset, gd_0, gd_s]
               try simp (disch := omega) only [gI_self, g_ne, hr, nI_1]
               try rw [hA0]
               try rw [hA1]
               try rw [hA2]
               try rw [hA3]
               refine r2_z rfl rfl (by first | decide | assumption) ?_
               first
                 | exact Or.inl ⟨p, hp, hip, ⟨by rw [hip]; exact inI hp (by omega), hlt, by first | exact i_nlt2 h25 | exact h25, by first | exact i_nlt2 h33 | exact h33, by first | exact i_nlt2 h40 | exact h40, by first | exact i_nlt2 h48 | exact h48⟩, rfl, rfl⟩
                 | (refine Or.inr ⟨?_, rfl, rfl⟩
                    rintro ⟨y1, y2, y3, y4, y5, y6⟩
                    first
                      | exact hnp y1
                      | exact hlt y2
                      | exact i_nlt y3 h25
                      | exact i_nlt y4 h33
                      | exact i_nlt y5 h40
                      | exact h48 y6
                      | exact i_nlt y6 h48))
      · refine xG_run 4 rfl (by repeat' (first | exact trivial | assumption | exact xob_b rfl | exact xal_b rfl | (apply And.intro) | decide)) ?_
        try dsimp only [xsto1, xsto2, xkill, xget, xset, gd_0, gd_s]
        try simp (disch := omega) only [gI_self, g_ne, hr, nI_1]
        try rw [hA0]
        try rw [hA1]
        try rw [hA2]
        try rw [hA3]
        refine xG_br rfl (fun h33 => ?_) (fun h33 => ?_)
        · refine xG_run 3 rfl (by repeat' (first | exact trivial | assumption | exact xob_b rfl | exact xal_b rfl | (apply And.intro) | decide)) ?_
          try dsimp only [xsto1, xsto2, xkill, xget, xset, gd_0, gd_s]
          try simp (disch := omega) only [gI_self, g_ne, hr, nI_1]
          try rw [hA0]
          try rw [hA1]
          try rw [hA2]
          try rw [hA3]
          refine xG_br rfl (fun h60 => ?_) (fun h60 => ?_)
          · first
              | (exfalso; first | exact absurd h60 (by decide) | exact h60 (by decide))
              | (have hne := cr_0 (hh p hp) (show nr3 1 99 (a 1) from ⟨by have := i_nlt2 h25; rw [Int32.le_iff_toInt_le] at this; exact this, by have := i_nlt2 h33; rw [Int32.le_iff_toInt_le] at this; exact this⟩)
                 refine xG_run 4 rfl (by repeat' (first | exact trivial | assumption | exact xob_b rfl | exact xal_b rfl | (apply And.intro) | decide)) ?_
                 try dsimp only [xsto1, xsto2, xkill, xget, xset, gd_0, gd_s]
                 try simp (disch := omega) only [gI_self, g_ne, hr, nI_1]
                 try rw [hA0]
                 try rw [hA1]
                 try rw [hA2]
                 try rw [hA3]
                 try simp (disch := omega) only [hr, g_ne]
                 refine xG_run 1 rfl (by repeat' (first | exact trivial | assumption | exact xob_b rfl | exact xal_b rfl | (apply And.intro) | decide)) ?_
                 try dsimp only [xsto1, xsto2, xkill, xget, xset, gd_0, gd_s]
                 try simp (disch := omega) only [gI_self, g_ne, hr, nI_1]
                 try rw [hA0]
                 try rw [hA1]
                 try rw [hA2]
                 try rw [hA3]
                 rw [hj0]
                 refine xG_run 8 rfl (by repeat' (first | exact trivial | assumption | exact xob_b rfl | exact xal_b rfl | (apply And.intro) | decide)) ?_
                 try dsimp only [xsto1, xsto2, xkill, xget, xset, gd_0, gd_s]
                 try simp (disch := omega) only [gI_self, g_ne, hr, nI_1]
                 try rw [hA0]
                 try rw [hA1]
                 try rw [hA2]
                 try rw [hA3]
                 refine xG_run 8 rfl (by repeat' (first | exact trivial | assumption | exact xob_b rfl | exact xal_b rfl | (apply And.intro) | decide)) ?_
                 try dsimp only [xsto1, xsto2, xkill, xget, xset, gd_0, gd_s]
                 try simp (disch := omega) only [gI_self, g_ne, hr, nI_1]
                 try rw [hA0]
                 try rw [hA1]
                 try rw [hA2]
                 try rw [hA3]
                 refine xG_run 8 rfl (by repeat' (first | exact trivial | assumption | exact xob_b rfl | exact xal_b rfl | (apply And.intro) | decide)) ?_
                 try dsimp only [xsto1, xsto2, xkill, xget, xset, gd_0, gd_s]
                 try simp (disch := omega) only [gI_self, g_ne, hr, nI_1]
                 try rw [hA0]
                 try rw [hA1]
                 try rw [hA2]
                 try rw [hA3]
                 refine xG_run 8 rfl (by repeat' (first | exact trivial | assumption | exact xob_b rfl | exact xal_b rfl | (apply And.intro) | decide)) ?_
                 try dsimp only [xsto1, xsto2, xkill, xget, xset, gd_0, gd_s]
                 try simp (disch := omega) only [gI_self, g_ne, hr, nI_1]
                 try rw [hA0]
                 try rw [hA1]
                 try rw [hA2]
                 try rw [hA3]
                 refine xG_run 6 rfl (by repeat' (first | exact trivial | assumption | exact xob_b rfl | exact xal_b rfl | (apply And.intro) | decide)) ?_
                 try dsimp only [xsto1, xsto2, xkill, xget, xset, gd_0, gd_s]
                 try simp (disch := omega) only [gI_self, g_ne, hr, nI_1]
                 try rw [hA0]
                 try rw [hA1]
                 try rw [hA2]
                 try rw [hA3]
                 try simp (disch := omega) only [gI_self, g_ne, hr, nI_1]
                 try rw [hA0]
                 try rw [hA1]
                 try rw [hA2]
                 try rw [hA3]
                 refine xG_run 8 rfl (by repeat' (first | exact trivial | assumption | exact xob_b rfl | exact xal_b rfl | (apply And.intro) | decide)) ?_
                 try dsimp only [xsto1, xsto2, xkill, xget, xset, gd_0, gd_s]
                 try simp (disch := omega) only [gI_self, g_ne, hr, nI_1]
                 try rw [hA0]
                 try rw [hA1]
                 try rw [hA2]
                 try rw [hA3]
                 refine xG_run 3 rfl (by repeat' (first | exact trivial | assumption | exact xob_b rfl | exact xal_b rfl | (apply And.intro) | decide)) ?_
                 try dsimp only [xsto1, xsto2, xkill, xget, xset, gd_0, gd_s]
                 try simp (disch := omega) only [gI_self, g_ne, hr, nI_1]
                 try rw [hA0]
                 try rw [hA1]
                 try rw [hA2]
                 try rw [hA3]
                 refine r2_z rfl rfl (by first | decide | assumption) ?_
                 first
                   | exact Or.inl ⟨p, hp, hip, ⟨by rw [hip]; exact inI hp (by omega), hlt, by first | exact i_nlt2 h25 | exact h25, by first | exact i_nlt2 h33 | exact h33, by first | exact i_nlt2 h40 | exact h40, by first | exact i_nlt2 h48 | exact h48⟩, rfl, rfl⟩
                   | (refine Or.inr ⟨?_, rfl, rfl⟩
                      rintro ⟨y1, y2, y3, y4, y5, y6⟩
                      first
                        | exact hnp y1
                        | exact hlt y2
                        | exact i_nlt y3 h25
                        | exact i_nlt y4 h33
                        | exact i_nlt y5 h40
                        | exact h48 y6
                        | exact i_nlt y6 h48))
          · first
              | (exfalso; first | exact absurd h60 (by decide) | exact h60 (by decide))
              | (refine xG_run 1 rfl (by repeat' (first | exact trivial | assumption | exact xob_b rfl | exact xal_b rfl | (apply And.intro) | decide)) ?_
                 try dsimp only [xsto1, xsto2, xkill, xget, xset, gd_0, gd_s]
                 try simp (disch := omega) only [gI_self, g_ne, hr, nI_1]
                 try rw [hA0]
                 try rw [hA1]
                 try rw [hA2]
                 try rw [hA3]
                 refine r2_z rfl rfl (by first | decide | assumption) ?_
                 first
                   | exact Or.inl ⟨p, hp, hip, ⟨by rw [hip]; exact inI hp (by omega), hlt, by first | exact i_nlt2 h25 | exact h25, by first | exact i_nlt2 h33 | exact h33, by first | exact i_nlt2 h40 | exact h40, by first | exact i_nlt2 h48 | exact h48⟩, rfl, rfl⟩
                   | (refine Or.inr ⟨?_, rfl, rfl⟩
                      rintro ⟨y1, y2, y3, y4, y5, y6⟩
                      first
                        | exact hnp y1
                        | exact hlt y2
                        | exact i_nlt y3 h25
                        | exact i_nlt y4 h33
                        | exact i_nlt y5 h40
                        | exact h48 y6
                        | exact i_nlt y6 h48))
        · refine xG_run 4 rfl (by repeat' (first | exact trivial | assumption | exact xob_b rfl | exact xal_b rfl | (apply And.intro) | decide)) ?_
          try dsimp only [xsto1, xsto2, xkill, xget, xset, gd_0, gd_s]
          try simp (disch := omega) only [gI_self, g_ne, hr, nI_1]
          try rw [hA0]
          try rw [hA1]
          try rw [hA2]
          try rw [hA3]
          refine xG_br rfl (fun h40 => ?_) (fun h40 => ?_)
          · refine xG_run 3 rfl (by repeat' (first | exact trivial | assumption | exact xob_b rfl | exact xal_b rfl | (apply And.intro) | decide)) ?_
            try dsimp only [xsto1, xsto2, xkill, xget, xset, gd_0, gd_s]
            try simp (disch := omega) only [gI_self, g_ne, hr, nI_1]
            try rw [hA0]
            try rw [hA1]
            try rw [hA2]
            try rw [hA3]
            refine xG_br rfl (fun h60 => ?_) (fun h60 => ?_)
            · first
                | (exfalso; first | exact absurd h60 (by decide) | exact h60 (by decide))
                | (have hne := cr_0 (hh p hp) (show nr3 1 99 (a 1) from ⟨by have := i_nlt2 h25; rw [Int32.le_iff_toInt_le] at this; exact this, by have := i_nlt2 h33; rw [Int32.le_iff_toInt_le] at this; exact this⟩)
                   refine xG_run 4 rfl (by repeat' (first | exact trivial | assumption | exact xob_b rfl | exact xal_b rfl | (apply And.intro) | decide)) ?_
                   try dsimp only [xsto1, xsto2, xkill, xget, xset, gd_0, gd_s]
                   try simp (disch := omega) only [gI_self, g_ne, hr, nI_1]
                   try rw [hA0]
                   try rw [hA1]
                   try rw [hA2]
                   try rw [hA3]
                   try simp (disch := omega) only [hr, g_ne]
                   refine xG_run 1 rfl (by repeat' (first | exact trivial | assumption | exact xob_b rfl | exact xal_b rfl | (apply And.intro) | decide)) ?_
                   try dsimp only [xsto1, xsto2, xkill, xget, xset, gd_0, gd_s]
                   try simp (disch := omega) only [gI_self, g_ne, hr, nI_1]
                   try rw [hA0]
                   try rw [hA1]
                   try rw [hA2]
                   try rw [hA3]
                   rw [hj0]
                   refine xG_run 8 rfl (by repeat' (first | exact trivial | assumption | exact xob_b rfl | exact xal_b rfl | (apply And.intro) | decide)) ?_
                   try dsimp only [xsto1, xsto2, xkill, xget, xset, gd_0, gd_s]
                   try simp (disch := omega) only [gI_self, g_ne, hr, nI_1]
                   try rw [hA0]
                   try rw [hA1]
                   try rw [hA2]
                   try rw [hA3]
                   refine xG_run 8 rfl (by repeat' (first | exact trivial | assumption | exact xob_b rfl | exact xal_b rfl | (apply And.intro) | decide)) ?_
                   try dsimp only [xsto1, xsto2, xkill, xget, xset, gd_0, gd_s]
                   try simp (disch := omega) only [gI_self, g_ne, hr, nI_1]
                   try rw [hA0]
                   try rw [hA1]
                   try rw [hA2]
                   try rw [hA3]
                   refine xG_run 8 rfl (by repeat' (first | exact trivial | assumption | exact xob_b rfl | exact xal_b rfl | (apply And.intro) | decide)) ?_
                   try dsimp only [xsto1, xsto2, xkill, xget, xset, gd_0, gd_s]
                   try simp (disch := omega) only [gI_self, g_ne, hr, nI_1]
                   try rw [hA0]
                   try rw [hA1]
                   try rw [hA2]
                   try rw [hA3]
                   refine xG_run 8 rfl (by repeat' (first | exact trivial | assumption | exact xob_b rfl | exact xal_b rfl | (apply And.intro) | decide)) ?_
                   try dsimp only [xsto1, xsto2, xkill, xget, xset, gd_0, gd_s]
                   try simp (disch := omega) only [gI_self, g_ne, hr, nI_1]
                   try rw [hA0]
                   try rw [hA1]
                   try rw [hA2]
                   try rw [hA3]
                   refine xG_run 6 rfl (by repeat' (first | exact trivial | assumption | exact xob_b rfl | exact xal_b rfl | (apply And.intro) | decide)) ?_
                   try dsimp only [xsto1, xsto2, xkill, xget, xset, gd_0, gd_s]
                   try simp (disch := omega) only [gI_self, g_ne, hr, nI_1]
                   try rw [hA0]
                   try rw [hA1]
                   try rw [hA2]
                   try rw [hA3]
                   try simp (disch := omega) only [gI_self, g_ne, hr, nI_1]
                   try rw [hA0]
                   try rw [hA1]
                   try rw [hA2]
                   try rw [hA3]
                   refine xG_run 8 rfl (by repeat' (first | exact trivial | assumption | exact xob_b rfl | exact xal_b rfl | (apply And.intro) | decide)) ?_
                   try dsimp only [xsto1, xsto2, xkill, xget, xset, gd_0, gd_s]
                   try simp (disch := omega) only [gI_self, g_ne, hr, nI_1]
                   try rw [hA0]
                   try rw [hA1]
                   try rw [hA2]
                   try rw [hA3]
                   refine xG_run 3 rfl (by repeat' (first | exact trivial | assumption | exact xob_b rfl | exact xal_b rfl | (apply And.intro) | decide)) ?_
                   try dsimp only [xsto1, xsto2, xkill, xget, xset, gd_0, gd_s]
                   try simp (disch := omega) only [gI_self, g_ne, hr, nI_1]
                   try rw [hA0]
                   try rw [hA1]
                   try rw [hA2]
                   try rw [hA3]
                   refine r2_z rfl rfl (by first | decide | assumption) ?_
                   first
                     | exact Or.inl ⟨p, hp, hip, ⟨by rw [hip]; exact inI hp (by omega), hlt, by first | exact i_nlt2 h25 | exact h25, by first | exact i_nlt2 h33 | exact h33, by first | exact i_nlt2 h40 | exact h40, by first | exact i_nlt2 h48 | exact h48⟩, rfl, rfl⟩
                     | (refine Or.inr ⟨?_, rfl, rfl⟩
                        rintro ⟨y1, y2, y3, y4, y5, y6⟩
                        first
                          | exact hnp y1
                          | exact hlt y2
                          | exact i_nlt y3 h25
                          | exact i_nlt y4 h33
                          | exact i_nlt y5 h40
                          | exact h48 y6
                          | exact i_nlt y6 h48))
            · first
                | (exfalso; first | exact absurd h60 (by decide) | exact h60 (by decide))
                | (refine xG_run 1 rfl (by repeat' (first | exact trivial | assumption | exact xob_b rfl | exact xal_b rfl | (apply And.intro) | decide)) ?_
                   try dsimp only [xsto1, xsto2, xkill, xget, xset, gd_0, gd_s]
                   try simp (disch := omega) only [gI_self, g_ne, hr, nI_1]
                   try rw [hA0]
                   try rw [hA1]
                   try rw [hA2]
                   try rw [hA3]
                   refine r2_z rfl rfl (by first | decide | assumption) ?_
                   first
                     | exact Or.inl ⟨p, hp, hip, ⟨by rw [hip]; exact inI hp (by omega), hlt, by first | exact i_nlt2 h25 | exact h25, by first | exact i_nlt2 h33 | exact h33, by first | exact i_nlt2 h40 | exact h40, by first | exact i_nlt2 h48 | exact h48⟩, rfl, rfl⟩
                     | (refine Or.inr ⟨?_, rfl, rfl⟩
                        rintro ⟨y1, y2, y3, y4, y5, y6⟩
                        first
                          | exact hnp y1
                          | exact hlt y2
                          | exact i_nlt y3 h25
                          | exact i_nlt y4 h33
                          | exact i_nlt y5 h40
                          | exact h48 y6
                          | exact i_nlt y6 h48))
          · refine xG_run 4 rfl (by repeat' (first | exact trivial | assumption | exact xob_b rfl | exact xal_b rfl | (apply And.intro) | decide)) ?_
            try dsimp only [xsto1, xsto2, xkill, xget, xset, gd_0, gd_s]
            try simp (disch := omega) only [gI_self, g_ne, hr, nI_1]
            try rw [hA0]
            try rw [hA1]
            try rw [hA2]
            try rw [hA3]
            refine xG_br rfl (fun h48 => ?_) (fun h48 => ?_)
            · refine xG_run 3 rfl (by repeat' (first | exact trivial | assumption | exact xob_b rfl | exact xal_b rfl | (apply And.intro) | decide)) ?_
              try dsimp only [xsto1, xsto2, xkill, xget, xset, gd_0, gd_s]
              try simp (disch := omega) only [gI_self, g_ne, hr, nI_1]
              try rw [hA0]
              try rw [hA1]
              try rw [hA2]
              try rw [hA3]
              refine xG_br rfl (fun h60 => ?_) (fun h60 => ?_)
              · first
                  | (exfalso; first | exact absurd h60 (by decide) | exact h60 (by decide))
                  | (have hne := cr_0 (hh p hp) (show nr3 1 99 (a 1) from ⟨by have := i_nlt2 h25; rw [Int32.le_iff_toInt_le] at this; exact this, by have := i_nlt2 h33; rw [Int32.le_iff_toInt_le] at this; exact this⟩)
                     refine xG_run 4 rfl (by repeat' (first | exact trivial | assumption | exact xob_b rfl | exact xal_b rfl | (apply And.intro) | decide)) ?_
                     try dsimp only [xsto1, xsto2, xkill, xget, xset, gd_0, gd_s]
                     try simp (disch := omega) only [gI_self, g_ne, hr, nI_1]
                     try rw [hA0]
                     try rw [hA1]
                     try rw [hA2]
                     try rw [hA3]
                     try simp (disch := omega) only [hr, g_ne]
                     refine xG_run 1 rfl (by repeat' (first | exact trivial | assumption | exact xob_b rfl | exact xal_b rfl | (apply And.intro) | decide)) ?_
                     try dsimp only [xsto1, xsto2, xkill, xget, xset, gd_0, gd_s]
                     try simp (disch := omega) only [gI_self, g_ne, hr, nI_1]
                     try rw [hA0]
                     try rw [hA1]
                     try rw [hA2]
                     try rw [hA3]
                     rw [hj0]
                     refine xG_run 8 rfl (by repeat' (first | exact trivial | assumption | exact xob_b rfl | exact xal_b rfl | (apply And.intro) | decide)) ?_
                     try dsimp only [xsto1, xsto2, xkill, xget, xset, gd_0, gd_s]
                     try simp (disch := omega) only [gI_self, g_ne, hr, nI_1]
                     try rw [hA0]
                     try rw [hA1]
                     try rw [hA2]
                     try rw [hA3]
                     refine xG_run 8 rfl (by repeat' (first | exact trivial | assumption | exact xob_b rfl | exact xal_b rfl | (apply And.intro) | decide)) ?_
                     try dsimp only [xsto1, xsto2, xkill, xget, xset, gd_0, gd_s]
                     try simp (disch := omega) only [gI_self, g_ne, hr, nI_1]
                     try rw [hA0]
                     try rw [hA1]
                     try rw [hA2]
                     try rw [hA3]
                     refine xG_run 8 rfl (by repeat' (first | exact trivial | assumption | exact xob_b rfl | exact xal_b rfl | (apply And.intro) | decide)) ?_
                     try dsimp only [xsto1, xsto2, xkill, xget, xset, gd_0, gd_s]
                     try simp (disch := omega) only [gI_self, g_ne, hr, nI_1]
                     try rw [hA0]
                     try rw [hA1]
                     try rw [hA2]
                     try rw [hA3]
                     refine xG_run 8 rfl (by repeat' (first | exact trivial | assumption | exact xob_b rfl | exact xal_b rfl | (apply And.intro) | decide)) ?_
                     try dsimp only [xsto1, xsto2, xkill, xget, xset, gd_0, gd_s]
                     try simp (disch := omega) only [gI_self, g_ne, hr, nI_1]
                     try rw [hA0]
                     try rw [hA1]
                     try rw [hA2]
                     try rw [hA3]
                     refine xG_run 6 rfl (by repeat' (first | exact trivial | assumption | exact xob_b rfl | exact xal_b rfl | (apply And.intro) | decide)) ?_
                     try dsimp only [xsto1, xsto2, xkill, xget, xset, gd_0, gd_s]
                     try simp (disch := omega) only [gI_self, g_ne, hr, nI_1]
                     try rw [hA0]
                     try rw [hA1]
                     try rw [hA2]
                     try rw [hA3]
                     try simp (disch := omega) only [gI_self, g_ne, hr, nI_1]
                     try rw [hA0]
                     try rw [hA1]
                     try rw [hA2]
                     try rw [hA3]
                     refine xG_run 8 rfl (by repeat' (first | exact trivial | assumption | exact xob_b rfl | exact xal_b rfl | (apply And.intro) | decide)) ?_
                     try dsimp only [xsto1, xsto2, xkill, xget, xset, gd_0, gd_s]
                     try simp (disch := omega) only [gI_self, g_ne, hr, nI_1]
                     try rw [hA0]
                     try rw [hA1]
                     try rw [hA2]
                     try rw [hA3]
                     refine xG_run 3 rfl (by repeat' (first | exact trivial | assumption | exact xob_b rfl | exact xal_b rfl | (apply And.intro) | decide)) ?_
                     try dsimp only [xsto1, xsto2, xkill, xget, xset, gd_0, gd_s]
                     try simp (disch := omega) only [gI_self, g_ne, hr, nI_1]
                     try rw [hA0]
                     try rw [hA1]
                     try rw [hA2]
                     try rw [hA3]
                     refine r2_z rfl rfl (by first | decide | assumption) ?_
                     first
                       | exact Or.inl ⟨p, hp, hip, ⟨by rw [hip]; exact inI hp (by omega), hlt, by first | exact i_nlt2 h25 | exact h25, by first | exact i_nlt2 h33 | exact h33, by first | exact i_nlt2 h40 | exact h40, by first | exact i_nlt2 h48 | exact h48⟩, rfl, rfl⟩
                       | (refine Or.inr ⟨?_, rfl, rfl⟩
                          rintro ⟨y1, y2, y3, y4, y5, y6⟩
                          first
                            | exact hnp y1
                            | exact hlt y2
                            | exact i_nlt y3 h25
                            | exact i_nlt y4 h33
                            | exact i_nlt y5 h40
                            | exact h48 y6
                            | exact i_nlt y6 h48))
              · first
                  | (exfalso; first | exact absurd h60 (by decide) | exact h60 (by decide))
                  | (refine xG_run 1 rfl (by repeat' (first | exact trivial | assumption | exact xob_b rfl | exact xal_b rfl | (apply And.intro) | decide)) ?_
                     try dsimp only [xsto1, xsto2, xkill, xget, xset, gd_0, gd_s]
                     try simp (disch := omega) only [gI_self, g_ne, hr, nI_1]
                     try rw [hA0]
                     try rw [hA1]
                     try rw [hA2]
                     try rw [hA3]
                     refine r2_z rfl rfl (by first | decide | assumption) ?_
                     first
                       | exact Or.inl ⟨p, hp, hip, ⟨by rw [hip]; exact inI hp (by omega), hlt, by first | exact i_nlt2 h25 | exact h25, by first | exact i_nlt2 h33 | exact h33, by first | exact i_nlt2 h40 | exact h40, by first | exact i_nlt2 h48 | exact h48⟩, rfl, rfl⟩
                       | (refine Or.inr ⟨?_, rfl, rfl⟩
                          rintro ⟨y1, y2, y3, y4, y5, y6⟩
                          first
                            | exact hnp y1
                            | exact hlt y2
                            | exact i_nlt y3 h25
                            | exact i_nlt y4 h33
                            | exact i_nlt y5 h40
                            | exact h48 y6
                            | exact i_nlt y6 h48))
            · refine xG_run 4 rfl (by repeat' (first | exact trivial | assumption | exact xob_b rfl | exact xal_b rfl | (apply And.intro) | decide)) ?_
              try dsimp only [xsto1, xsto2, xkill, xget, xset, gd_0, gd_s]
              try simp (disch := omega) only [gI_self, g_ne, hr, nI_1]
              try rw [hA0]
              try rw [hA1]
              try rw [hA2]
              try rw [hA3]
              refine xG_br rfl (fun h60 => ?_) (fun h60 => ?_)
              · first
                  | (exfalso; first | exact absurd h60 (by decide) | exact h60 (by decide))
                  | (have hne := cr_0 (hh p hp) (show nr3 1 99 (a 1) from ⟨by have := i_nlt2 h25; rw [Int32.le_iff_toInt_le] at this; exact this, by have := i_nlt2 h33; rw [Int32.le_iff_toInt_le] at this; exact this⟩)
                     refine xG_run 4 rfl (by repeat' (first | exact trivial | assumption | exact xob_b rfl | exact xal_b rfl | (apply And.intro) | decide)) ?_
                     try dsimp only [xsto1, xsto2, xkill, xget, xset, gd_0, gd_s]
                     try simp (disch := omega) only [gI_self, g_ne, hr, nI_1]
                     try rw [hA0]
                     try rw [hA1]
                     try rw [hA2]
                     try rw [hA3]
                     try simp (disch := omega) only [hr, g_ne]
                     refine xG_run 1 rfl (by repeat' (first | exact trivial | assumption | exact xob_b rfl | exact xal_b rfl | (apply And.intro) | decide)) ?_
                     try dsimp only [xsto1, xsto2, xkill, xget, xset, gd_0, gd_s]
                     try simp (disch := omega) only [gI_self, g_ne, hr, nI_1]
                     try rw [hA0]
                     try rw [hA1]
                     try rw [hA2]
                     try rw [hA3]
                     rw [hj0]
                     refine xG_run 8 rfl (by repeat' (first | exact trivial | assumption | exact xob_b rfl | exact xal_b rfl | (apply And.intro) | decide)) ?_
                     try dsimp only [xsto1, xsto2, xkill, xget, xset, gd_0, gd_s]
                     try simp (disch := omega) only [gI_self, g_ne, hr, nI_1]
                     try rw [hA0]
                     try rw [hA1]
                     try rw [hA2]
                     try rw [hA3]
                     refine xG_run 8 rfl (by repeat' (first | exact trivial | assumption | exact xob_b rfl | exact xal_b rfl | (apply And.intro) | decide)) ?_
                     try dsimp only [xsto1, xsto2, xkill, xget, xset, gd_0, gd_s]
                     try simp (disch := omega) only [gI_self, g_ne, hr, nI_1]
                     try rw [hA0]
                     try rw [hA1]
                     try rw [hA2]
                     try rw [hA3]
                     refine xG_run 8 rfl (by repeat' (first | exact trivial | assumption | exact xob_b rfl | exact xal_b rfl | (apply And.intro) | decide)) ?_
                     try dsimp only [xsto1, xsto2, xkill, xget, xset, gd_0, gd_s]
                     try simp (disch := omega) only [gI_self, g_ne, hr, nI_1]
                     try rw [hA0]
                     try rw [hA1]
                     try rw [hA2]
                     try rw [hA3]
                     refine xG_run 8 rfl (by repeat' (first | exact trivial | assumption | exact xob_b rfl | exact xal_b rfl | (apply And.intro) | decide)) ?_
                     try dsimp only [xsto1, xsto2, xkill, xget, xset, gd_0, gd_s]
                     try simp (disch := omega) only [gI_self, g_ne, hr, nI_1]
                     try rw [hA0]
                     try rw [hA1]
                     try rw [hA2]
                     try rw [hA3]
                     refine xG_run 6 rfl (by repeat' (first | exact trivial | assumption | exact xob_b rfl | exact xal_b rfl | (apply And.intro) | decide)) ?_
                     try dsimp only [xsto1, xsto2, xkill, xget, xset, gd_0, gd_s]
                     try simp (disch := omega) only [gI_self, g_ne, hr, nI_1]
                     try rw [hA0]
                     try rw [hA1]
                     try rw [hA2]
                     try rw [hA3]
                     try simp (disch := omega) only [gI_self, g_ne, hr, nI_1]
                     try rw [hA0]
                     try rw [hA1]
                     try rw [hA2]
                     try rw [hA3]
                     refine xG_run 8 rfl (by repeat' (first | exact trivial | assumption | exact xob_b rfl | exact xal_b rfl | (apply And.intro) | decide)) ?_
                     try dsimp only [xsto1, xsto2, xkill, xget, xset, gd_0, gd_s]
                     try simp (disch := omega) only [gI_self, g_ne, hr, nI_1]
                     try rw [hA0]
                     try rw [hA1]
                     try rw [hA2]
                     try rw [hA3]
                     refine xG_run 3 rfl (by repeat' (first | exact trivial | assumption | exact xob_b rfl | exact xal_b rfl | (apply And.intro) | decide)) ?_
                     try dsimp only [xsto1, xsto2, xkill, xget, xset, gd_0, gd_s]
                     try simp (disch := omega) only [gI_self, g_ne, hr, nI_1]
                     try rw [hA0]
                     try rw [hA1]
                     try rw [hA2]
                     try rw [hA3]
                     refine r2_z rfl rfl (by first | decide | assumption) ?_
                     first
                       | exact Or.inl ⟨p, hp, hip, ⟨by rw [hip]; exact inI hp (by omega), hlt, by first | exact i_nlt2 h25 | exact h25, by first | exact i_nlt2 h33 | exact h33, by first | exact i_nlt2 h40 | exact h40, by first | exact i_nlt2 h48 | exact h48⟩, rfl, rfl⟩
                       | (refine Or.inr ⟨?_, rfl, rfl⟩
                          rintro ⟨y1, y2, y3, y4, y5, y6⟩
                          first
                            | exact hnp y1
                            | exact hlt y2
                            | exact i_nlt y3 h25
                            | exact i_nlt y4 h33
                            | exact i_nlt y5 h40
                            | exact h48 y6
                            | exact i_nlt y6 h48))
              · first
                  | (exfalso; first | exact absurd h60 (by decide) | exact h60 (by decide))
                  | (refine xG_run 1 rfl (by repeat' (first | exact trivial | assumption | exact xob_b rfl | exact xal_b rfl | (apply And.intro) | decide)) ?_
                     try dsimp only [xsto1, xsto2, xkill, xget, xset, gd_0, gd_s]
                     try simp (disch := omega) only [gI_self, g_ne, hr, nI_1]
                     try rw [hA0]
                     try rw [hA1]
                     try rw [hA2]
                     try rw [hA3]
                     refine r2_z rfl rfl (by first | decide | assumption) ?_
                     first
                       | exact Or.inl ⟨p, hp, hip, ⟨by rw [hip]; exact inI hp (by omega), hlt, by first | exact i_nlt2 h25 | exact h25, by first | exact i_nlt2 h33 | exact h33, by first | exact i_nlt2 h40 | exact h40, by first | exact i_nlt2 h48 | exact h48⟩, rfl, rfl⟩
                       | (refine Or.inr ⟨?_, rfl, rfl⟩
                          rintro ⟨y1, y2, y3, y4, y5, y6⟩
                          first
                            | exact hnp y1
                            | exact hlt y2
                            | exact i_nlt y3 h25
                            | exact i_nlt y4 h33
                            | exact i_nlt y5 h40
                            | exact h48 y6
                            | exact i_nlt y6 h48))
