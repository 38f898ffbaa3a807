/-! ===== the class's shelves ===== -/
theorem sh_b : ∀ j, j < 8 → xobB (142 + 3 * j) 8 182 = true ∧ xobB (143 + 3 * j) 3 182 = true ∧ xarB (144 + 3 * j) 0 182 = true ∧ xlen (144 + 3 * j) = 120 ∧ xalB (144 + 3 * j) 182 = true ∧ xdyn (142 + 3 * j) 4 = false ∧ srf (142 + 3 * j) 4 = some (144 + 3 * j) ∧ xdyn (142 + 3 * j) 1 = false ∧ srf (142 + 3 * j) 1 = some (143 + 3 * j) := by decide +kernel
section SH
variable {j : Nat}
theorem xob_sh (h : j < 8) : xob (142 + 3 * j) 8 182 := xob_b (sh_b j h).1
theorem xob_sp (h : j < 8) : xob (143 + 3 * j) 3 182 := xob_b (sh_b j h).2.1
theorem sh_len (h : j < 8) : xlen (144 + 3 * j) = 120 := (sh_b j h).2.2.2.1
theorem sh_al (h : j < 8) : xal (144 + 3 * j) 182 := xal_b (sh_b j h).2.2.2.2.1
theorem sh_ar (h : j < 8) {k : Nat} (hk : k < 120) : xar (144 + 3 * j) 0 182 (nI k) := xar_n (sh_b j h).2.2.1 120 (sh_len h) hk (by omega)
theorem sh_el (h : j < 8) (M : xM) : xrf (xpr z2.2.1 M (142 + 3 * j) 4) = .ref (144 + 3 * j) := by
  have e := (sh_b j h).2.2.2.2.2
  show xrf (bif false then _ else bif xdyn (142 + 3 * j) 4 then _ else srf (142 + 3 * j) 4) = _
  rw [e.1, e.2.1]
  rfl
theorem sh_pc (h : j < 8) (M : xM) : xrf (xpr z2.2.1 M (142 + 3 * j) 1) = .ref (143 + 3 * j) := by
  have e := (sh_b j h).2.2.2.2.2
  show xrf (bif false then _ else bif xdyn (142 + 3 * j) 1 then _ else srf (142 + 3 * j) 1) = _
  rw [e.2.2.1, e.2.2.2]
  rfl
end SH
/-- why a call that asks for a row is refused -/
def cRR (M : xM) (j : Nat) (s : Int32) : Int32 := if gI M (142 + 3 * j) 0 = 0 then -11 else if gI M (142 + 3 * j) 0 = 2 ∧ (s = -1 ∨ s = gI M (142 + 3 * j) 2) then 0 else -12
def cPR (M : xM) (j : Nat) : Int32 := if gI M (142 + 3 * j) 0 = 0 then -11 else if gI M (142 + 3 * j) 0 = 1 then 0 else -12
def cLB (s x : Int32) : Int32 := if s = 0 then x.toInt8.toInt32 else if s = 1 then x.toInt16.toInt32 else x
def zrM (M : xM) (a n : Nat) : xM := (fun x k => if x = a ∧ k < n then 0 else gI M x k, M.2.1, M.2.2)
theorem zrM_g {M : xM} {a n x k : Nat} : gI (zrM M a n) x k = if x = a ∧ k < n then 0 else gI M x k := rfl
theorem zrM_s {M : xM} {a n : Nat} : sI (zrM M a n) a n 0 = zrM M a (n + 1) := by
  refine xM_ext (fun x k => ?_) (fun _ _ => rfl) (fun _ _ => rfl)
  rw [gIsI, zrM_g, zrM_g]
  by_cases c : x = a ∧ k = n
  · rw [if_pos c, if_pos ⟨c.1, by omega⟩]
  · rw [if_neg c]
    by_cases c2 : x = a ∧ k < n
    · rw [if_pos c2, if_pos ⟨c2.1, by omega⟩]
    · rw [if_neg c2, if_neg (by omega)]
theorem zrM_0 {M : xM} {a : Nat} : M = zrM M a 0 := xM_ext (fun x k => by rw [zrM_g, if_neg (by omega)]) (fun _ _ => rfl) (fun _ _ => rfl)
theorem hs_lg {a b c : Int32} : ¬ 0 < lg_cmp (a.toInt64 + b.toInt64) c.toInt64 ↔ a.toInt + b.toInt ≤ c.toInt := by
  have ha := fb_rng a
  have hb := fb_rng b
  rw [lg_gt0, Int64.lt_iff_toInt_lt, fb_addL (by rw [Int32.toInt_toInt64, Int32.toInt_toInt64]; omega) (by rw [Int32.toInt_toInt64, Int32.toInt_toInt64]; omega), Int32.toInt_toInt64, Int32.toInt_toInt64, Int32.toInt_toInt64]
  omega
abbrev hsP (M : xM) (j : Nat) (a b : Int32) : Prop := 0 ≤ a ∧ 0 ≤ b ∧ a.toInt + b.toInt ≤ (gI M (142 + 3 * j) 3).toInt
set_option maxRecDepth 4000 in
theorem e_shelfAt {κ : xKK} {d : Nat} {M : xM} {i : Int32} : xE2 κ mX11_shelfAt d [.ref 0, .int i] M (fun v M' => ((v = some .null ∧ ¬ (0 ≤ i ∧ i < nI 8)) ∨ ∃ j : Nat, j < 8 ∧ i = nI j ∧ v = some (.ref (142 + 3 * j))) ∧ M' = M) := by
  refine xE2_of ci_X11_shelfAt cl_X11_shelfAt cw_X11_shelfAt rfl (L := [some (.ref 0), some (.int i)]) rfl ?_
  by_cases h0 : i < 0
  · refine xG_run 1 rfl (by repeat' (first | exact trivial | assumption | exact xob_b rfl | exact xal_b rfl | (apply And.intro) | decide)) ?_
    refine xG_brT rfl h0 ?_
    refine xG_run 1 rfl (by repeat' (first | exact trivial | assumption | exact xob_b rfl | exact xal_b rfl | (apply And.intro) | decide)) ?_
    refine r2_n rfl rfl rfl ?_
    exact ⟨Or.inl ⟨rfl, fun q => i_nlt q.1 h0⟩, rfl⟩
  · obtain ⟨j, hj, rfl⟩ := nI_of h0
    refine xG_run 1 rfl (by repeat' (first | exact trivial | assumption | exact xob_b rfl | exact xal_b rfl | (apply And.intro) | decide)) ?_
    refine xG_brF rfl h0 ?_
    refine xG_run 4 rfl (by repeat' (first | exact trivial | assumption | exact xob_b rfl | exact xal_b rfl | (apply And.intro) | decide)) ?_
    by_cases hlt : j < 8
    · have hj1 : (nI j).toNatClampNeg = j := nI_cl (by omega)
      have hq : xqr 122 182 (nI j) := xqr_n rfl 8 rfl (by omega) (by omega)
      refine xG_brF rfl (show ¬ nI 8 ≤ nI j from nI_ge hlt (by omega)) ?_
      refine xG_run 5 rfl (by repeat' (first | exact trivial | assumption | exact xob_b rfl | exact xal_b rfl | (apply And.intro) | decide)) ?_
      rw [hj1]
      refine r2_r rfl rfl rfl ?_
      exact ⟨Or.inr ⟨j, hlt, rfl, rfl⟩, rfl⟩
    · refine xG_brT rfl (show nI 8 ≤ nI j from nI_le (by omega) hj) ?_
      refine xG_run 1 rfl (by repeat' (first | exact trivial | assumption | exact xob_b rfl | exact xal_b rfl | (apply And.intro) | decide)) ?_
      refine r2_n rfl rfl rfl ?_
      exact ⟨Or.inl ⟨rfl, fun q => nI_nlt (by omega) hj q.2⟩, rfl⟩
set_option maxRecDepth 4000 in
theorem e_rowRef0 {κ : xKK} {d : Nat} {M : xM} {s : Int32} : xE2 κ mX11_rowRefusal d [.ref 0, .null, .int s] M (fun v M' => v = some (.int (-1)) ∧ M' = M) := by
  refine xE2_of ci_X11_rowRefusal cl_X11_rowRefusal cw_X11_rowRefusal rfl (L := [some (.ref 0), some .null, some (.int s), none]) rfl ?_
  refine xG_run 3 rfl (by repeat' (first | exact trivial | assumption | exact xob_b rfl | exact xal_b rfl | (apply And.intro) | decide)) ?_
  try dsimp only [xsto1, xsto2, xkill, xget, xset, gd_0, gd_s]
  refine r2_i rfl rfl ?_
  exact ⟨rfl, rfl⟩
set_option maxRecDepth 4000 in
theorem e_rowRef1 {κ : xKK} {d : Nat} {M : xM} {s : Int32} {j : Nat} (hj : j < 8) : xE2 κ mX11_rowRefusal d [.ref 0, .ref (142 + 3 * j), .int s] M (fun v M' => v = some (.int (cRR M j s)) ∧ M' = M) := by
  refine xE2_of ci_X11_rowRefusal cl_X11_rowRefusal cw_X11_rowRefusal rfl (L := [some (.ref 0), some (.ref (142 + 3 * j)), some (.int s), none]) rfl ?_
  have hx := xob_sh hj
  refine xG_run 4 rfl (by repeat' (first | exact trivial | assumption | exact xob_b rfl | exact xal_b rfl | (apply And.intro) | decide)) ?_
  try dsimp only [xsto1, xsto2, xkill, xget, xset, gd_0, gd_s]
  refine xG_br rfl (fun h10 => ?_) (fun h10 => ?_)
  · refine xG_run 3 rfl (by repeat' (first | exact trivial | assumption | exact xob_b rfl | exact xal_b rfl | (apply And.intro) | decide)) ?_
    try dsimp only [xsto1, xsto2, xkill, xget, xset, gd_0, gd_s]
    refine xG_br rfl (fun h21 => ?_) (fun h21 => ?_)
    · refine xG_run 3 rfl (by repeat' (first | exact trivial | assumption | exact xob_b rfl | exact xal_b rfl | (apply And.intro) | decide)) ?_
      try dsimp only [xsto1, xsto2, xkill, xget, xset, gd_0, gd_s]
      refine xG_br rfl (fun h44 => ?_) (fun h44 => ?_)
      · first
          | (exfalso; first | exact h44 (by decide) | exact absurd h44 (by decide))
          | (refine xG_run 1 rfl (by repeat' (first | exact trivial | assumption | exact xob_b rfl | exact xal_b rfl | (apply And.intro) | decide)) ?_
             try dsimp only [xsto1, xsto2, xkill, xget, xset, gd_0, gd_s]
             refine r2_i rfl rfl ?_
             refine ⟨?_, rfl⟩
             unfold cRR
             first
               | (rw [if_pos (Decidable.not_not.mp h10)]; done)
               | (rw [if_neg h10, if_pos ⟨Decidable.not_not.mp h21, Or.inl h26⟩]; done)
               | (rw [if_neg h10, if_pos ⟨Decidable.not_not.mp h21, Or.inr (Decidable.not_not.mp h34)⟩]; done)
               | (rw [if_neg h10, if_neg (fun q => h21 q.1)]; done)
               | (rw [if_neg h10, if_neg (fun q => q.2.elim h26 h34)]; done))
      · first
          | (exfalso; first | exact h44 (by decide) | exact absurd h44 (by decide))
          | (refine xG_run 2 rfl (by repeat' (first | exact trivial | assumption | exact xob_b rfl | exact xal_b rfl | (apply And.intro) | decide)) ?_
             try dsimp only [xsto1, xsto2, xkill, xget, xset, gd_0, gd_s]
             refine r2_i rfl rfl ?_
             refine ⟨?_, rfl⟩
             unfold cRR
             first
               | (rw [if_pos (Decidable.not_not.mp h10)]; done)
               | (rw [if_neg h10, if_pos ⟨Decidable.not_not.mp h21, Or.inl h26⟩]; done)
               | (rw [if_neg h10, if_pos ⟨Decidable.not_not.mp h21, Or.inr (Decidable.not_not.mp h34)⟩]; done)
               | (rw [if_neg h10, if_neg (fun q => h21 q.1)]; done)
               | (rw [if_neg h10, if_neg (fun q => q.2.elim h26 h34)]; done))
    · refine xG_run 2 rfl (by repeat' (first | exact trivial | assumption | exact xob_b rfl | exact xal_b rfl | (apply And.intro) | decide)) ?_
      try dsimp only [xsto1, xsto2, xkill, xget, xset, gd_0, gd_s]
      refine xG_br rfl (fun h26 => ?_) (fun h26 => ?_)
      · refine xG_run 4 rfl (by repeat' (first | exact trivial | assumption | exact xob_b rfl | exact xal_b rfl | (apply And.intro) | decide)) ?_
        try dsimp only [xsto1, xsto2, xkill, xget, xset, gd_0, gd_s]
        refine xG_br rfl (fun h44 => ?_) (fun h44 => ?_)
        · first
            | (exfalso; first | exact h44 (by decide) | exact absurd h44 (by decide))
            | (refine xG_run 1 rfl (by repeat' (first | exact trivial | assumption | exact xob_b rfl | exact xal_b rfl | (apply And.intro) | decide)) ?_
               try dsimp only [xsto1, xsto2, xkill, xget, xset, gd_0, gd_s]
               refine r2_i rfl rfl ?_
               refine ⟨?_, rfl⟩
               unfold cRR
               first
                 | (rw [if_pos (Decidable.not_not.mp h10)]; done)
                 | (rw [if_neg h10, if_pos ⟨Decidable.not_not.mp h21, Or.inl h26⟩]; done)
                 | (rw [if_neg h10, if_pos ⟨Decidable.not_not.mp h21, Or.inr (Decidable.not_not.mp h34)⟩]; done)
                 | (rw [if_neg h10, if_neg (fun q => h21 q.1)]; done)
                 | (rw [if_neg h10, if_neg (fun q => q.2.elim h26 h34)]; done))
        · first
            | (exfalso; first | exact h44 (by decide) | exact absurd h44 (by decide))
            | (refine xG_run 2 rfl (by repeat' (first | exact trivial | assumption | exact xob_b rfl | exact xal_b rfl | (apply And.intro) | decide)) ?_
               try dsimp only [xsto1, xsto2, xkill, xget, xset, gd_0, gd_s]
               refine r2_i rfl rfl ?_
               refine ⟨?_, rfl⟩
               unfold cRR
               first
                 | (rw [if_pos (Decidable.not_not.mp h10)]; done)
                 | (rw [if_neg h10, if_pos ⟨Decidable.not_not.mp h21, Or.inl h26⟩]; done)
                 | (rw [if_neg h10, if_pos ⟨Decidable.not_not.mp h21, Or.inr (Decidable.not_not.mp h34)⟩]; done)
                 | (rw [if_neg h10, if_neg (fun q => h21 q.1)]; done)
                 | (rw [if_neg h10, if_neg (fun q => q.2.elim h26 h34)]; done))
      · refine xG_run 3 rfl (by repeat' (first | exact trivial | assumption | exact xob_b rfl | exact xal_b rfl | (apply And.intro) | decide)) ?_
        try dsimp only [xsto1, xsto2, xkill, xget, xset, gd_0, gd_s]
        refine xG_br rfl (fun h34 => ?_) (fun h34 => ?_)
        · refine xG_run 3 rfl (by repeat' (first | exact trivial | assumption | exact xob_b rfl | exact xal_b rfl | (apply And.intro) | decide)) ?_
          try dsimp only [xsto1, xsto2, xkill, xget, xset, gd_0, gd_s]
          refine xG_br rfl (fun h44 => ?_) (fun h44 => ?_)
          · first
              | (exfalso; first | exact h44 (by decide) | exact absurd h44 (by decide))
              | (refine xG_run 1 rfl (by repeat' (first | exact trivial | assumption | exact xob_b rfl | exact xal_b rfl | (apply And.intro) | decide)) ?_
                 try dsimp only [xsto1, xsto2, xkill, xget, xset, gd_0, gd_s]
                 refine r2_i rfl rfl ?_
                 refine ⟨?_, rfl⟩
                 unfold cRR
                 first
                   | (rw [if_pos (Decidable.not_not.mp h10)]; done)
                   | (rw [if_neg h10, if_pos ⟨Decidable.not_not.mp h21, Or.inl h26⟩]; done)
                   | (rw [if_neg h10, if_pos ⟨Decidable.not_not.mp h21, Or.inr (Decidable.not_not.mp h34)⟩]; done)
                   | (rw [if_neg h10, if_neg (fun q => h21 q.1)]; done)
                   | (rw [if_neg h10, if_neg (fun q => q.2.elim h26 h34)]; done))
          · first
              | (exfalso; first | exact h44 (by decide) | exact absurd h44 (by decide))
              | (refine xG_run 2 rfl (by repeat' (first | exact trivial | assumption | exact xob_b rfl | exact xal_b rfl | (apply And.intro) | decide)) ?_
                 try dsimp only [xsto1, xsto2, xkill, xget, xset, gd_0, gd_s]
                 refine r2_i rfl rfl ?_
                 refine ⟨?_, rfl⟩
                 unfold cRR
                 first
                   | (rw [if_pos (Decidable.not_not.mp h10)]; done)
                   | (rw [if_neg h10, if_pos ⟨Decidable.not_not.mp h21, Or.inl h26⟩]; done)
                   | (rw [if_neg h10, if_pos ⟨Decidable.not_not.mp h21, Or.inr (Decidable.not_not.mp h34)⟩]; done)
                   | (rw [if_neg h10, if_neg (fun q => h21 q.1)]; done)
                   | (rw [if_neg h10, if_neg (fun q => q.2.elim h26 h34)]; done))
        · refine xG_run 4 rfl (by repeat' (first | exact trivial | assumption | exact xob_b rfl | exact xal_b rfl | (apply And.intro) | decide)) ?_
          try dsimp only [xsto1, xsto2, xkill, xget, xset, gd_0, gd_s]
          refine xG_br rfl (fun h44 => ?_) (fun h44 => ?_)
          · first
              | (exfalso; first | exact h44 (by decide) | exact absurd h44 (by decide))
              | (refine xG_run 1 rfl (by repeat' (first | exact trivial | assumption | exact xob_b rfl | exact xal_b rfl | (apply And.intro) | decide)) ?_
                 try dsimp only [xsto1, xsto2, xkill, xget, xset, gd_0, gd_s]
                 refine r2_i rfl rfl ?_
                 refine ⟨?_, rfl⟩
                 unfold cRR
                 first
                   | (rw [if_pos (Decidable.not_not.mp h10)]; done)
                   | (rw [if_neg h10, if_pos ⟨Decidable.not_not.mp h21, Or.inl h26⟩]; done)
                   | (rw [if_neg h10, if_pos ⟨Decidable.not_not.mp h21, Or.inr (Decidable.not_not.mp h34)⟩]; done)
                   | (rw [if_neg h10, if_neg (fun q => h21 q.1)]; done)
                   | (rw [if_neg h10, if_neg (fun q => q.2.elim h26 h34)]; done))
          · first
              | (exfalso; first | exact h44 (by decide) | exact absurd h44 (by decide))
              | (refine xG_run 2 rfl (by repeat' (first | exact trivial | assumption | exact xob_b rfl | exact xal_b rfl | (apply And.intro) | decide)) ?_
                 try dsimp only [xsto1, xsto2, xkill, xget, xset, gd_0, gd_s]
                 refine r2_i rfl rfl ?_
                 refine ⟨?_, rfl⟩
                 unfold cRR
                 first
                   | (rw [if_pos (Decidable.not_not.mp h10)]; done)
                   | (rw [if_neg h10, if_pos ⟨Decidable.not_not.mp h21, Or.inl h26⟩]; done)
                   | (rw [if_neg h10, if_pos ⟨Decidable.not_not.mp h21, Or.inr (Decidable.not_not.mp h34)⟩]; done)
                   | (rw [if_neg h10, if_neg (fun q => h21 q.1)]; done)
                   | (rw [if_neg h10, if_neg (fun q => q.2.elim h26 h34)]; done))
  · refine xG_run 1 rfl (by repeat' (first | exact trivial | assumption | exact xob_b rfl | exact xal_b rfl | (apply And.intro) | decide)) ?_
    try dsimp only [xsto1, xsto2, xkill, xget, xset, gd_0, gd_s]
    refine r2_i rfl rfl ?_
    refine ⟨?_, rfl⟩
    unfold cRR
    first
      | (rw [if_pos (Decidable.not_not.mp h10)]; done)
      | (rw [if_neg h10, if_pos ⟨Decidable.not_not.mp h21, Or.inl h26⟩]; done)
      | (rw [if_neg h10, if_pos ⟨Decidable.not_not.mp h21, Or.inr (Decidable.not_not.mp h34)⟩]; done)
      | (rw [if_neg h10, if_neg (fun q => h21 q.1)]; done)
      | (rw [if_neg h10, if_neg (fun q => q.2.elim h26 h34)]; done)
set_option maxRecDepth 4000 in
theorem e_pieceRef0 {κ : xKK} {d : Nat} {M : xM}  : xE2 κ mX11_pieceRefusal d [.ref 0, .null] M (fun v M' => v = some (.int (-1)) ∧ M' = M) := by
  refine xE2_of ci_X11_pieceRefusal cl_X11_pieceRefusal cw_X11_pieceRefusal rfl (L := [some (.ref 0), some .null]) rfl ?_
  refine xG_run 3 rfl (by repeat' (first | exact trivial | assumption | exact xob_b rfl | exact xal_b rfl | (apply And.intro) | decide)) ?_
  try dsimp only [xsto1, xsto2, xkill, xget, xset, gd_0, gd_s]
  refine r2_i rfl rfl ?_
  exact ⟨rfl, rfl⟩
set_option maxRecDepth 4000 in
theorem e_pieceRef1 {κ : xKK} {d : Nat} {M : xM} {j : Nat} (hj : j < 8) : xE2 κ mX11_pieceRefusal d [.ref 0, .ref (142 + 3 * j)] M (fun v M' => v = some (.int (cPR M j)) ∧ M' = M) := by
  refine xE2_of ci_X11_pieceRefusal cl_X11_pieceRefusal cw_X11_pieceRefusal rfl (L := [some (.ref 0), some (.ref (142 + 3 * j))]) rfl ?_
  have hx := xob_sh hj
  refine xG_run 4 rfl (by repeat' (first | exact trivial | assumption | exact xob_b rfl | exact xal_b rfl | (apply And.intro) | decide)) ?_
  try dsimp only [xsto1, xsto2, xkill, xget, xset, gd_0, gd_s]
  refine xG_br rfl (fun h10 => ?_) (fun h10 => ?_)
  · refine xG_run 3 rfl (by repeat' (first | exact trivial | assumption | exact xob_b rfl | exact xal_b rfl | (apply And.intro) | decide)) ?_
    try dsimp only [xsto1, xsto2, xkill, xget, xset, gd_0, gd_s]
    refine xG_br rfl (fun h21 => ?_) (fun h21 => ?_)
    · refine xG_run 1 rfl (by repeat' (first | exact trivial | assumption | exact xob_b rfl | exact xal_b rfl | (apply And.intro) | decide)) ?_
      try dsimp only [xsto1, xsto2, xkill, xget, xset, gd_0, gd_s]
      refine r2_i rfl rfl ?_
      refine ⟨?_, rfl⟩
      unfold cPR
      first
        | (rw [if_pos (Decidable.not_not.mp h10)]; done)
        | (rw [if_neg h10, if_pos (Decidable.not_not.mp h21)]; done)
        | (rw [if_neg h10, if_neg h21]; done)
    · refine xG_run 2 rfl (by repeat' (first | exact trivial | assumption | exact xob_b rfl | exact xal_b rfl | (apply And.intro) | decide)) ?_
      try dsimp only [xsto1, xsto2, xkill, xget, xset, gd_0, gd_s]
      refine r2_i rfl rfl ?_
      refine ⟨?_, rfl⟩
      unfold cPR
      first
        | (rw [if_pos (Decidable.not_not.mp h10)]; done)
        | (rw [if_neg h10, if_pos (Decidable.not_not.mp h21)]; done)
        | (rw [if_neg h10, if_neg h21]; done)
  · refine xG_run 1 rfl (by repeat' (first | exact trivial | assumption | exact xob_b rfl | exact xal_b rfl | (apply And.intro) | decide)) ?_
    try dsimp only [xsto1, xsto2, xkill, xget, xset, gd_0, gd_s]
    refine r2_i rfl rfl ?_
    refine ⟨?_, rfl⟩
    unfold cPR
    first
      | (rw [if_pos (Decidable.not_not.mp h10)]; done)
      | (rw [if_neg h10, if_pos (Decidable.not_not.mp h21)]; done)
      | (rw [if_neg h10, if_neg h21]; done)
def lyM (M : xM) (j : Nat) (s n : Int32) : xM := zrM (sI (sI (sI M (142 + 3 * j) 0 2) (142 + 3 * j) 2 s) (142 + 3 * j) 3 n) (144 + 3 * j) 120
set_option maxRecDepth 4000 in
theorem e_layRow {κ : xKK} {d : Nat} {M : xM} {s n : Int32} {j : Nat} (hj : j < 8) : xE2 κ mX8_layRow d [.ref (142 + 3 * j), .int s, .int n] M (fun v M' => v = none ∧ M' = lyM M j s n) := by
  refine xE2_of ci_X8_layRow cl_X8_layRow cw_X8_layRow rfl (L := [some (.ref (142 + 3 * j)), some (.int s), some (.int n), none]) rfl ?_
  have hx := xob_sh hj
  have hal := sh_al hj
  refine xG_run 8 rfl (by repeat' (first | exact trivial | assumption | exact xob_b rfl | exact xal_b rfl | (apply And.intro) | decide)) ?_
  try dsimp only [xsto1, xsto2, xkill, xget, xset, gd_0, gd_s]
  refine xG_run 3 rfl (by repeat' (first | exact trivial | assumption | exact xob_b rfl | exact xal_b rfl | (apply And.intro) | decide)) ?_
  try dsimp only [xsto1, xsto2, xkill, xget, xset, gd_0, gd_s]
  have e0 : (sI (sI (sI M (142 + 3 * j) 0 2) (142 + 3 * j) 2 s) (142 + 3 * j) 3 n) = zrM (sI (sI (sI M (142 + 3 * j) 0 2) (142 + 3 * j) 2 s) (142 + 3 * j) 3 n) (144 + 3 * j) 0 := zrM_0
  show xG κ mX8_layRow _ (17, [some (.ref (142 + 3 * j)), some (.int s), some (.int n), some (.int (nI 0))], [], (sI (sI (sI M (142 + 3 * j) 0 2) (142 + 3 * j) 2 s) (142 + 3 * j) 3 n), z2) _
  rw [e0]
  refine xG_up (fun k => (17, [some (.ref (142 + 3 * j)), some (.int s), some (.int n), some (.int (nI k))], [], zrM (sI (sI (sI M (142 + 3 * j) 0 2) (142 + 3 * j) 2 s) (142 + 3 * j) 3 n) (144 + 3 * j) k, z2)) 120 ?_ ?_ 0 (Nat.zero_le _)
  · intro k hk ih
    have hk1 : (nI k).toNatClampNeg = k := nI_cl (by omega)
    have hs := sh_ar hj hk
    refine xG_run 3 rfl (by repeat' (first | exact trivial | assumption | exact xob_b rfl | exact xal_b rfl | (apply And.intro) | decide)) ?_
    try dsimp only [xsto1, xsto2, xkill, xget, xset, gd_0, gd_s]
    rw [sh_el hj]
    refine xG_run 1 rfl (by repeat' (first | exact trivial | assumption | exact xob_b rfl | exact xal_b rfl | (apply And.intro) | decide)) ?_
    try dsimp only [xsto1, xsto2, xkill, xget, xset, gd_0, gd_s]
    refine xG_brF rfl (by rw [sh_len hj]; exact nI_ge hk (by omega)) ?_
    refine xG_run 2 rfl (by repeat' (first | exact trivial | assumption | exact xob_b rfl | exact xal_b rfl | (apply And.intro) | decide)) ?_
    try dsimp only [xsto1, xsto2, xkill, xget, xset, gd_0, gd_s]
    rw [sh_el hj]
    refine xG_run 5 rfl (by repeat' (first | exact trivial | assumption | exact xob_b rfl | exact xal_b rfl | (apply And.intro) | decide)) ?_
    try dsimp only [xsto1, xsto2, xkill, xget, xset, gd_0, gd_s]
    rw [hk1, zrM_s, nI_1]
    exact ih
  · refine xG_run 3 rfl (by repeat' (first | exact trivial | assumption | exact xob_b rfl | exact xal_b rfl | (apply And.intro) | decide)) ?_
    try dsimp only [xsto1, xsto2, xkill, xget, xset, gd_0, gd_s]
    rw [sh_el hj]
    refine xG_run 1 rfl (by repeat' (first | exact trivial | assumption | exact xob_b rfl | exact xal_b rfl | (apply And.intro) | decide)) ?_
    try dsimp only [xsto1, xsto2, xkill, xget, xset, gd_0, gd_s]
    refine xG_brT rfl (by rw [sh_len hj]; exact Int32.le_refl _) ?_
    refine r2_v rfl rfl ?_
    exact ⟨rfl, rfl⟩
set_option maxRecDepth 4000 in
theorem e_hasSpan {κ : xKK} {d : Nat} {M : xM} {a b : Int32} {j : Nat} (hj : j < 8) : xE2 κ mX8_hasSpan d [.ref (142 + 3 * j), .int a, .int b] M (fun v M' => v = some (.int (if hsP M j a b then 1 else 0)) ∧ M' = M) := by
  refine xE2_of ci_X8_hasSpan cl_X8_hasSpan cw_X8_hasSpan rfl (L := [some (.ref (142 + 3 * j)), some (.int a), some (.int b)]) rfl ?_
  have hx := xob_sh hj
  refine xG_run 1 rfl (by repeat' (first | exact trivial | assumption | exact xob_b rfl | exact xal_b rfl | (apply And.intro) | decide)) ?_
  try dsimp only [xsto1, xsto2, xkill, xget, xset, gd_0, gd_s]
  refine xG_br rfl (fun h1 => ?_) (fun h1 => ?_)
  · refine xG_run 1 rfl (by repeat' (first | exact trivial | assumption | exact xob_b rfl | exact xal_b rfl | (apply And.intro) | decide)) ?_
    try dsimp only [xsto1, xsto2, xkill, xget, xset, gd_0, gd_s]
    refine r2_z rfl rfl (by first | decide | assumption) ?_
    refine ⟨?_, rfl⟩
    first
      | (rw [if_pos ⟨Int32.not_lt.mp h1, Int32.not_lt.mp h5, hs_lg.mp h19⟩]; done)
      | (rw [if_neg (fun q => by first | exact i_nlt q.1 h1 | exact i_nlt q.2.1 h5 | exact hs_lg.mpr q.2.2 h19)]; done)
  · refine xG_run 1 rfl (by repeat' (first | exact trivial | assumption | exact xob_b rfl | exact xal_b rfl | (apply And.intro) | decide)) ?_
    try dsimp only [xsto1, xsto2, xkill, xget, xset, gd_0, gd_s]
    refine xG_br rfl (fun h5 => ?_) (fun h5 => ?_)
    · refine xG_run 1 rfl (by repeat' (first | exact trivial | assumption | exact xob_b rfl | exact xal_b rfl | (apply And.intro) | decide)) ?_
      try dsimp only [xsto1, xsto2, xkill, xget, xset, gd_0, gd_s]
      refine r2_z rfl rfl (by first | decide | assumption) ?_
      refine ⟨?_, rfl⟩
      first
        | (rw [if_pos ⟨Int32.not_lt.mp h1, Int32.not_lt.mp h5, hs_lg.mp h19⟩]; done)
        | (rw [if_neg (fun q => by first | exact i_nlt q.1 h1 | exact i_nlt q.2.1 h5 | exact hs_lg.mpr q.2.2 h19)]; done)
    · refine xG_run 8 rfl (by repeat' (first | exact trivial | assumption | exact xob_b rfl | exact xal_b rfl | (apply And.intro) | decide)) ?_
      try dsimp only [xsto1, xsto2, xkill, xget, xset, gd_0, gd_s]
      refine xG_run 1 rfl (by repeat' (first | exact trivial | assumption | exact xob_b rfl | exact xal_b rfl | (apply And.intro) | decide)) ?_
      try dsimp only [xsto1, xsto2, xkill, xget, xset, gd_0, gd_s]
      refine xG_br rfl (fun h19 => ?_) (fun h19 => ?_)
      · refine xG_run 1 rfl (by repeat' (first | exact trivial | assumption | exact xob_b rfl | exact xal_b rfl | (apply And.intro) | decide)) ?_
        try dsimp only [xsto1, xsto2, xkill, xget, xset, gd_0, gd_s]
        refine r2_z rfl rfl (by first | decide | assumption) ?_
        refine ⟨?_, rfl⟩
        first
          | (rw [if_pos ⟨Int32.not_lt.mp h1, Int32.not_lt.mp h5, hs_lg.mp h19⟩]; done)
          | (rw [if_neg (fun q => by first | exact i_nlt q.1 h1 | exact i_nlt q.2.1 h5 | exact hs_lg.mpr q.2.2 h19)]; done)
      · refine xG_run 2 rfl (by repeat' (first | exact trivial | assumption | exact xob_b rfl | exact xal_b rfl | (apply And.intro) | decide)) ?_
        try dsimp only [xsto1, xsto2, xkill, xget, xset, gd_0, gd_s]
        refine r2_z rfl rfl (by first | decide | assumption) ?_
        refine ⟨?_, rfl⟩
        first
          | (rw [if_pos ⟨Int32.not_lt.mp h1, Int32.not_lt.mp h5, hs_lg.mp h19⟩]; done)
          | (rw [if_neg (fun q => by first | exact i_nlt q.1 h1 | exact i_nlt q.2.1 h5 | exact hs_lg.mpr q.2.2 h19)]; done)
set_option maxRecDepth 4000 in
theorem e_lowestBits {κ : xKK} {d : Nat} {M : xM} {x : Int32} {j : Nat} (hj : j < 8) : xE2 κ mX8_lowestBits d [.ref (142 + 3 * j), .int x] M (fun v M' => v = some (.int (cLB (gI M (142 + 3 * j) 2) x)) ∧ M' = M) := by
  refine xE2_of ci_X8_lowestBits cl_X8_lowestBits cw_X8_lowestBits rfl (L := [some (.ref (142 + 3 * j)), some (.int x)]) rfl ?_
  have hx := xob_sh hj
  refine xG_run 2 rfl (by repeat' (first | exact trivial | assumption | exact xob_b rfl | exact xal_b rfl | (apply And.intro) | decide)) ?_
  try dsimp only [xsto1, xsto2, xkill, xget, xset, gd_0, gd_s]
  refine xG_br rfl (fun h4 => ?_) (fun h4 => ?_)
  · refine xG_run 3 rfl (by repeat' (first | exact trivial | assumption | exact xob_b rfl | exact xal_b rfl | (apply And.intro) | decide)) ?_
    try dsimp only [xsto1, xsto2, xkill, xget, xset, gd_0, gd_s]
    refine xG_br rfl (fun h15 => ?_) (fun h15 => ?_)
    · refine xG_run 1 rfl (by repeat' (first | exact trivial | assumption | exact xob_b rfl | exact xal_b rfl | (apply And.intro) | decide)) ?_
      try dsimp only [xsto1, xsto2, xkill, xget, xset, gd_0, gd_s]
      refine r2_i rfl rfl ?_
      refine ⟨?_, rfl⟩
      unfold cLB
      first
        | (rw [if_pos (Decidable.not_not.mp h4)]; done)
        | (rw [if_neg h4, if_pos (Decidable.not_not.mp h15)]; done)
        | (rw [if_neg h4, if_neg h15]; done)
    · refine xG_run 3 rfl (by repeat' (first | exact trivial | assumption | exact xob_b rfl | exact xal_b rfl | (apply And.intro) | decide)) ?_
      try dsimp only [xsto1, xsto2, xkill, xget, xset, gd_0, gd_s]
      refine r2_i rfl rfl ?_
      refine ⟨?_, rfl⟩
      unfold cLB
      first
        | (rw [if_pos (Decidable.not_not.mp h4)]; done)
        | (rw [if_neg h4, if_pos (Decidable.not_not.mp h15)]; done)
        | (rw [if_neg h4, if_neg h15]; done)
  · refine xG_run 2 rfl (by repeat' (first | exact trivial | assumption | exact xob_b rfl | exact xal_b rfl | (apply And.intro) | decide)) ?_
    try dsimp only [xsto1, xsto2, xkill, xget, xset, gd_0, gd_s]
    refine r2_i rfl rfl ?_
    refine ⟨?_, rfl⟩
    unfold cLB
    first
      | (rw [if_pos (Decidable.not_not.mp h4)]; done)
      | (rw [if_neg h4, if_pos (Decidable.not_not.mp h15)]; done)
      | (rw [if_neg h4, if_neg h15]; done)
set_option maxRecDepth 4000 in
theorem e_x_keep {κ : xKK} {d : Nat} {M : xM} {np : Nat} (hn : gI M 1 1 = nI np) (hn2 : np ≤ 10) {i w k : Int32} (hd : 2 ≤ d) : xE2 κ mX11_keep d [.ref 0, .int i, .int w, .int k] M (fun v M' => (∃ j, j < 8 ∧ i = nI j ∧ w = 0 ∧ v = some (.int 0) ∧ M' = sI M (142 + 3 * j) 0 0) ∨ (∃ j p, j < 8 ∧ i = nI j ∧ w = 1 ∧ p < np ∧ k = nI p ∧ v = some (.int 0) ∧ M' = cpM (sI M (142 + 3 * j) 0 1) (143 + 3 * j) (6 + p) 8) ∨ (¬ ((∃ j, j < 8 ∧ i = nI j) ∧ (w = 0 ∨ w = 1 ∧ ∃ p, p < np ∧ k = nI p)) ∧ v = some (.int (-1)) ∧ M' = M)) := by
  refine xE2_of ci_X11_keep cl_X11_keep cw_X11_keep rfl (L := [some (.ref 0), some (.int i), some (.int w), some (.int k), none, none]) rfl ?_
  refine xG_run 2 rfl (by repeat' (first | exact trivial | assumption | exact xob_b rfl | exact xal_b rfl | (apply And.intro) | decide)) ?_
  try dsimp only [xsto1, xsto2, xkill, xget, xset, gd_0, gd_s]
  refine xG_c2 1 rfl (by repeat' (first | exact trivial | assumption | exact xob_b rfl | exact xal_b rfl | (apply And.intro) | decide)) rfl rfl (by decide) cw_X11_shelfAt (d' := d - 1) e_shelfAt (by omega) ?_
  rintro v M' ⟨hv, hM⟩
  subst M'
  rcases hv with ⟨rfl, hno⟩ | ⟨j, hj, hij, rfl⟩
  · dsimp only [Option.toList, List.cons_append, List.nil_append]
    refine xG_run 4 rfl (by repeat' (first | exact trivial | assumption | exact xob_b rfl | exact xal_b rfl | (apply And.intro) | decide)) ?_
    try dsimp only [xsto1, xsto2, xkill, xget, xset, gd_0, gd_s]
    refine r2_i rfl rfl ?_
    first
      | exact Or.inl ⟨j, hj, hij, Decidable.not_not.mp h13, rfl, rfl⟩
      | exact Or.inl ⟨j, hj, hij, h13, rfl, rfl⟩
      | exact Or.inr (Or.inl ⟨j, p, hj, hij, h18, hp, hip, rfl, rfl⟩)
      | (refine Or.inr (Or.inr ⟨?_, rfl, rfl⟩)
         rintro ⟨⟨j9, a1, a2⟩, a3⟩
         first
           | exact hno (by rw [a2]; exact inI a1 (by omega))
           | (rcases a3 with a3 | ⟨a3, p9, a4, a5⟩
              · first | exact h13 a3 | exact absurd (h18.symm.trans a3) (by decide)
              · first | exact h18 a3 | exact hnp (by rw [a5]; exact inI a4 (by omega))))
  · dsimp only [Option.toList, List.cons_append, List.nil_append]
    have hxj : xob (142 + 3 * j) 8 182 := xob_sh hj
    have hspj : xob (143 + 3 * j) 3 182 := xob_sp hj
    refine xG_run 4 rfl (by repeat' (first | exact trivial | assumption | exact xob_b rfl | exact xal_b rfl | (apply And.intro) | decide)) ?_
    try dsimp only [xsto1, xsto2, xkill, xget, xset, gd_0, gd_s]
    refine xG_br rfl (fun h13 => ?_) (fun h13 => ?_)
    · refine xG_run 1 rfl (by repeat' (first | exact trivial | assumption | exact xob_b rfl | exact xal_b rfl | (apply And.intro) | decide)) ?_
      try dsimp only [xsto1, xsto2, xkill, xget, xset, gd_0, gd_s]
      refine xG_br rfl (fun h24 => ?_) (fun h24 => ?_)
      · first
          | (exfalso; first | exact h24 h13 | exact absurd (h18.symm.trans h24) (by decide) | exact h13 (Decidable.not_not.mp h24))
          | (refine xG_run 3 rfl (by repeat' (first | exact trivial | assumption | exact xob_b rfl | exact xal_b rfl | (apply And.intro) | decide)) ?_
             try dsimp only [xsto1, xsto2, xkill, xget, xset, gd_0, gd_s]
             refine xG_c2 1 rfl (by repeat' (first | exact trivial | assumption | exact xob_b rfl | exact xal_b rfl | (apply And.intro) | decide)) rfl rfl (by decide) cw_X1_pieceAt (d' := d - 1) (e_pieceAt hn hn2) (by omega) ?_
             rintro v M' ⟨hv, hM⟩
             subst M'
             rcases hv with ⟨rfl, hnp⟩ | ⟨p, hp, hip, rfl⟩
             · dsimp only [Option.toList, List.cons_append, List.nil_append]
               refine xG_run 4 rfl (by repeat' (first | exact trivial | assumption | exact xob_b rfl | exact xal_b rfl | (apply And.intro) | decide)) ?_
               try dsimp only [xsto1, xsto2, xkill, xget, xset, gd_0, gd_s]
               refine r2_i rfl rfl ?_
               first
                 | exact Or.inl ⟨j, hj, hij, Decidable.not_not.mp h13, rfl, rfl⟩
                 | exact Or.inl ⟨j, hj, hij, h13, rfl, rfl⟩
                 | exact Or.inr (Or.inl ⟨j, p, hj, hij, h18, hp, hip, rfl, rfl⟩)
                 | (refine Or.inr (Or.inr ⟨?_, rfl, rfl⟩)
                    rintro ⟨⟨j9, a1, a2⟩, a3⟩
                    first
                      | exact hno (by rw [a2]; exact inI a1 (by omega))
                      | (rcases a3 with a3 | ⟨a3, p9, a4, a5⟩
                         · first | exact h13 a3 | exact absurd (h18.symm.trans a3) (by decide)
                         · first | exact h18 a3 | exact hnp (by rw [a5]; exact inI a4 (by omega))))
             · dsimp only [Option.toList, List.cons_append, List.nil_append]
               have hxp : xob (6 + p) 3 182 := xob_p1 (by omega)
               refine xG_run 8 rfl (by repeat' (first | exact trivial | assumption | exact xob_b rfl | exact xal_b rfl | (apply And.intro) | decide)) ?_
               try dsimp only [xsto1, xsto2, xkill, xget, xset, gd_0, gd_s]
               rw [sh_pc hj]
               refine xG_run 1 rfl (by repeat' (first | exact trivial | assumption | exact xob_b rfl | exact xal_b rfl | (apply And.intro) | decide)) ?_
               try dsimp only [xsto1, xsto2, xkill, xget, xset, gd_0, gd_s]
               refine xG_c2 1 rfl (by repeat' (first | exact trivial | assumption | exact xob_b rfl | exact xal_b rfl | (apply And.intro) | decide)) rfl rfl (by decide) cw_X3_takeFrom (d' := d - 1) (e_takeP (xob_sp hj) (xob_p1 (show p < 10 by omega)) (by omega)) (by omega) ?_
               rintro v M' ⟨rfl, hM⟩
               subst M'
               dsimp only [Option.toList, List.cons_append, List.nil_append]
               refine xG_run 1 rfl (by repeat' (first | exact trivial | assumption | exact xob_b rfl | exact xal_b rfl | (apply And.intro) | decide)) ?_
               try dsimp only [xsto1, xsto2, xkill, xget, xset, gd_0, gd_s]
               refine r2_i rfl rfl ?_
               first
                 | exact Or.inl ⟨j, hj, hij, Decidable.not_not.mp h13, rfl, rfl⟩
                 | exact Or.inl ⟨j, hj, hij, h13, rfl, rfl⟩
                 | exact Or.inr (Or.inl ⟨j, p, hj, hij, h18, hp, hip, rfl, rfl⟩)
                 | (refine Or.inr (Or.inr ⟨?_, rfl, rfl⟩)
                    rintro ⟨⟨j9, a1, a2⟩, a3⟩
                    first
                      | exact hno (by rw [a2]; exact inI a1 (by omega))
                      | (rcases a3 with a3 | ⟨a3, p9, a4, a5⟩
                         · first | exact h13 a3 | exact absurd (h18.symm.trans a3) (by decide)
                         · first | exact h18 a3 | exact hnp (by rw [a5]; exact inI a4 (by omega)))))
      · first
          | (exfalso; first | exact h24 h13 | exact absurd (h18.symm.trans h24) (by decide) | exact h13 (Decidable.not_not.mp h24))
          | (refine xG_run 4 rfl (by repeat' (first | exact trivial | assumption | exact xob_b rfl | exact xal_b rfl | (apply And.intro) | decide)) ?_
             try dsimp only [xsto1, xsto2, xkill, xget, xset, gd_0, gd_s]
             refine r2_i rfl rfl ?_
             first
               | exact Or.inl ⟨j, hj, hij, Decidable.not_not.mp h13, rfl, rfl⟩
               | exact Or.inl ⟨j, hj, hij, h13, rfl, rfl⟩
               | exact Or.inr (Or.inl ⟨j, p, hj, hij, h18, hp, hip, rfl, rfl⟩)
               | (refine Or.inr (Or.inr ⟨?_, rfl, rfl⟩)
                  rintro ⟨⟨j9, a1, a2⟩, a3⟩
                  first
                    | exact hno (by rw [a2]; exact inI a1 (by omega))
                    | (rcases a3 with a3 | ⟨a3, p9, a4, a5⟩
                       · first | exact h13 a3 | exact absurd (h18.symm.trans a3) (by decide)
                       · first | exact h18 a3 | exact hnp (by rw [a5]; exact inI a4 (by omega)))))
    · refine xG_run 2 rfl (by repeat' (first | exact trivial | assumption | exact xob_b rfl | exact xal_b rfl | (apply And.intro) | decide)) ?_
      try dsimp only [xsto1, xsto2, xkill, xget, xset, gd_0, gd_s]
      refine xG_br rfl (fun h18 => ?_) (fun h18 => ?_)
      · refine xG_run 1 rfl (by repeat' (first | exact trivial | assumption | exact xob_b rfl | exact xal_b rfl | (apply And.intro) | decide)) ?_
        try dsimp only [xsto1, xsto2, xkill, xget, xset, gd_0, gd_s]
        refine xG_br rfl (fun h24 => ?_) (fun h24 => ?_)
        · first
            | (exfalso; first | exact h24 h13 | exact absurd (h18.symm.trans h24) (by decide) | exact h13 (Decidable.not_not.mp h24))
            | (refine xG_run 3 rfl (by repeat' (first | exact trivial | assumption | exact xob_b rfl | exact xal_b rfl | (apply And.intro) | decide)) ?_
               try dsimp only [xsto1, xsto2, xkill, xget, xset, gd_0, gd_s]
               refine xG_c2 1 rfl (by repeat' (first | exact trivial | assumption | exact xob_b rfl | exact xal_b rfl | (apply And.intro) | decide)) rfl rfl (by decide) cw_X1_pieceAt (d' := d - 1) (e_pieceAt hn hn2) (by omega) ?_
               rintro v M' ⟨hv, hM⟩
               subst M'
               rcases hv with ⟨rfl, hnp⟩ | ⟨p, hp, hip, rfl⟩
               · dsimp only [Option.toList, List.cons_append, List.nil_append]
                 refine xG_run 4 rfl (by repeat' (first | exact trivial | assumption | exact xob_b rfl | exact xal_b rfl | (apply And.intro) | decide)) ?_
                 try dsimp only [xsto1, xsto2, xkill, xget, xset, gd_0, gd_s]
                 refine r2_i rfl rfl ?_
                 first
                   | exact Or.inl ⟨j, hj, hij, Decidable.not_not.mp h13, rfl, rfl⟩
                   | exact Or.inl ⟨j, hj, hij, h13, rfl, rfl⟩
                   | exact Or.inr (Or.inl ⟨j, p, hj, hij, h18, hp, hip, rfl, rfl⟩)
                   | (refine Or.inr (Or.inr ⟨?_, rfl, rfl⟩)
                      rintro ⟨⟨j9, a1, a2⟩, a3⟩
                      first
                        | exact hno (by rw [a2]; exact inI a1 (by omega))
                        | (rcases a3 with a3 | ⟨a3, p9, a4, a5⟩
                           · first | exact h13 a3 | exact absurd (h18.symm.trans a3) (by decide)
                           · first | exact h18 a3 | exact hnp (by rw [a5]; exact inI a4 (by omega))))
               · dsimp only [Option.toList, List.cons_append, List.nil_append]
                 have hxp : xob (6 + p) 3 182 := xob_p1 (by omega)
                 refine xG_run 8 rfl (by repeat' (first | exact trivial | assumption | exact xob_b rfl | exact xal_b rfl | (apply And.intro) | decide)) ?_
                 try dsimp only [xsto1, xsto2, xkill, xget, xset, gd_0, gd_s]
                 rw [sh_pc hj]
                 refine xG_run 1 rfl (by repeat' (first | exact trivial | assumption | exact xob_b rfl | exact xal_b rfl | (apply And.intro) | decide)) ?_
                 try dsimp only [xsto1, xsto2, xkill, xget, xset, gd_0, gd_s]
                 refine xG_c2 1 rfl (by repeat' (first | exact trivial | assumption | exact xob_b rfl | exact xal_b rfl | (apply And.intro) | decide)) rfl rfl (by decide) cw_X3_takeFrom (d' := d - 1) (e_takeP (xob_sp hj) (xob_p1 (show p < 10 by omega)) (by omega)) (by omega) ?_
                 rintro v M' ⟨rfl, hM⟩
                 subst M'
                 dsimp only [Option.toList, List.cons_append, List.nil_append]
                 refine xG_run 1 rfl (by repeat' (first | exact trivial | assumption | exact xob_b rfl | exact xal_b rfl | (apply And.intro) | decide)) ?_
                 try dsimp only [xsto1, xsto2, xkill, xget, xset, gd_0, gd_s]
                 refine r2_i rfl rfl ?_
                 first
                   | exact Or.inl ⟨j, hj, hij, Decidable.not_not.mp h13, rfl, rfl⟩
                   | exact Or.inl ⟨j, hj, hij, h13, rfl, rfl⟩
                   | exact Or.inr (Or.inl ⟨j, p, hj, hij, h18, hp, hip, rfl, rfl⟩)
                   | (refine Or.inr (Or.inr ⟨?_, rfl, rfl⟩)
                      rintro ⟨⟨j9, a1, a2⟩, a3⟩
                      first
                        | exact hno (by rw [a2]; exact inI a1 (by omega))
                        | (rcases a3 with a3 | ⟨a3, p9, a4, a5⟩
                           · first | exact h13 a3 | exact absurd (h18.symm.trans a3) (by decide)
                           · first | exact h18 a3 | exact hnp (by rw [a5]; exact inI a4 (by omega)))))
        · first
            | (exfalso; first | exact h24 h13 | exact absurd (h18.symm.trans h24) (by decide) | exact h13 (Decidable.not_not.mp h24))
            | (refine xG_run 4 rfl (by repeat' (first | exact trivial | assumption | exact xob_b rfl | exact xal_b rfl | (apply And.intro) | decide)) ?_
               try dsimp only [xsto1, xsto2, xkill, xget, xset, gd_0, gd_s]
               refine r2_i rfl rfl ?_
               first
                 | exact Or.inl ⟨j, hj, hij, Decidable.not_not.mp h13, rfl, rfl⟩
                 | exact Or.inl ⟨j, hj, hij, h13, rfl, rfl⟩
                 | exact Or.inr (Or.inl ⟨j, p, hj, hij, h18, hp, hip, rfl, rfl⟩)
                 | (refine Or.inr (Or.inr ⟨?_, rfl, rfl⟩)
                    rintro ⟨⟨j9, a1, a2⟩, a3⟩
                    first
                      | exact hno (by rw [a2]; exact inI a1 (by omega))
                      | (rcases a3 with a3 | ⟨a3, p9, a4, a5⟩
                         · first | exact h13 a3 | exact absurd (h18.symm.trans a3) (by decide)
                         · first | exact h18 a3 | exact hnp (by rw [a5]; exact inI a4 (by omega)))))
      · refine xG_run 1 rfl (by repeat' (first | exact trivial | assumption | exact xob_b rfl | exact xal_b rfl | (apply And.intro) | decide)) ?_
        try dsimp only [xsto1, xsto2, xkill, xget, xset, gd_0, gd_s]
        refine r2_i rfl rfl ?_
        first
          | exact Or.inl ⟨j, hj, hij, Decidable.not_not.mp h13, rfl, rfl⟩
          | exact Or.inl ⟨j, hj, hij, h13, rfl, rfl⟩
          | exact Or.inr (Or.inl ⟨j, p, hj, hij, h18, hp, hip, rfl, rfl⟩)
          | (refine Or.inr (Or.inr ⟨?_, rfl, rfl⟩)
             rintro ⟨⟨j9, a1, a2⟩, a3⟩
             first
               | exact hno (by rw [a2]; exact inI a1 (by omega))
               | (rcases a3 with a3 | ⟨a3, p9, a4, a5⟩
                  · first | exact h13 a3 | exact absurd (h18.symm.trans a3) (by decide)
                  · first | exact h18 a3 | exact hnp (by rw [a5]; exact inI a4 (by omega))))
set_option maxRecDepth 4000 in
theorem e_x_row {κ : xKK} {d : Nat} {M : xM} {i s n : Int32} (hd : 1 ≤ d) : xE2 κ mX11_row d [.ref 0, .int i, .int s, .int n] M (fun v M' => (∃ j, j < 8 ∧ i = nI j ∧ 0 ≤ s ∧ s ≤ 2 ∧ n ≤ 120 ∧ ((0 ≤ n ∧ v = some (.int 0) ∧ M' = lyM M j s n) ∨ (n < 0 ∧ v = some (.int (-14)) ∧ M' = M))) ∨ (¬ ((∃ j, j < 8 ∧ i = nI j) ∧ 0 ≤ s ∧ s ≤ 2 ∧ n ≤ 120) ∧ v = some (.int (-1)) ∧ M' = M)) := by
  refine xE2_of ci_X11_row cl_X11_row cw_X11_row rfl (L := [some (.ref 0), some (.int i), some (.int s), some (.int n), none]) rfl ?_
  refine xG_run 2 rfl (by repeat' (first | exact trivial | assumption | exact xob_b rfl | exact xal_b rfl | (apply And.intro) | decide)) ?_
  try dsimp only [xsto1, xsto2, xkill, xget, xset, gd_0, gd_s]
  refine xG_c2 1 rfl (by repeat' (first | exact trivial | assumption | exact xob_b rfl | exact xal_b rfl | (apply And.intro) | decide)) rfl rfl (by decide) cw_X11_shelfAt (d' := d - 1) e_shelfAt (by omega) ?_
  rintro v M' ⟨hv, hM⟩
  subst M'
  rcases hv with ⟨rfl, hno⟩ | ⟨j, hj, hij, rfl⟩
  · dsimp only [Option.toList, List.cons_append, List.nil_append]
    refine xG_run 4 rfl (by repeat' (first | exact trivial | assumption | exact xob_b rfl | exact xal_b rfl | (apply And.intro) | decide)) ?_
    try dsimp only [xsto1, xsto2, xkill, xget, xset, gd_0, gd_s]
    refine r2_i rfl rfl ?_
    first
      | exact Or.inl ⟨j, hj, hij, Int32.not_lt.mp h13, Int32.not_lt.mp h18, h24, Or.inl ⟨h30, rfl, rfl⟩⟩
      | exact Or.inl ⟨j, hj, hij, Int32.not_lt.mp h13, Int32.not_lt.mp h18, h24, Or.inr ⟨Int32.not_le.mp h30, rfl, rfl⟩⟩
      | (refine Or.inr ⟨?_, rfl, rfl⟩
         rintro ⟨⟨j9, a1, a2⟩, a3, a4, a5⟩
         first
           | exact hno (by rw [a2]; exact inI a1 (by omega))
           | exact i_nlt a3 h13
           | exact i_nlt a4 h18
           | exact h24 a5)
  · dsimp only [Option.toList, List.cons_append, List.nil_append]
    have hxj : xob (142 + 3 * j) 8 182 := xob_sh hj
    have hspj : xob (143 + 3 * j) 3 182 := xob_sp hj
    refine xG_run 4 rfl (by repeat' (first | exact trivial | assumption | exact xob_b rfl | exact xal_b rfl | (apply And.intro) | decide)) ?_
    try dsimp only [xsto1, xsto2, xkill, xget, xset, gd_0, gd_s]
    refine xG_br rfl (fun h13 => ?_) (fun h13 => ?_)
    · refine xG_run 1 rfl (by repeat' (first | exact trivial | assumption | exact xob_b rfl | exact xal_b rfl | (apply And.intro) | decide)) ?_
      try dsimp only [xsto1, xsto2, xkill, xget, xset, gd_0, gd_s]
      refine r2_i rfl rfl ?_
      first
        | exact Or.inl ⟨j, hj, hij, Int32.not_lt.mp h13, Int32.not_lt.mp h18, h24, Or.inl ⟨h30, rfl, rfl⟩⟩
        | exact Or.inl ⟨j, hj, hij, Int32.not_lt.mp h13, Int32.not_lt.mp h18, h24, Or.inr ⟨Int32.not_le.mp h30, rfl, rfl⟩⟩
        | (refine Or.inr ⟨?_, rfl, rfl⟩
           rintro ⟨⟨j9, a1, a2⟩, a3, a4, a5⟩
           first
             | exact hno (by rw [a2]; exact inI a1 (by omega))
             | exact i_nlt a3 h13
             | exact i_nlt a4 h18
             | exact h24 a5)
    · refine xG_run 2 rfl (by repeat' (first | exact trivial | assumption | exact xob_b rfl | exact xal_b rfl | (apply And.intro) | decide)) ?_
      try dsimp only [xsto1, xsto2, xkill, xget, xset, gd_0, gd_s]
      refine xG_br rfl (fun h18 => ?_) (fun h18 => ?_)
      · refine xG_run 1 rfl (by repeat' (first | exact trivial | assumption | exact xob_b rfl | exact xal_b rfl | (apply And.intro) | decide)) ?_
        try dsimp only [xsto1, xsto2, xkill, xget, xset, gd_0, gd_s]
        refine r2_i rfl rfl ?_
        first
          | exact Or.inl ⟨j, hj, hij, Int32.not_lt.mp h13, Int32.not_lt.mp h18, h24, Or.inl ⟨h30, rfl, rfl⟩⟩
          | exact Or.inl ⟨j, hj, hij, Int32.not_lt.mp h13, Int32.not_lt.mp h18, h24, Or.inr ⟨Int32.not_le.mp h30, rfl, rfl⟩⟩
          | (refine Or.inr ⟨?_, rfl, rfl⟩
             rintro ⟨⟨j9, a1, a2⟩, a3, a4, a5⟩
             first
               | exact hno (by rw [a2]; exact inI a1 (by omega))
               | exact i_nlt a3 h13
               | exact i_nlt a4 h18
               | exact h24 a5)
      · refine xG_run 2 rfl (by repeat' (first | exact trivial | assumption | exact xob_b rfl | exact xal_b rfl | (apply And.intro) | decide)) ?_
        try dsimp only [xsto1, xsto2, xkill, xget, xset, gd_0, gd_s]
        refine xG_br rfl (fun h24 => ?_) (fun h24 => ?_)
        · refine xG_run 1 rfl (by repeat' (first | exact trivial | assumption | exact xob_b rfl | exact xal_b rfl | (apply And.intro) | decide)) ?_
          try dsimp only [xsto1, xsto2, xkill, xget, xset, gd_0, gd_s]
          refine xG_br rfl (fun h30 => ?_) (fun h30 => ?_)
          · refine xG_run 3 rfl (by repeat' (first | exact trivial | assumption | exact xob_b rfl | exact xal_b rfl | (apply And.intro) | decide)) ?_
            try dsimp only [xsto1, xsto2, xkill, xget, xset, gd_0, gd_s]
            refine xG_c2 2 rfl (by repeat' (first | exact trivial | assumption | exact xob_b rfl | exact xal_b rfl | (apply And.intro) | decide)) rfl rfl (by decide) cw_X8_layRow (d' := d - 1) (e_layRow hj) (by omega) ?_
            rintro v M' ⟨rfl, hM⟩
            subst M'
            dsimp only [Option.toList, List.cons_append, List.nil_append]
            refine xG_run 1 rfl (by repeat' (first | exact trivial | assumption | exact xob_b rfl | exact xal_b rfl | (apply And.intro) | decide)) ?_
            try dsimp only [xsto1, xsto2, xkill, xget, xset, gd_0, gd_s]
            refine r2_i rfl rfl ?_
            first
              | exact Or.inl ⟨j, hj, hij, Int32.not_lt.mp h13, Int32.not_lt.mp h18, h24, Or.inl ⟨h30, rfl, rfl⟩⟩
              | exact Or.inl ⟨j, hj, hij, Int32.not_lt.mp h13, Int32.not_lt.mp h18, h24, Or.inr ⟨Int32.not_le.mp h30, rfl, rfl⟩⟩
              | (refine Or.inr ⟨?_, rfl, rfl⟩
                 rintro ⟨⟨j9, a1, a2⟩, a3, a4, a5⟩
                 first
                   | exact hno (by rw [a2]; exact inI a1 (by omega))
                   | exact i_nlt a3 h13
                   | exact i_nlt a4 h18
                   | exact h24 a5)
          · refine xG_run 1 rfl (by repeat' (first | exact trivial | assumption | exact xob_b rfl | exact xal_b rfl | (apply And.intro) | decide)) ?_
            try dsimp only [xsto1, xsto2, xkill, xget, xset, gd_0, gd_s]
            refine r2_i rfl rfl ?_
            first
              | exact Or.inl ⟨j, hj, hij, Int32.not_lt.mp h13, Int32.not_lt.mp h18, h24, Or.inl ⟨h30, rfl, rfl⟩⟩
              | exact Or.inl ⟨j, hj, hij, Int32.not_lt.mp h13, Int32.not_lt.mp h18, h24, Or.inr ⟨Int32.not_le.mp h30, rfl, rfl⟩⟩
              | (refine Or.inr ⟨?_, rfl, rfl⟩
                 rintro ⟨⟨j9, a1, a2⟩, a3, a4, a5⟩
                 first
                   | exact hno (by rw [a2]; exact inI a1 (by omega))
                   | exact i_nlt a3 h13
                   | exact i_nlt a4 h18
                   | exact h24 a5)
        · refine xG_run 1 rfl (by repeat' (first | exact trivial | assumption | exact xob_b rfl | exact xal_b rfl | (apply And.intro) | decide)) ?_
          try dsimp only [xsto1, xsto2, xkill, xget, xset, gd_0, gd_s]
          refine r2_i rfl rfl ?_
          first
            | exact Or.inl ⟨j, hj, hij, Int32.not_lt.mp h13, Int32.not_lt.mp h18, h24, Or.inl ⟨h30, rfl, rfl⟩⟩
            | exact Or.inl ⟨j, hj, hij, Int32.not_lt.mp h13, Int32.not_lt.mp h18, h24, Or.inr ⟨Int32.not_le.mp h30, rfl, rfl⟩⟩
            | (refine Or.inr ⟨?_, rfl, rfl⟩
               rintro ⟨⟨j9, a1, a2⟩, a3, a4, a5⟩
               first
                 | exact hno (by rw [a2]; exact inI a1 (by omega))
                 | exact i_nlt a3 h13
                 | exact i_nlt a4 h18
                 | exact h24 a5)
theorem hs_1 {M : xM} {j z : Nat} {a : Int32} (hj : j < 8) (h : hsP M j a 1) (hz : gI M (142 + 3 * j) 3 = nI z) (hz1 : z ≤ 120) : xar (144 + 3 * j) 0 182 a := by
  obtain ⟨h1, -, h3⟩ := h
  obtain ⟨t, ht, rfl⟩ := nI_of (i_nlt h1)
  have e1 : (1 : Int32).toInt = 1 := rfl
  rw [hz, nI_ti ht, nI_ti (by omega), e1] at h3
  exact sh_ar hj (by omega)
set_option maxRecDepth 4000 in
theorem e_x_put {κ : xKK} {d : Nat} {M : xM} (hz : ∀ j, j < 8 → ∃ z, z ≤ 120 ∧ gI M (142 + 3 * j) 3 = nI z) {i a x : Int32} (hd : 1 ≤ d) : xE2 κ mX11_put d [.ref 0, .int i, .int a, .int x] M (fun v M' => (∃ j, j < 8 ∧ i = nI j ∧ ((cRR M j (-1) = 0 ∧ hsP M j a 1 ∧ v = some (.int 0) ∧ M' = sI M (144 + 3 * j) a.toNatClampNeg (cLB (gI M (142 + 3 * j) 2) x)) ∨ (cRR M j (-1) = 0 ∧ ¬ hsP M j a 1 ∧ v = some (.int (-13)) ∧ M' = M) ∨ (¬ cRR M j (-1) = 0 ∧ v = some (.int (cRR M j (-1))) ∧ M' = M))) ∨ (¬ (∃ j, j < 8 ∧ i = nI j) ∧ v = some (.int (-1)) ∧ M' = M)) := by
  refine xE2_of ci_X11_put cl_X11_put cw_X11_put rfl (L := [some (.ref 0), some (.int i), some (.int a), some (.int x), none, none]) rfl ?_
  refine xG_run 2 rfl (by repeat' (first | exact trivial | assumption | exact xob_b rfl | exact xal_b rfl | (apply And.intro) | decide)) ?_
  try dsimp only [xsto1, xsto2, xkill, xget, xset, gd_0, gd_s]
  refine xG_c2 1 rfl (by repeat' (first | exact trivial | assumption | exact xob_b rfl | exact xal_b rfl | (apply And.intro) | decide)) rfl rfl (by decide) cw_X11_shelfAt (d' := d - 1) e_shelfAt (by omega) ?_
  rintro v M' ⟨hv, hM⟩
  subst M'
  rcases hv with ⟨rfl, hno⟩ | ⟨j, hj, hij, rfl⟩
  · dsimp only [Option.toList, List.cons_append, List.nil_append]
    refine xG_run 4 rfl (by repeat' (first | exact trivial | assumption | exact xob_b rfl | exact xal_b rfl | (apply And.intro) | decide)) ?_
    try dsimp only [xsto1, xsto2, xkill, xget, xset, gd_0, gd_s]
    refine xG_c2 2 rfl (by repeat' (first | exact trivial | assumption | exact xob_b rfl | exact xal_b rfl | (apply And.intro) | decide)) rfl rfl (by decide) cw_X11_rowRefusal (d' := d - 1) e_rowRef0 (by omega) ?_
    rintro v M' ⟨rfl, hM⟩
    subst M'
    dsimp only [Option.toList, List.cons_append, List.nil_append]
    refine xG_run 4 rfl (by repeat' (first | exact trivial | assumption | exact xob_b rfl | exact xal_b rfl | (apply And.intro) | decide)) ?_
    try dsimp only [xsto1, xsto2, xkill, xget, xset, gd_0, gd_s]
    refine r2_i rfl rfl ?_
    first
      | exact Or.inr ⟨fun ⟨j9, a1, a2⟩ => hno (by rw [a2]; exact inI a1 (by omega)), rfl, rfl⟩
      | exact Or.inl ⟨j, hj, hij, Or.inl ⟨by first | exact h23 | exact Decidable.not_not.mp h23, b36, rfl, rfl⟩⟩
      | exact Or.inl ⟨j, hj, hij, Or.inr (Or.inl ⟨by first | exact h23 | exact Decidable.not_not.mp h23, b36, rfl, rfl⟩)⟩
      | exact Or.inl ⟨j, hj, hij, Or.inr (Or.inr ⟨h23, rfl, rfl⟩)⟩
  · dsimp only [Option.toList, List.cons_append, List.nil_append]
    have hxj : xob (142 + 3 * j) 8 182 := xob_sh hj
    have hspj : xob (143 + 3 * j) 3 182 := xob_sp hj
    refine xG_run 4 rfl (by repeat' (first | exact trivial | assumption | exact xob_b rfl | exact xal_b rfl | (apply And.intro) | decide)) ?_
    try dsimp only [xsto1, xsto2, xkill, xget, xset, gd_0, gd_s]
    refine xG_c2 2 rfl (by repeat' (first | exact trivial | assumption | exact xob_b rfl | exact xal_b rfl | (apply And.intro) | decide)) rfl rfl (by decide) cw_X11_rowRefusal (d' := d - 1) (e_rowRef1 hj) (by omega) ?_
    rintro v M' ⟨rfl, hM⟩
    subst M'
    dsimp only [Option.toList, List.cons_append, List.nil_append]
    refine xG_run 4 rfl (by repeat' (first | exact trivial | assumption | exact xob_b rfl | exact xal_b rfl | (apply And.intro) | decide)) ?_
    try dsimp only [xsto1, xsto2, xkill, xget, xset, gd_0, gd_s]
    refine xG_br rfl (fun h23 => ?_) (fun h23 => ?_)
    · refine xG_run 3 rfl (by repeat' (first | exact trivial | assumption | exact xob_b rfl | exact xal_b rfl | (apply And.intro) | decide)) ?_
      try dsimp only [xsto1, xsto2, xkill, xget, xset, gd_0, gd_s]
      refine xG_c2 2 rfl (by repeat' (first | exact trivial | assumption | exact xob_b rfl | exact xal_b rfl | (apply And.intro) | decide)) rfl rfl (by decide) cw_X8_hasSpan (d' := d - 1) (e_hasSpan hj) (by omega) ?_
      rintro v M' ⟨rfl, hM⟩
      subst M'
      dsimp only [Option.toList, List.cons_append, List.nil_append]
      refine xG_br rfl (fun h36 => ?_) (fun h36 => ?_)
      · have b36 := z1.mp h36
        obtain ⟨z, hz1, hz2⟩ := hz j hj
        have hs := hs_1 hj b36 hz2 hz1
        refine xG_run 2 rfl (by repeat' (first | exact trivial | assumption | exact xob_b rfl | exact xal_b rfl | (apply And.intro) | decide)) ?_
        try dsimp only [xsto1, xsto2, xkill, xget, xset, gd_0, gd_s]
        rw [sh_el hj]
        refine xG_run 3 rfl (by repeat' (first | exact trivial | assumption | exact xob_b rfl | exact xal_b rfl | (apply And.intro) | decide)) ?_
        try dsimp only [xsto1, xsto2, xkill, xget, xset, gd_0, gd_s]
        refine xG_c2 1 rfl (by repeat' (first | exact trivial | assumption | exact xob_b rfl | exact xal_b rfl | (apply And.intro) | decide)) rfl rfl (by decide) cw_X8_lowestBits (d' := d - 1) (e_lowestBits hj) (by omega) ?_
        rintro v M' ⟨rfl, hM⟩
        subst M'
        dsimp only [Option.toList, List.cons_append, List.nil_append]
        refine xG_run 2 rfl (by repeat' (first | exact trivial | assumption | exact xob_b rfl | exact xal_b rfl | (apply And.intro) | decide)) ?_
        try dsimp only [xsto1, xsto2, xkill, xget, xset, gd_0, gd_s]
        refine r2_i rfl rfl ?_
        first
          | exact Or.inr ⟨fun ⟨j9, a1, a2⟩ => hno (by rw [a2]; exact inI a1 (by omega)), rfl, rfl⟩
          | exact Or.inl ⟨j, hj, hij, Or.inl ⟨by first | exact h23 | exact Decidable.not_not.mp h23, b36, rfl, rfl⟩⟩
          | exact Or.inl ⟨j, hj, hij, Or.inr (Or.inl ⟨by first | exact h23 | exact Decidable.not_not.mp h23, b36, rfl, rfl⟩)⟩
          | exact Or.inl ⟨j, hj, hij, Or.inr (Or.inr ⟨h23, rfl, rfl⟩)⟩
      · have b36 := z0.mp (Decidable.not_not.mp h36)
        refine xG_run 1 rfl (by repeat' (first | exact trivial | assumption | exact xob_b rfl | exact xal_b rfl | (apply And.intro) | decide)) ?_
        try dsimp only [xsto1, xsto2, xkill, xget, xset, gd_0, gd_s]
        refine r2_i rfl rfl ?_
        first
          | exact Or.inr ⟨fun ⟨j9, a1, a2⟩ => hno (by rw [a2]; exact inI a1 (by omega)), rfl, rfl⟩
          | exact Or.inl ⟨j, hj, hij, Or.inl ⟨by first | exact h23 | exact Decidable.not_not.mp h23, b36, rfl, rfl⟩⟩
          | exact Or.inl ⟨j, hj, hij, Or.inr (Or.inl ⟨by first | exact h23 | exact Decidable.not_not.mp h23, b36, rfl, rfl⟩)⟩
          | exact Or.inl ⟨j, hj, hij, Or.inr (Or.inr ⟨h23, rfl, rfl⟩)⟩
    · refine xG_run 1 rfl (by repeat' (first | exact trivial | assumption | exact xob_b rfl | exact xal_b rfl | (apply And.intro) | decide)) ?_
      try dsimp only [xsto1, xsto2, xkill, xget, xset, gd_0, gd_s]
      refine r2_i rfl rfl ?_
      first
        | exact Or.inr ⟨fun ⟨j9, a1, a2⟩ => hno (by rw [a2]; exact inI a1 (by omega)), rfl, rfl⟩
        | exact Or.inl ⟨j, hj, hij, Or.inl ⟨by first | exact h23 | exact Decidable.not_not.mp h23, b36, rfl, rfl⟩⟩
        | exact Or.inl ⟨j, hj, hij, Or.inr (Or.inl ⟨by first | exact h23 | exact Decidable.not_not.mp h23, b36, rfl, rfl⟩)⟩
        | exact Or.inl ⟨j, hj, hij, Or.inr (Or.inr ⟨h23, rfl, rfl⟩)⟩
set_option maxRecDepth 4000 in
theorem e_x_heft {κ : xKK} {d : Nat} {M : xM} {i : Int32} (hd : 2 ≤ d) : xE2 κ mX11_heft d [.ref 0, .int i] M (fun v M' => ((∃ j, j < 8 ∧ i = nI j ∧ v = some (.int (if cPR M j = 0 then cH M (143 + 3 * j) else cPR M j))) ∨ (¬ (∃ j, j < 8 ∧ i = nI j) ∧ v = some (.int (-1)))) ∧ M' = M) := by
  refine xE2_of ci_X11_heft cl_X11_heft cw_X11_heft rfl (L := [some (.ref 0), some (.int i), none, none]) rfl ?_
  refine xG_run 2 rfl (by repeat' (first | exact trivial | assumption | exact xob_b rfl | exact xal_b rfl | (apply And.intro) | decide)) ?_
  try dsimp only [xsto1, xsto2, xkill, xget, xset, gd_0, gd_s]
  refine xG_c2 1 rfl (by repeat' (first | exact trivial | assumption | exact xob_b rfl | exact xal_b rfl | (apply And.intro) | decide)) rfl rfl (by decide) cw_X11_shelfAt (d' := d - 1) e_shelfAt (by omega) ?_
  rintro v M' ⟨hv, hM⟩
  subst M'
  rcases hv with ⟨rfl, hno⟩ | ⟨j, hj, hij, rfl⟩
  · dsimp only [Option.toList, List.cons_append, List.nil_append]
    refine xG_run 3 rfl (by repeat' (first | exact trivial | assumption | exact xob_b rfl | exact xal_b rfl | (apply And.intro) | decide)) ?_
    try dsimp only [xsto1, xsto2, xkill, xget, xset, gd_0, gd_s]
    refine xG_c2 1 rfl (by repeat' (first | exact trivial | assumption | exact xob_b rfl | exact xal_b rfl | (apply And.intro) | decide)) rfl rfl (by decide) cw_X11_pieceRefusal (d' := d - 1) e_pieceRef0 (by omega) ?_
    rintro v M' ⟨rfl, hM⟩
    subst M'
    dsimp only [Option.toList, List.cons_append, List.nil_append]
    refine xG_run 5 rfl (by repeat' (first | exact trivial | assumption | exact xob_b rfl | exact xal_b rfl | (apply And.intro) | decide)) ?_
    try dsimp only [xsto1, xsto2, xkill, xget, xset, gd_0, gd_s]
    refine r2_i rfl rfl ?_
    refine ⟨?_, rfl⟩
    first
      | exact Or.inr ⟨fun ⟨j9, a1, a2⟩ => hno (by rw [a2]; exact inI a1 (by omega)), rfl⟩
      | (refine Or.inl ⟨j, hj, hij, ?_⟩; rw [if_pos (by first | exact h17 | exact Decidable.not_not.mp h17)]; done)
      | (refine Or.inl ⟨j, hj, hij, ?_⟩; rw [if_neg h17]; done)
  · dsimp only [Option.toList, List.cons_append, List.nil_append]
    have hxj : xob (142 + 3 * j) 8 182 := xob_sh hj
    have hspj : xob (143 + 3 * j) 3 182 := xob_sp hj
    refine xG_run 3 rfl (by repeat' (first | exact trivial | assumption | exact xob_b rfl | exact xal_b rfl | (apply And.intro) | decide)) ?_
    try dsimp only [xsto1, xsto2, xkill, xget, xset, gd_0, gd_s]
    refine xG_c2 1 rfl (by repeat' (first | exact trivial | assumption | exact xob_b rfl | exact xal_b rfl | (apply And.intro) | decide)) rfl rfl (by decide) cw_X11_pieceRefusal (d' := d - 1) (e_pieceRef1 hj) (by omega) ?_
    rintro v M' ⟨rfl, hM⟩
    subst M'
    dsimp only [Option.toList, List.cons_append, List.nil_append]
    refine xG_run 4 rfl (by repeat' (first | exact trivial | assumption | exact xob_b rfl | exact xal_b rfl | (apply And.intro) | decide)) ?_
    try dsimp only [xsto1, xsto2, xkill, xget, xset, gd_0, gd_s]
    refine xG_br rfl (fun h17 => ?_) (fun h17 => ?_)
    · refine xG_run 2 rfl (by repeat' (first | exact trivial | assumption | exact xob_b rfl | exact xal_b rfl | (apply And.intro) | decide)) ?_
      try dsimp only [xsto1, xsto2, xkill, xget, xset, gd_0, gd_s]
      rw [sh_pc hj]
      refine xG_c2 0 rfl (by repeat' (first | exact trivial | assumption | exact xob_b rfl | exact xal_b rfl | (apply And.intro) | decide)) rfl rfl (by decide) cw_X3_wholeHeft (d' := d - 1) (e_wholeHeft (xob_sp hj) (by omega)) (by omega) ?_
      rintro v M' ⟨rfl, hM⟩
      subst M'
      dsimp only [Option.toList, List.cons_append, List.nil_append]
      refine r2_i rfl rfl ?_
      refine ⟨?_, rfl⟩
      first
        | exact Or.inr ⟨fun ⟨j9, a1, a2⟩ => hno (by rw [a2]; exact inI a1 (by omega)), rfl⟩
        | (refine Or.inl ⟨j, hj, hij, ?_⟩; rw [if_pos (by first | exact h17 | exact Decidable.not_not.mp h17)]; done)
        | (refine Or.inl ⟨j, hj, hij, ?_⟩; rw [if_neg h17]; done)
    · refine xG_run 2 rfl (by repeat' (first | exact trivial | assumption | exact xob_b rfl | exact xal_b rfl | (apply And.intro) | decide)) ?_
      try dsimp only [xsto1, xsto2, xkill, xget, xset, gd_0, gd_s]
      refine r2_i rfl rfl ?_
      refine ⟨?_, rfl⟩
      first
        | exact Or.inr ⟨fun ⟨j9, a1, a2⟩ => hno (by rw [a2]; exact inI a1 (by omega)), rfl⟩
        | (refine Or.inl ⟨j, hj, hij, ?_⟩; rw [if_pos (by first | exact h17 | exact Decidable.not_not.mp h17)]; done)
        | (refine Or.inl ⟨j, hj, hij, ?_⟩; rw [if_neg h17]; done)
set_option maxRecDepth 4000 in
theorem e_x_toss {κ : xKK} {d : Nat} {M : xM} {i : Int32} (hd : 2 ≤ d) : xE2 κ mX11_toss d [.ref 0, .int i] M (fun v M' => ((∃ j, j < 8 ∧ i = nI j ∧ v = some (.int (if cPR M j = 0 then cT M (143 + 3 * j) else cPR M j))) ∨ (¬ (∃ j, j < 8 ∧ i = nI j) ∧ v = some (.int (-1)))) ∧ M' = M) := by
  refine xE2_of ci_X11_toss cl_X11_toss cw_X11_toss rfl (L := [some (.ref 0), some (.int i), none, none]) rfl ?_
  refine xG_run 2 rfl (by repeat' (first | exact trivial | assumption | exact xob_b rfl | exact xal_b rfl | (apply And.intro) | decide)) ?_
  try dsimp only [xsto1, xsto2, xkill, xget, xset, gd_0, gd_s]
  refine xG_c2 1 rfl (by repeat' (first | exact trivial | assumption | exact xob_b rfl | exact xal_b rfl | (apply And.intro) | decide)) rfl rfl (by decide) cw_X11_shelfAt (d' := d - 1) e_shelfAt (by omega) ?_
  rintro v M' ⟨hv, hM⟩
  subst M'
  rcases hv with ⟨rfl, hno⟩ | ⟨j, hj, hij, rfl⟩
  · dsimp only [Option.toList, List.cons_append, List.nil_append]
    refine xG_run 3 rfl (by repeat' (first | exact trivial | assumption | exact xob_b rfl | exact xal_b rfl | (apply And.intro) | decide)) ?_
    try dsimp only [xsto1, xsto2, xkill, xget, xset, gd_0, gd_s]
    refine xG_c2 1 rfl (by repeat' (first | exact trivial | assumption | exact xob_b rfl | exact xal_b rfl | (apply And.intro) | decide)) rfl rfl (by decide) cw_X11_pieceRefusal (d' := d - 1) e_pieceRef0 (by omega) ?_
    rintro v M' ⟨rfl, hM⟩
    subst M'
    dsimp only [Option.toList, List.cons_append, List.nil_append]
    refine xG_run 5 rfl (by repeat' (first | exact trivial | assumption | exact xob_b rfl | exact xal_b rfl | (apply And.intro) | decide)) ?_
    try dsimp only [xsto1, xsto2, xkill, xget, xset, gd_0, gd_s]
    refine r2_i rfl rfl ?_
    refine ⟨?_, rfl⟩
    first
      | exact Or.inr ⟨fun ⟨j9, a1, a2⟩ => hno (by rw [a2]; exact inI a1 (by omega)), rfl⟩
      | (refine Or.inl ⟨j, hj, hij, ?_⟩; rw [if_pos (by first | exact h17 | exact Decidable.not_not.mp h17)]; done)
      | (refine Or.inl ⟨j, hj, hij, ?_⟩; rw [if_neg h17]; done)
  · dsimp only [Option.toList, List.cons_append, List.nil_append]
    have hxj : xob (142 + 3 * j) 8 182 := xob_sh hj
    have hspj : xob (143 + 3 * j) 3 182 := xob_sp hj
    refine xG_run 3 rfl (by repeat' (first | exact trivial | assumption | exact xob_b rfl | exact xal_b rfl | (apply And.intro) | decide)) ?_
    try dsimp only [xsto1, xsto2, xkill, xget, xset, gd_0, gd_s]
    refine xG_c2 1 rfl (by repeat' (first | exact trivial | assumption | exact xob_b rfl | exact xal_b rfl | (apply And.intro) | decide)) rfl rfl (by decide) cw_X11_pieceRefusal (d' := d - 1) (e_pieceRef1 hj) (by omega) ?_
    rintro v M' ⟨rfl, hM⟩
    subst M'
    dsimp only [Option.toList, List.cons_append, List.nil_append]
    refine xG_run 4 rfl (by repeat' (first | exact trivial | assumption | exact xob_b rfl | exact xal_b rfl | (apply And.intro) | decide)) ?_
    try dsimp only [xsto1, xsto2, xkill, xget, xset, gd_0, gd_s]
    refine xG_br rfl (fun h17 => ?_) (fun h17 => ?_)
    · refine xG_run 2 rfl (by repeat' (first | exact trivial | assumption | exact xob_b rfl | exact xal_b rfl | (apply And.intro) | decide)) ?_
      try dsimp only [xsto1, xsto2, xkill, xget, xset, gd_0, gd_s]
      rw [sh_pc hj]
      refine xG_c2 0 rfl (by repeat' (first | exact trivial | assumption | exact xob_b rfl | exact xal_b rfl | (apply And.intro) | decide)) rfl rfl (by decide) cw_X3_failure (d' := d - 1) (e_failure (xob_sp hj)) (by omega) ?_
      rintro v M' ⟨rfl, hM⟩
      subst M'
      dsimp only [Option.toList, List.cons_append, List.nil_append]
      refine r2_i rfl rfl ?_
      refine ⟨?_, rfl⟩
      first
        | exact Or.inr ⟨fun ⟨j9, a1, a2⟩ => hno (by rw [a2]; exact inI a1 (by omega)), rfl⟩
        | (refine Or.inl ⟨j, hj, hij, ?_⟩; rw [if_pos (by first | exact h17 | exact Decidable.not_not.mp h17)]; done)
        | (refine Or.inl ⟨j, hj, hij, ?_⟩; rw [if_neg h17]; done)
    · refine xG_run 2 rfl (by repeat' (first | exact trivial | assumption | exact xob_b rfl | exact xal_b rfl | (apply And.intro) | decide)) ?_
      try dsimp only [xsto1, xsto2, xkill, xget, xset, gd_0, gd_s]
      refine r2_i rfl rfl ?_
      refine ⟨?_, rfl⟩
      first
        | exact Or.inr ⟨fun ⟨j9, a1, a2⟩ => hno (by rw [a2]; exact inI a1 (by omega)), rfl⟩
        | (refine Or.inl ⟨j, hj, hij, ?_⟩; rw [if_pos (by first | exact h17 | exact Decidable.not_not.mp h17)]; done)
        | (refine Or.inl ⟨j, hj, hij, ?_⟩; rw [if_neg h17]; done)
