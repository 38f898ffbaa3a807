/-! ===== the class does a text ===== -/
def aFr (M M' : xM) (np nr : Nat) : Prop := (∀ x k, ¬ (x = 1 ∧ (k = 1 ∨ k = 3 ∨ k = 4)) → ¬ (6 + np ≤ x ∧ x < 16) → ¬ (16 + nr ≤ x ∧ x < 28) → gI M' x k = gI M x k) ∧ (∀ x k, gJ M' x k = gJ M x k) ∧ ∀ x k, gP M' x k = gP M x k
def rFr (M M' : xM) (np nr : Nat) : Prop := (∀ x k, x ≠ 127 → x ≠ 129 → ¬ (x = 1 ∧ (k = 1 ∨ k = 3 ∨ k = 4)) → ¬ (6 + np ≤ x ∧ x < 16) → ¬ (16 + nr ≤ x ∧ x < 28) → gI M' x k = gI M x k) ∧ (∀ x k, gJ M' x k = gJ M x k) ∧ ∀ x k, gP M' x k = gP M x k
def txL (T : Nat → Int32) (n : Nat) (R0 : xM) : Nat → xM → Nat → Nat → Int32 × xM
  | 0, R, _, k => (nI k, R)
  | f + 1, R, p, k => if p < n then (if acA R (gI R 167 1643).toNatClampNeg (gI R 167 1644).toNatClampNeg (chr T n p) (fun i => (stS T n p 0).2.2.1.getD i 0) then txL T n R0 f (acM R (gI R 167 1643).toNatClampNeg (gI R 167 1644).toNatClampNeg (chr T n p) (fun i => (stS T n p 0).2.2.1.getD i 0) (stS T n p 0).2.2.2) (stS T n p 0).2.1 (k + 1) else (-2000 - nI p, R0)) else (nI k, R)
set_option maxRecDepth 4000 in
theorem e_accepts {κ : xKK} {d : Nat} {M : xM} {np nr ng : Nat} {R : xM} (hm : mR M 1 R 167 np nr ng) {c sd : Int32} {a : Nat → Int32} (hc : gI M 127 6 = c) (hA1 : c = 112 → (∀ k, k < 5 → gI M 129 k = a k) ∧ ∀ k, k < 5 → nr3 0 999 (a k)) (hA2 : c = 114 → ((∀ k, k < 4 → gI M 129 k = a k) ∧ ∀ k, k < 4 → nr3 0 999 (a k)) ∧ gI M 127 8 = sd ∧ (sd = 1 ∨ sd = -1)) (hA3 : gI M 129 0 = a 0 ∧ nr3 0 999 (a 0)) (hd : 2 ≤ d) : xE2 κ mX1_accepts d [.ref 1, .ref 127] M (fun v M' => (acA R np nr c a ∧ v = some (.int 1) ∧ ∃ np2 nr2, np ≤ np2 ∧ nr ≤ nr2 ∧ mR M' 1 (acM R np nr c a sd) 167 np2 nr2 ng ∧ aFr M M' np nr) ∨ (¬ acA R np nr c a ∧ v = some (.int 0) ∧ M' = M)) := by
  refine xE2_of ci_X1_accepts cl_X1_accepts cw_X1_accepts rfl (L := [some (.ref 1), some (.ref 127)]) rfl ?_
  have hn := hm.2.1.1
  have hn2 := hm.1.1
  have hr := hm.2.2.1.1
  have hr2 := hm.1.2.1
  have hcb := cB_eq hm
  have hs0 : xar 129 0 182 0 := xar_n (j := 0) rfl 5 rfl (by omega) (by omega)
  have hh : ∀ h, h < np → nr3 1 99 (gI M (6 + h) 2) := fun h hh => by
    have e := (r_p hm hh).1 1 (by omega)
    have e : gI M (6 + h) 2 = rs R h 1 := e
    rw [e]
    exact (r_pB hm hh).2.1
  refine xG_run 3 rfl (by repeat' (first | exact trivial | assumption | exact xob_b rfl | exact xal_b rfl | (apply And.intro) | decide)) ?_
  try dsimp only [xsto1, xsto2, xkill, xget, xset, gd_0, gd_s]
  try rw [hc]
  refine xG_br rfl (fun h6 => ?_) (fun h6 => ?_)
  · have c1 : ¬ c = 112 := h6
    refine xG_run 3 rfl (by repeat' (first | exact trivial | assumption | exact xob_b rfl | exact xal_b rfl | (apply And.intro) | decide)) ?_
    try dsimp only [xsto1, xsto2, xkill, xget, xset, gd_0, gd_s]
    try rw [hc]
    refine xG_br rfl (fun h24 => ?_) (fun h24 => ?_)
    · have c2 : ¬ c = 114 := h24
      refine xG_run 7 rfl (by repeat' (first | exact trivial | assumption | exact xob_b rfl | exact xal_b rfl | (apply And.intro) | decide)) ?_
      try dsimp only [xsto1, xsto2, xkill, xget, xset, gd_0, gd_s]
      try rw [hc]
      refine r2_z rfl rfl (by first | decide | assumption) ?_
      first
        | (subst hM; exact Or.inr ⟨fun q => hp (by rw [hcb]; exact q.1 c1), rfl, rfl⟩)
        | (subst hM; exact Or.inr ⟨fun q => hp (q.2 c2), rfl, rfl⟩)
        | (refine Or.inl ⟨⟨fun _ => by rw [← hcb]; exact hp, fun q => absurd (c1.symm.trans q) (by decide)⟩, rfl, np + 1, nr, by omega, by omega, ?_, ?_⟩
           · unfold acM; rw [if_pos c1]; rw [hcb] at hp; exact mR_pc hm hp hA1.2
           · exact ⟨fun x k q1 q2 q3 => cpc_o (by have := hp.1; omega), fun _ _ => rfl, fun _ _ => rfl⟩)
        | (refine Or.inl ⟨⟨fun q => absurd q c1, fun _ => hp⟩, rfl, np, nr + 1, by omega, by omega, ?_, ?_⟩
           · unfold acM; rw [if_neg c1, if_pos c2]; exact mR_rp hm hp hh1 hh2 hA2.2 hsd2
           · exact ⟨fun x k q1 q2 q3 => crp_o (by have := hp.2.1; omega), fun _ _ => rfl, fun _ _ => rfl⟩)
        | (refine Or.inl ⟨⟨fun q => absurd q c1, fun q => absurd q c2⟩, rfl, np, nr, by omega, by omega, ?_, ?_⟩
           · unfold acM; rw [if_neg c1, if_neg c2, show gI M 129 (0 : Int32).toNatClampNeg = a 0 from hA3.1]; exact mR_ft hm hA3.2
           · exact ⟨fun x k q1 q2 q3 => gI_ne (by omega), fun _ _ => rfl, fun _ _ => rfl⟩)
    · have c2 : c = 114 := Decidable.not_not.mp h24
      have hA2 := hA2 c2
      obtain ⟨hA2, hsd, hsd2⟩ := hA2
      refine xG_run 5 rfl (by repeat' (first | exact trivial | assumption | exact xob_b rfl | exact xal_b rfl | (apply And.intro) | decide)) ?_
      try dsimp only [xsto1, xsto2, xkill, xget, xset, gd_0, gd_s]
      try rw [hc]
      rw [hsd]
      refine xG_c2 2 rfl (by repeat' (first | exact trivial | assumption | exact xob_b rfl | exact xal_b rfl | (apply And.intro) | decide)) rfl rfl (by decide) cw_X1_addRope (d' := d - 1) (e_addRope hn hn2 hr hr2 hA2.1 hh (by omega)) (by omega) ?_
      rintro v M' (⟨h, hh1, hh2, hp, rfl, rfl⟩ | ⟨hp, rfl, hM⟩)
      · dsimp only [Option.toList, List.cons_append, List.nil_append]
        refine r2_z rfl rfl (by first | decide | assumption) ?_
        first
          | (subst hM; exact Or.inr ⟨fun q => hp (by rw [hcb]; exact q.1 c1), rfl, rfl⟩)
          | (subst hM; exact Or.inr ⟨fun q => hp (q.2 c2), rfl, rfl⟩)
          | (refine Or.inl ⟨⟨fun _ => by rw [← hcb]; exact hp, fun q => absurd (c1.symm.trans q) (by decide)⟩, rfl, np + 1, nr, by omega, by omega, ?_, ?_⟩
             · unfold acM; rw [if_pos c1]; rw [hcb] at hp; exact mR_pc hm hp hA1.2
             · exact ⟨fun x k q1 q2 q3 => cpc_o (by have := hp.1; omega), fun _ _ => rfl, fun _ _ => rfl⟩)
          | (refine Or.inl ⟨⟨fun q => absurd q c1, fun _ => hp⟩, rfl, np, nr + 1, by omega, by omega, ?_, ?_⟩
             · unfold acM; rw [if_neg c1, if_pos c2]; exact mR_rp hm hp hh1 hh2 hA2.2 hsd2
             · exact ⟨fun x k q1 q2 q3 => crp_o (by have := hp.2.1; omega), fun _ _ => rfl, fun _ _ => rfl⟩)
          | (refine Or.inl ⟨⟨fun q => absurd q c1, fun q => absurd q c2⟩, rfl, np, nr, by omega, by omega, ?_, ?_⟩
             · unfold acM; rw [if_neg c1, if_neg c2, show gI M 129 (0 : Int32).toNatClampNeg = a 0 from hA3.1]; exact mR_ft hm hA3.2
             · exact ⟨fun x k q1 q2 q3 => gI_ne (by omega), fun _ _ => rfl, fun _ _ => rfl⟩)
      · dsimp only [Option.toList, List.cons_append, List.nil_append]
        refine r2_z rfl rfl (by first | decide | assumption) ?_
        first
          | (subst hM; exact Or.inr ⟨fun q => hp (by rw [hcb]; exact q.1 c1), rfl, rfl⟩)
          | (subst hM; exact Or.inr ⟨fun q => hp (q.2 c2), rfl, rfl⟩)
          | (refine Or.inl ⟨⟨fun _ => by rw [← hcb]; exact hp, fun q => absurd (c1.symm.trans q) (by decide)⟩, rfl, np + 1, nr, by omega, by omega, ?_, ?_⟩
             · unfold acM; rw [if_pos c1]; rw [hcb] at hp; exact mR_pc hm hp hA1.2
             · exact ⟨fun x k q1 q2 q3 => cpc_o (by have := hp.1; omega), fun _ _ => rfl, fun _ _ => rfl⟩)
          | (refine Or.inl ⟨⟨fun q => absurd q c1, fun _ => hp⟩, rfl, np, nr + 1, by omega, by omega, ?_, ?_⟩
             · unfold acM; rw [if_neg c1, if_pos c2]; exact mR_rp hm hp hh1 hh2 hA2.2 hsd2
             · exact ⟨fun x k q1 q2 q3 => crp_o (by have := hp.2.1; omega), fun _ _ => rfl, fun _ _ => rfl⟩)
          | (refine Or.inl ⟨⟨fun q => absurd q c1, fun q => absurd q c2⟩, rfl, np, nr, by omega, by omega, ?_, ?_⟩
             · unfold acM; rw [if_neg c1, if_neg c2, show gI M 129 (0 : Int32).toNatClampNeg = a 0 from hA3.1]; exact mR_ft hm hA3.2
             · exact ⟨fun x k q1 q2 q3 => gI_ne (by omega), fun _ _ => rfl, fun _ _ => rfl⟩)
  · have c1 : c = 112 := Decidable.not_not.mp h6
    have hA1 := hA1 c1
    refine xG_run 3 rfl (by repeat' (first | exact trivial | assumption | exact xob_b rfl | exact xal_b rfl | (apply And.intro) | decide)) ?_
    try dsimp only [xsto1, xsto2, xkill, xget, xset, gd_0, gd_s]
    try rw [hc]
    refine xG_c2 1 rfl (by repeat' (first | exact trivial | assumption | exact xob_b rfl | exact xal_b rfl | (apply And.intro) | decide)) rfl rfl (by decide) cw_X1_addPiece (d' := d - 1) (e_addPiece hn hn2 hA1.1) (by omega) ?_
    rintro v M' (⟨hp, rfl, rfl⟩ | ⟨hp, rfl, hM⟩)
    · dsimp only [Option.toList, List.cons_append, List.nil_append]
      refine r2_z rfl rfl (by first | decide | assumption) ?_
      first
        | (subst hM; exact Or.inr ⟨fun q => hp (by rw [hcb]; exact q.1 c1), rfl, rfl⟩)
        | (subst hM; exact Or.inr ⟨fun q => hp (q.2 c2), rfl, rfl⟩)
        | (refine Or.inl ⟨⟨fun _ => by rw [← hcb]; exact hp, fun q => absurd (c1.symm.trans q) (by decide)⟩, rfl, np + 1, nr, by omega, by omega, ?_, ?_⟩
           · unfold acM; rw [if_pos c1]; rw [hcb] at hp; exact mR_pc hm hp hA1.2
           · exact ⟨fun x k q1 q2 q3 => cpc_o (by have := hp.1; omega), fun _ _ => rfl, fun _ _ => rfl⟩)
        | (refine Or.inl ⟨⟨fun q => absurd q c1, fun _ => hp⟩, rfl, np, nr + 1, by omega, by omega, ?_, ?_⟩
           · unfold acM; rw [if_neg c1, if_pos c2]; exact mR_rp hm hp hh1 hh2 hA2.2 hsd2
           · exact ⟨fun x k q1 q2 q3 => crp_o (by have := hp.2.1; omega), fun _ _ => rfl, fun _ _ => rfl⟩)
        | (refine Or.inl ⟨⟨fun q => absurd q c1, fun q => absurd q c2⟩, rfl, np, nr, by omega, by omega, ?_, ?_⟩
           · unfold acM; rw [if_neg c1, if_neg c2, show gI M 129 (0 : Int32).toNatClampNeg = a 0 from hA3.1]; exact mR_ft hm hA3.2
           · exact ⟨fun x k q1 q2 q3 => gI_ne (by omega), fun _ _ => rfl, fun _ _ => rfl⟩)
    · dsimp only [Option.toList, List.cons_append, List.nil_append]
      refine r2_z rfl rfl (by first | decide | assumption) ?_
      first
        | (subst hM; exact Or.inr ⟨fun q => hp (by rw [hcb]; exact q.1 c1), rfl, rfl⟩)
        | (subst hM; exact Or.inr ⟨fun q => hp (q.2 c2), rfl, rfl⟩)
        | (refine Or.inl ⟨⟨fun _ => by rw [← hcb]; exact hp, fun q => absurd (c1.symm.trans q) (by decide)⟩, rfl, np + 1, nr, by omega, by omega, ?_, ?_⟩
           · unfold acM; rw [if_pos c1]; rw [hcb] at hp; exact mR_pc hm hp hA1.2
           · exact ⟨fun x k q1 q2 q3 => cpc_o (by have := hp.1; omega), fun _ _ => rfl, fun _ _ => rfl⟩)
        | (refine Or.inl ⟨⟨fun q => absurd q c1, fun _ => hp⟩, rfl, np, nr + 1, by omega, by omega, ?_, ?_⟩
           · unfold acM; rw [if_neg c1, if_pos c2]; exact mR_rp hm hp hh1 hh2 hA2.2 hsd2
           · exact ⟨fun x k q1 q2 q3 => crp_o (by have := hp.2.1; omega), fun _ _ => rfl, fun _ _ => rfl⟩)
        | (refine Or.inl ⟨⟨fun q => absurd q c1, fun q => absurd q c2⟩, rfl, np, nr, by omega, by omega, ?_, ?_⟩
           · unfold acM; rw [if_neg c1, if_neg c2, show gI M 129 (0 : Int32).toNatClampNeg = a 0 from hA3.1]; exact mR_ft hm hA3.2
           · exact ⟨fun x k q1 q2 q3 => gI_ne (by omega), fun _ _ => rfl, fun _ _ => rfl⟩)
section TL
variable {T : Nat → Int32} {n : Nat}
theorem fpR_s {f p : Nat} (h : (fpR T n (f + 1) p).1 = true) : (stS T n p 0).1 = true ∧ ((stS T n p 0).2.1 < n → (fpR T n f (stS T n p 0).2.1).1 = true) := by
  rw [fpR] at h
  by_cases c : (stS T n p 0).1 = false
  · rw [if_pos c] at h; cases h
  · rw [if_neg c] at h
    refine ⟨by cases hh : (stS T n p 0).1 with | true => rfl | false => exact absurd hh c, fun q => ?_⟩
    rw [if_pos q] at h
    exact h
theorem fpR_le : ∀ {f p : Nat}, p ≤ n → (fpR T n f p).2 ≤ n
  | 0, _, h => h
  | f + 1, p, h => by
    have a := stS_le (T := T) (sd := 0) h
    rw [fpR]
    by_cases c : (stS T n p 0).1 = false
    · rw [if_pos c]; exact a
    · rw [if_neg c]
      by_cases c2 : (stS T n p 0).2.1 < n
      · rw [if_pos c2]; exact fpR_le a
      · rw [if_neg c2]; exact Nat.le_refl _
end TL
theorem rFr_C {M M2 R : xM} {np nr ng np2 nr2 : Nat} {R2 : xM} {x y z : Int32} (hm : mR M 1 R 167 np nr ng) (hm2 : mR M2 1 R2 167 np2 nr2 ng) (hF : rFr M M2 np nr) (hx : x = gI M 1 1) (hy : y = gI M 1 3) (hz : z = gI M 1 4) : mR (sI (sI (sI M2 1 1 x) 1 3 y) 1 4 z) 1 R 167 np nr ng := by
  have hn := hm.1
  refine mR_C hm (fun k hk => ?_) (fun k => ?_) (fun k => ?_) (fun p k hp => ?_) (fun q k hq => ?_)
  · rcases hk with rfl | rfl | rfl | rfl | rfl | rfl
    · simp (disch := omega) only [g_ne, g_eq]; exact hx
    · simp (disch := omega) only [g_ne, g_eq]; exact hy
    · simp (disch := omega) only [g_eq]; exact hz
    · simp (disch := omega) only [g_ne]; exact hF.1 _ _ (by omega) (by omega) (by omega) (by omega) (by omega)
    · simp (disch := omega) only [g_ne]; exact hF.1 _ _ (by omega) (by omega) (by omega) (by omega) (by omega)
    · simp (disch := omega) only [g_ne]; exact hF.1 _ _ (by omega) (by omega) (by omega) (by omega) (by omega)
  · simp (disch := omega) only [g_ne]; exact hF.1 _ _ (by omega) (by omega) (by omega) (by omega) (by omega)
  · simp (disch := omega) only [g_ne]; exact hF.1 _ _ (by omega) (by omega) (by omega) (by omega) (by omega)
  · simp (disch := omega) only [g_ne]; exact hF.1 _ _ (by omega) (by omega) (by omega) (by omega) (by omega)
  · simp (disch := omega) only [g_ne]; exact hF.1 _ _ (by omega) (by omega) (by omega) (by omega) (by omega)
/-- what a text may change of the class -/
def tX (M M' : xM) : Prop := (∀ x k, (x < 1 ∨ 28 ≤ x) ∧ x ≠ 127 ∧ x ≠ 129 → gI M' x k = gI M x k) ∧ (∀ x k, gJ M' x k = gJ M x k) ∧ ∀ x k, ¬ (x = 127 ∧ k = 0) → gP M' x k = gP M x k
set_option maxRecDepth 4000 in
theorem e_readAll {κ : xKK} {d : Nat} {M : xM} {np nr ng : Nat} {R : xM} (hm : mR M 1 R 167 np nr ng) {t n : Nat} {T : Nat → Int32} (hC : tC M t n T) (hR : gI M 127 2 = nI 0 ∧ gI M 127 3 = 0) (hfp : (fpR T n (n + 1) 0).1 = true) (hd : 4 ≤ d) : xE2 κ mX1_readAll d [.ref 1, .ref 127] M (fun v M' => v = some (.int (txL T n R (n + 1) R 0 0).1) ∧ (∃ np2 nr2, mR M' 1 (txL T n R (n + 1) R 0 0).2 167 np2 nr2 ng) ∧ tX M M') := by
  refine xE2_of ci_X1_readAll cl_X1_readAll cw_X1_readAll rfl (L := [some (.ref 1), some (.ref 127), none, none, none, none]) rfl ?_
  have hn9 := hC.2.2.1
  have lp : ∀ (f p k : Nat) (M2 R2 : xM) (np2 nr2 : Nat), n - p ≤ f → (p < n → (fpR T n f p).1 = true) → gI M2 127 2 = nI p ∧ gI M2 127 3 = 0 → tC M2 t n T → mR M2 1 R2 167 np2 nr2 ng → np ≤ np2 → nr ≤ nr2 → rFr M M2 np nr → k ≤ p → p ≤ n → txL T n R (n + 1) R 0 0 = txL T n R f R2 p k → xG κ mX1_readAll (d, 0, 0) (19, [some (.ref 1), some (.ref 127), some (.int (gI M 1 1)), some (.int (gI M 1 3)), some (.int (gI M 1 4)), some (.int (nI k))], [], M2, z2) (xRet mX1_readAll false (fun v M' n' => n' = 182 ∧ (v = some (.int (txL T n R (n + 1) R 0 0).1) ∧ (∃ np2 nr2, mR M' 1 (txL T n R (n + 1) R 0 0).2 167 np2 nr2 ng) ∧ tX M M'))) := by
    intro f
    induction f with
    | zero =>
      intro p k M2 R2 np2 nr2 hf hfp hR2 hC2 hm2 hnp hnr hF hk hpn2 hres
      have hpn : ¬ p < n := by omega
      obtain ⟨r1, r2⟩ := hR2
      have hn1 := hC2.2.1
      refine xG_run 2 rfl (by repeat' (first | exact trivial | assumption | exact xob_b rfl | exact xal_b rfl | (apply And.intro) | decide)) ?_
      try dsimp only [xsto1, xsto2, xkill, xget, xset, gd_0, gd_s]
      refine xG_br rfl (fun h23 => ?_) (fun h23 => ?_)
      · refine xG_run 1 rfl (by repeat' (first | exact trivial | assumption | exact xob_b rfl | exact xal_b rfl | (apply And.intro) | decide)) ?_
        try dsimp only [xsto1, xsto2, xkill, xget, xset, gd_0, gd_s]
        refine r2_i rfl rfl ?_
        rw [show txL T n R (n + 1) R 0 0 = (nI k, R2) from by rw [hres]; rw [txL]]
        exact ⟨rfl, ⟨np2, nr2, hm2⟩, ⟨fun x k q => hF.1 x k (by omega) (by omega) (by omega) (by omega) (by omega), hF.2.1, fun x k _ => hF.2.2 x k⟩⟩
      · refine xG_run 1 rfl (by repeat' (first | exact trivial | assumption | exact xob_b rfl | exact xal_b rfl | (apply And.intro) | decide)) ?_
        try dsimp only [xsto1, xsto2, xkill, xget, xset, gd_0, gd_s]
        refine xG_c2 0 rfl (by repeat' (first | exact trivial | assumption | exact xob_b rfl | exact xal_b rfl | (apply And.intro) | decide)) rfl rfl (by decide) cw_X10_hasMore (d' := d - 1) e_hasMore (by omega) ?_
        rintro v M' ⟨rfl, hM⟩
        subst M'
        dsimp only [Option.toList, List.cons_append, List.nil_append]
        refine xG_brT rfl (by rw [if_neg (fun z => by rw [r1, hn1] at z; exact nI_nlt (a := p) (b := n) (by omega) (by omega) z.2)]) ?_
        refine xG_run 1 rfl (by repeat' (first | exact trivial | assumption | exact xob_b rfl | exact xal_b rfl | (apply And.intro) | decide)) ?_
        try dsimp only [xsto1, xsto2, xkill, xget, xset, gd_0, gd_s]
        refine r2_i rfl rfl ?_
        rw [show txL T n R (n + 1) R 0 0 = (nI k, R2) from by rw [hres]; rw [txL]]
        exact ⟨rfl, ⟨np2, nr2, hm2⟩, ⟨fun x k q => hF.1 x k (by omega) (by omega) (by omega) (by omega) (by omega), hF.2.1, fun x k _ => hF.2.2 x k⟩⟩
    | succ f ih =>
      intro p k M2 R2 np2 nr2 hf hfp hR2 hC2 hm2 hnp hnr hF hk hpn2 hres
      obtain ⟨r1, r2⟩ := hR2
      obtain ⟨sd, r5⟩ : ∃ sd, gI M2 127 8 = sd := ⟨_, rfl⟩
      have hn1 := hC2.2.1
      by_cases hpn : p < n
      · skip
        refine xG_run 2 rfl (by repeat' (first | exact trivial | assumption | exact xob_b rfl | exact xal_b rfl | (apply And.intro) | decide)) ?_
        try dsimp only [xsto1, xsto2, xkill, xget, xset, gd_0, gd_s]
        refine xG_brF rfl (nI_ge (a := k) (b := 120) (by omega) (by omega)) ?_
        refine xG_run 1 rfl (by repeat' (first | exact trivial | assumption | exact xob_b rfl | exact xal_b rfl | (apply And.intro) | decide)) ?_
        try dsimp only [xsto1, xsto2, xkill, xget, xset, gd_0, gd_s]
        refine xG_c2 0 rfl (by repeat' (first | exact trivial | assumption | exact xob_b rfl | exact xal_b rfl | (apply And.intro) | decide)) rfl rfl (by decide) cw_X10_hasMore (d' := d - 1) e_hasMore (by omega) ?_
        rintro v M' ⟨rfl, hM⟩
        subst M'
        dsimp only [Option.toList, List.cons_append, List.nil_append]
        refine xG_brF rfl (by rw [if_pos ⟨r2, by rw [r1, hn1]; exact nI_lt hpn (by omega)⟩]; decide) ?_
        refine xG_run 1 rfl (by repeat' (first | exact trivial | assumption | exact xob_b rfl | exact xal_b rfl | (apply And.intro) | decide)) ?_
        try dsimp only [xsto1, xsto2, xkill, xget, xset, gd_0, gd_s]
        refine xG_c2 0 rfl (by repeat' (first | exact trivial | assumption | exact xob_b rfl | exact xal_b rfl | (apply And.intro) | decide)) rfl rfl (by decide) cw_X10_readStatement (d' := d - 1) (e_readStatement (p := p) (sd := sd) hC2 r1 r2 r5 hpn2 (by omega)) (by omega) ?_
        rintro v M3 ⟨rfl, hR3, h53, h63, hG3⟩
        dsimp only [Option.toList, List.cons_append, List.nil_append]
        obtain ⟨ok0, okn⟩ := fpR_s (hfp hpn)
        have hq := stS_q (T := T) (n := n) (p := p) (sd := sd) (sd' := 0)
        have oks : (stS T n p sd).1 = true := hq.1.trans ok0
        have hle := stS_le (T := T) (n := n) (p := p) (sd := sd) hpn2
        have hgt := stS_gt (T := T) (n := n) (p := p) (sd := sd) oks
        obtain ⟨hgl, hln⟩ := stS_ok ok0
        have hm3 : mR M3 1 R2 167 np2 nr2 ng := mR_C hm2 (fun k hk => hG3.1 _ _ (Or.inl (by decide))) (fun k => hG3.1 _ _ (Or.inl (by decide))) (fun k => hG3.1 _ _ (Or.inl (by decide))) (fun p k hp => hG3.1 _ _ (Or.inl (by have := hm2.1.1; omega))) (fun q k hq => hG3.1 _ _ (Or.inl (by have := hm2.1.2.1; omega)))
        have h6c : gI M3 127 6 = chr T n p := by rw [h63, if_pos hpn, chr_lt hpn]
        have hnum : ∀ i, i < (stS T n p 0).2.2.1.length → gI M3 129 i = (stS T n p 0).2.2.1.getD i 0 := fun i hi => by
          have e := hR3.2.2.2.1 i (by rw [hq.2.2]; exact hi)
          rw [e, hq.2.2]
        have hlen1 : 1 ≤ (stS T n p 0).2.2.1.length := by rcases hln with q | q | q <;> omega
        have f0 : (gI R2 167 1643).toNatClampNeg = np2 := by rw [hm2.2.1.2]; exact nI_cl (by have := hm2.1.1; omega)
        have f1 : (gI R2 167 1644).toNatClampNeg = nr2 := by rw [hm2.2.2.1.2]; exact nI_cl (by have := hm2.1.2.1; omega)
        refine xG_run 2 rfl (by repeat' (first | exact trivial | assumption | exact xob_b rfl | exact xal_b rfl | (apply And.intro) | decide)) ?_
        try dsimp only [xsto1, xsto2, xkill, xget, xset, gd_0, gd_s]
        refine xG_c2 1 rfl (by repeat' (first | exact trivial | assumption | exact xob_b rfl | exact xal_b rfl | (apply And.intro) | decide)) rfl rfl (by decide) cw_X1_accepts (d' := d - 1) (e_accepts (sd := (stS T n p 0).2.2.2) (a := fun i => (stS T n p 0).2.2.1.getD i 0) hm3 h6c (fun c1 => hln.elim (fun q => ⟨fun k hk => hnum k (by have := q.2; omega), fun k hk => hgl k (by have := q.2; omega)⟩) (fun q => q.elim (fun q => absurd c1 q.1) (fun q => absurd c1 q.1))) (fun c2 => hln.elim (fun q => absurd (q.1.symm.trans c2) (by decide)) (fun q => q.elim (fun q => ⟨⟨fun k hk => hnum k (by have := q.2.2.1; omega), fun k hk => hgl k (by have := q.2.2.1; omega)⟩, hR3.2.2.2.2.trans (stS_sd oks c2), q.2.2.2⟩) (fun q => absurd c2 q.2.1))) ⟨hnum 0 (by omega), hgl 0 (by omega)⟩ (by omega)) (by omega) ?_
        rintro v M4 (⟨hac, rfl, np3, nr3, l1, l2, hm4, hF4⟩ | ⟨hac, rfl, hM4⟩)
        · dsimp only [Option.toList, List.cons_append, List.nil_append]
          refine xG_br rfl (fun h42 => ?_) (fun h42 => ?_)
          · first
              | (exfalso; first | exact absurd h42 (by decide) | exact h42 (by decide))
              | (refine xG_run 2 rfl (by repeat' (first | exact trivial | assumption | exact xob_b rfl | exact xal_b rfl | (apply And.intro) | decide)) ?_
                 try dsimp only [xsto1, xsto2, xkill, xget, xset, gd_0, gd_s]
                 rw [nI_1]
                 have hok4 : gI M4 127 2 = nI (stS T n p sd).2.1 ∧ gI M4 127 3 = 0 := by
                   obtain ⟨y1, y2, y3, y4, y5⟩ := hR3
                   have g1 : ∀ x k, x = 127 ∨ x = 129 → gI M4 x k = gI M3 x k := fun x k q => hF4.1 x k (by omega) (by omega) (by omega)
                   exact ⟨(g1 _ _ (by omega)).trans y1, (g1 _ _ (by omega)).trans (y2.trans (by rw [oks]; rfl))⟩
                 have hC4 : tC M4 t n T := by
                   obtain ⟨y1, y2, y3, y4, y5, y6, y7⟩ := tC_G hC2 hG3
                   exact ⟨(hF4.2.2 _ _).trans y1, (hF4.1 _ _ (by omega) (by omega) (by omega)).trans y2, y3, fun k hk => (hF4.1 _ _ (by omega) (by omega) (by omega)).trans (y4 k hk), y5, y6, y7⟩
                 have hF5 : rFr M M4 np nr := ⟨fun x k q1 q2 q3 q4 q5 => (hF4.1 x k q3 (by omega) (by omega)).trans ((hG3.1 x k (Or.inl ⟨q1, q2⟩)).trans (hF.1 x k q1 q2 q3 q4 q5)), fun x k => (hF4.2.1 x k).trans ((hG3.2.1 x k).trans (hF.2.1 x k)), fun x k => (hF4.2.2 x k).trans ((hG3.2.2 x k).trans (hF.2.2 x k))⟩
                 refine ih (stS T n p sd).2.1 (k + 1) M4 _ np3 nr3 (by omega) (fun z => by rw [hq.2.1] at z ⊢; exact okn z) hok4 hC4 hm4 (by omega) (by omega) hF5 (by omega) hle ?_
                 rw [hres, txL, if_pos hpn, f0, f1, if_pos hac, hq.2.1])
          · first
              | (exfalso; first | exact absurd h42 (by decide) | exact h42 (by decide))
              | (refine xG_run 8 rfl (by repeat' (first | exact trivial | assumption | exact xob_b rfl | exact xal_b rfl | (apply And.intro) | decide)) ?_
                 try dsimp only [xsto1, xsto2, xkill, xget, xset, gd_0, gd_s]
                 refine xG_run 5 rfl (by repeat' (first | exact trivial | assumption | exact xob_b rfl | exact xal_b rfl | (apply And.intro) | decide)) ?_
                 try dsimp only [xsto1, xsto2, xkill, xget, xset, gd_0, gd_s]
                 refine r2_i rfl rfl ?_
                 subst hM4
                 rw [show txL T n R (n + 1) R 0 0 = (-2000 - nI p, R) from by rw [hres, txL, if_pos hpn, f0, f1, if_neg hac]]
                 have hF3 : rFr M M4 np nr := ⟨fun x k q1 q2 q3 q4 q5 => (hG3.1 x k (Or.inl ⟨q1, q2⟩)).trans (hF.1 x k q1 q2 q3 q4 q5), fun x k => (hG3.2.1 x k).trans (hF.2.1 x k), fun x k => (hG3.2.2 x k).trans (hF.2.2 x k)⟩
                 refine ⟨?_, ⟨np, nr, rFr_C hm hm3 hF3 rfl rfl rfl⟩, ⟨fun x k q => ?_, hF3.2.1, fun x k _ => hF3.2.2 x k⟩⟩
                 · rw [show gI (sI (sI (sI M4 1 1 (gI M 1 1)) 1 3 (gI M 1 3)) 1 4 (gI M 1 4)) 127 5 = nI p from by simp (disch := omega) only [g_ne]; exact h53]
                 · simp (disch := omega) only [g_ne]; exact hF3.1 x k (by omega) (by omega) (by omega) (by omega) (by omega))
        · dsimp only [Option.toList, List.cons_append, List.nil_append]
          refine xG_br rfl (fun h42 => ?_) (fun h42 => ?_)
          · first
              | (exfalso; first | exact absurd h42 (by decide) | exact h42 (by decide))
              | (refine xG_run 2 rfl (by repeat' (first | exact trivial | assumption | exact xob_b rfl | exact xal_b rfl | (apply And.intro) | decide)) ?_
                 try dsimp only [xsto1, xsto2, xkill, xget, xset, gd_0, gd_s]
                 rw [nI_1]
                 have hok4 : gI M4 127 2 = nI (stS T n p sd).2.1 ∧ gI M4 127 3 = 0 := by
                   obtain ⟨y1, y2, y3, y4, y5⟩ := hR3
                   have g1 : ∀ x k, x = 127 ∨ x = 129 → gI M4 x k = gI M3 x k := fun x k q => hF4.1 x k (by omega) (by omega) (by omega)
                   exact ⟨(g1 _ _ (by omega)).trans y1, (g1 _ _ (by omega)).trans (y2.trans (by rw [oks]; rfl))⟩
                 have hC4 : tC M4 t n T := by
                   obtain ⟨y1, y2, y3, y4, y5, y6, y7⟩ := tC_G hC2 hG3
                   exact ⟨(hF4.2.2 _ _).trans y1, (hF4.1 _ _ (by omega) (by omega) (by omega)).trans y2, y3, fun k hk => (hF4.1 _ _ (by omega) (by omega) (by omega)).trans (y4 k hk), y5, y6, y7⟩
                 have hF5 : rFr M M4 np nr := ⟨fun x k q1 q2 q3 q4 q5 => (hF4.1 x k q3 (by omega) (by omega)).trans ((hG3.1 x k (Or.inl ⟨q1, q2⟩)).trans (hF.1 x k q1 q2 q3 q4 q5)), fun x k => (hF4.2.1 x k).trans ((hG3.2.1 x k).trans (hF.2.1 x k)), fun x k => (hF4.2.2 x k).trans ((hG3.2.2 x k).trans (hF.2.2 x k))⟩
                 refine ih (stS T n p sd).2.1 (k + 1) M4 _ np3 nr3 (by omega) (fun z => by rw [hq.2.1] at z ⊢; exact okn z) hok4 hC4 hm4 (by omega) (by omega) hF5 (by omega) hle ?_
                 rw [hres, txL, if_pos hpn, f0, f1, if_pos hac, hq.2.1])
          · first
              | (exfalso; first | exact absurd h42 (by decide) | exact h42 (by decide))
              | (refine xG_run 8 rfl (by repeat' (first | exact trivial | assumption | exact xob_b rfl | exact xal_b rfl | (apply And.intro) | decide)) ?_
                 try dsimp only [xsto1, xsto2, xkill, xget, xset, gd_0, gd_s]
                 refine xG_run 5 rfl (by repeat' (first | exact trivial | assumption | exact xob_b rfl | exact xal_b rfl | (apply And.intro) | decide)) ?_
                 try dsimp only [xsto1, xsto2, xkill, xget, xset, gd_0, gd_s]
                 refine r2_i rfl rfl ?_
                 subst hM4
                 rw [show txL T n R (n + 1) R 0 0 = (-2000 - nI p, R) from by rw [hres, txL, if_pos hpn, f0, f1, if_neg hac]]
                 have hF3 : rFr M M4 np nr := ⟨fun x k q1 q2 q3 q4 q5 => (hG3.1 x k (Or.inl ⟨q1, q2⟩)).trans (hF.1 x k q1 q2 q3 q4 q5), fun x k => (hG3.2.1 x k).trans (hF.2.1 x k), fun x k => (hG3.2.2 x k).trans (hF.2.2 x k)⟩
                 refine ⟨?_, ⟨np, nr, rFr_C hm hm3 hF3 rfl rfl rfl⟩, ⟨fun x k q => ?_, hF3.2.1, fun x k _ => hF3.2.2 x k⟩⟩
                 · rw [show gI (sI (sI (sI M4 1 1 (gI M 1 1)) 1 3 (gI M 1 3)) 1 4 (gI M 1 4)) 127 5 = nI p from by simp (disch := omega) only [g_ne]; exact h53]
                 · simp (disch := omega) only [g_ne]; exact hF3.1 x k (by omega) (by omega) (by omega) (by omega) (by omega))
      · skip
        refine xG_run 2 rfl (by repeat' (first | exact trivial | assumption | exact xob_b rfl | exact xal_b rfl | (apply And.intro) | decide)) ?_
        try dsimp only [xsto1, xsto2, xkill, xget, xset, gd_0, gd_s]
        refine xG_br rfl (fun h23 => ?_) (fun h23 => ?_)
        · refine xG_run 1 rfl (by repeat' (first | exact trivial | assumption | exact xob_b rfl | exact xal_b rfl | (apply And.intro) | decide)) ?_
          try dsimp only [xsto1, xsto2, xkill, xget, xset, gd_0, gd_s]
          refine r2_i rfl rfl ?_
          rw [show txL T n R (n + 1) R 0 0 = (nI k, R2) from by rw [hres]; rw [txL, if_neg hpn]]
          exact ⟨rfl, ⟨np2, nr2, hm2⟩, ⟨fun x k q => hF.1 x k (by omega) (by omega) (by omega) (by omega) (by omega), hF.2.1, fun x k _ => hF.2.2 x k⟩⟩
        · refine xG_run 1 rfl (by repeat' (first | exact trivial | assumption | exact xob_b rfl | exact xal_b rfl | (apply And.intro) | decide)) ?_
          try dsimp only [xsto1, xsto2, xkill, xget, xset, gd_0, gd_s]
          refine xG_c2 0 rfl (by repeat' (first | exact trivial | assumption | exact xob_b rfl | exact xal_b rfl | (apply And.intro) | decide)) rfl rfl (by decide) cw_X10_hasMore (d' := d - 1) e_hasMore (by omega) ?_
          rintro v M' ⟨rfl, hM⟩
          subst M'
          dsimp only [Option.toList, List.cons_append, List.nil_append]
          refine xG_brT rfl (by rw [if_neg (fun z => by rw [r1, hn1] at z; exact nI_nlt (a := p) (b := n) (by omega) (by omega) z.2)]) ?_
          refine xG_run 1 rfl (by repeat' (first | exact trivial | assumption | exact xob_b rfl | exact xal_b rfl | (apply And.intro) | decide)) ?_
          try dsimp only [xsto1, xsto2, xkill, xget, xset, gd_0, gd_s]
          refine r2_i rfl rfl ?_
          rw [show txL T n R (n + 1) R 0 0 = (nI k, R2) from by rw [hres]; rw [txL, if_neg hpn]]
          exact ⟨rfl, ⟨np2, nr2, hm2⟩, ⟨fun x k q => hF.1 x k (by omega) (by omega) (by omega) (by omega) (by omega), hF.2.1, fun x k _ => hF.2.2 x k⟩⟩
  refine xG_run 8 rfl (by repeat' (first | exact trivial | assumption | exact xob_b rfl | exact xal_b rfl | (apply And.intro) | decide)) ?_
  try dsimp only [xsto1, xsto2, xkill, xget, xset, gd_0, gd_s]
  refine xG_run 3 rfl (by repeat' (first | exact trivial | assumption | exact xob_b rfl | exact xal_b rfl | (apply And.intro) | decide)) ?_
  try dsimp only [xsto1, xsto2, xkill, xget, xset, gd_0, gd_s]
  exact lp (n + 1) 0 0 M R np nr (by omega) (fun _ => hfp) hR hC hm (Nat.le_refl _) (Nat.le_refl _) ⟨fun _ _ _ _ _ _ _ => rfl, fun _ _ => rfl, fun _ _ => rfl⟩ (Nat.le_refl _) (Nat.zero_le _) rfl
