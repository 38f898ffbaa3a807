/-! ===== text, the class's call ===== -/
theorem op_C {M M2 : xM} {t z : Nat} {T : Nat → Int32} (hz : z ≤ 120) (hsh : shp[t]? = some (.inr (0, 120))) (h1 : 129 < t) (h2 : t < 182) (hT : ∀ k, k < z → gI M2 t k = T k) : tC (opM M2 t z) t z T := by
  refine ⟨rfl, ?_, hz, fun k hk => ?_, hsh, h1, h2⟩
  · unfold opM; simp (disch := omega) only [g_ne, g_eq]
  · unfold opM
    simp (disch := omega) only [g_ne]
    exact hT k hk
theorem op_1 {M2 : xM} {t z : Nat} : gI (opM M2 t z) 127 2 = nI 0 ∧ gI (opM M2 t z) 127 3 = 0 := by
  unfold opM
  constructor
  · simp (disch := omega) only [g_ne, g_eq]; rfl
  · simp (disch := omega) only [g_eq]
theorem op_X {M2 : xM} {t z : Nat} : tX M2 (opM M2 t z) := ⟨fun x k q => by unfold opM; simp (disch := omega) only [g_ne]; rfl, fun _ _ => rfl, fun x k q => by
  show gP (sP M2 127 0 (some t)) x k = _
  exact gP_ne (by omega)⟩
theorem tX_t {M M' M2 : xM} (h : tX M M') (h2 : tX M' M2) : tX M M2 := ⟨fun x k q => (h2.1 x k q).trans (h.1 x k q), fun x k => (h2.2.1 x k).trans (h.2.1 x k), fun x k q => (h2.2.2 x k q).trans (h.2.2 x k q)⟩
theorem tG_X {M M' : xM} (h : tG M M') : tX M M' := ⟨fun x k q => h.1 x k (Or.inl q.2), h.2.1, fun x k _ => h.2.2 x k⟩
theorem mR_o {M M' R : xM} {np nr ng : Nat} (hm : mR M 1 R 167 np nr ng) (h : ∀ x k, 1 ≤ x → x < 28 → gI M' x k = gI M x k) : mR M' 1 R 167 np nr ng :=
  mR_C hm (fun k _ => h _ _ (by omega) (by omega)) (fun k => h _ _ (by omega) (by omega)) (fun k => h _ _ (by omega) (by omega)) (fun p k hp => h _ _ (by omega) (by have := hm.1.1; omega)) (fun q k hq => h _ _ (by omega) (by have := hm.1.2.1; omega))
theorem op_o {M2 : xM} {t z x k : Nat} (h : x < 127) : gI (opM M2 t z) x k = gI M2 x k := by unfold opM; simp (disch := omega) only [g_ne]; rfl
theorem fp_4 {T : Nat → Int32} {n : Nat} (hn : n ≤ 120) : ((if (fpR T n (n + 1) 0).1 = true then (-4 : Int32) else nI (fpR T n (n + 1) 0).2) = -4) ↔ (fpR T n (n + 1) 0).1 = true := by
  by_cases c : (fpR T n (n + 1) 0).1 = true
  · rw [if_pos c]; exact ⟨fun _ => c, fun _ => rfl⟩
  · rw [if_neg c]
    have h := fpR_le (T := T) (n := n) (f := n + 1) (p := 0) (Nat.zero_le n)
    refine ⟨fun q => ?_, fun q => absurd q c⟩
    have e := congrArg Int32.toInt q
    rw [nI_ti (by omega), show (-4 : Int32).toInt = -4 by decide] at e
    omega
set_option maxRecDepth 4000 in
theorem e_x_text {κ : xKK} {d : Nat} {M : xM} {np nr ng : Nat} {R : xM} (hm : mR M 1 R 167 np nr ng) (hz : ∀ j, j < 8 → ∃ z, z ≤ 120 ∧ gI M (142 + 3 * j) 3 = nI z) {i : Int32} (hd : 5 ≤ d) : xE2 κ mX11_text d [.ref 0, .int i] M (fun v M' => (∃ j z, j < 8 ∧ i = nI j ∧ gI M (142 + 3 * j) 3 = nI z ∧ z ≤ 120 ∧ ((¬ cRR M j 0 = 0 ∧ v = some (.int (cRR M j 0)) ∧ M' = M) ∨ (cRR M j 0 = 0 ∧ (fpR (gI M (144 + 3 * j)) z (z + 1) 0).1 = false ∧ v = some (.int (-1000 - nI (fpR (gI M (144 + 3 * j)) z (z + 1) 0).2)) ∧ mR M' 1 R 167 np nr ng ∧ tX M M') ∨ (cRR M j 0 = 0 ∧ (fpR (gI M (144 + 3 * j)) z (z + 1) 0).1 = true ∧ v = some (.int (txL (gI M (144 + 3 * j)) z R (z + 1) R 0 0).1) ∧ (∃ np2 nr2, mR M' 1 (txL (gI M (144 + 3 * j)) z R (z + 1) R 0 0).2 167 np2 nr2 ng) ∧ tX M M'))) ∨ (¬ (∃ j, j < 8 ∧ i = nI j) ∧ v = some (.int (-1)) ∧ M' = M)) := by
  refine xE2_of ci_X11_text cl_X11_text cw_X11_text rfl (L := [some (.ref 0), some (.int i), none, none, none]) rfl ?_
  refine xG_run 2 rfl (by repeat' (first | exact trivial | assumption | exact xob_b rfl | exact xal_b rfl | (apply And.intro) | decide)) ?_
  try dsimp only [xsto1, xsto2, xkill, xget, xset, gd_0, gd_s]
  refine xG_c2 1 rfl (by repeat' (first | exact trivial | assumption | exact xob_b rfl | exact xal_b rfl | (apply And.intro) | decide)) rfl rfl (by decide) cw_X11_shelfAt (d' := d - 1) e_shelfAt (by omega) ?_
  rintro v M' ⟨hv, hM⟩
  subst M'
  rcases hv with ⟨rfl, hno⟩ | ⟨j, hj, hij, rfl⟩
  · dsimp only [Option.toList, List.cons_append, List.nil_append]
    refine xG_run 4 rfl (by repeat' (first | exact trivial | assumption | exact xob_b rfl | exact xal_b rfl | (apply And.intro) | decide)) ?_
    try dsimp only [xsto1, xsto2, xkill, xget, xset, gd_0, gd_s]
    refine xG_c2 2 rfl (by repeat' (first | exact trivial | assumption | exact xob_b rfl | exact xal_b rfl | (apply And.intro) | decide)) rfl rfl (by decide) cw_X11_rowRefusal (d' := d - 1) e_rowRef0 (by omega) ?_
    rintro v M' ⟨rfl, hM⟩
    subst M'
    dsimp only [Option.toList, List.cons_append, List.nil_append]
    refine xG_run 4 rfl (by repeat' (first | exact trivial | assumption | exact xob_b rfl | exact xal_b rfl | (apply And.intro) | decide)) ?_
    try dsimp only [xsto1, xsto2, xkill, xget, xset, gd_0, gd_s]
    refine r2_i rfl rfl ?_
    first
      | exact Or.inr ⟨fun ⟨j9, a1, a2⟩ => hno (by rw [a2]; exact inI a1 (by omega)), rfl, rfl⟩
      | exact Or.inl ⟨j, z, hj, hij, hz2, hz1, Or.inl ⟨h18, rfl, rfl⟩⟩
      | (refine Or.inl ⟨j, z, hj, hij, hz2, hz1, Or.inr (Or.inl ⟨by first | exact h18 | exact Decidable.not_not.mp h18, Bool.not_eq_true _ ▸ hfp, ?_, ?_, ?_⟩)⟩
         · rw [if_neg hfp]
         · exact mR_o hm (fun x k q1 q2 => (hG2.1 x k (Or.inl (by omega))).trans (op_o (by omega)))
         · exact tX_t op_X (tG_X hG2))
      | (refine Or.inl ⟨j, z, hj, hij, hz2, hz1, Or.inr (Or.inr ⟨by first | exact h18 | exact Decidable.not_not.mp h18, hfp, rfl, hm5, ?_⟩)⟩
         exact tX_t op_X (tX_t (tG_X hG2) (tX_t op_X hX5)))
  · dsimp only [Option.toList, List.cons_append, List.nil_append]
    have hxj : xob (142 + 3 * j) 8 182 := xob_sh hj
    have hspj : xob (143 + 3 * j) 3 182 := xob_sp hj
    obtain ⟨z, hz1, hz2⟩ := hz j hj
    refine xG_run 4 rfl (by repeat' (first | exact trivial | assumption | exact xob_b rfl | exact xal_b rfl | (apply And.intro) | decide)) ?_
    try dsimp only [xsto1, xsto2, xkill, xget, xset, gd_0, gd_s]
    refine xG_c2 2 rfl (by repeat' (first | exact trivial | assumption | exact xob_b rfl | exact xal_b rfl | (apply And.intro) | decide)) rfl rfl (by decide) cw_X11_rowRefusal (d' := d - 1) (e_rowRef1 hj) (by omega) ?_
    rintro v M' ⟨rfl, hM⟩
    subst M'
    dsimp only [Option.toList, List.cons_append, List.nil_append]
    refine xG_run 4 rfl (by repeat' (first | exact trivial | assumption | exact xob_b rfl | exact xal_b rfl | (apply And.intro) | decide)) ?_
    try dsimp only [xsto1, xsto2, xkill, xget, xset, gd_0, gd_s]
    refine xG_br rfl (fun h18 => ?_) (fun h18 => ?_)
    · first
        | (exfalso; first | exact absurd h18 (by decide) | exact h18 (by decide))
        | (refine xG_run 4 rfl (by repeat' (first | exact trivial | assumption | exact xob_b rfl | exact xal_b rfl | (apply And.intro) | decide)) ?_
           try dsimp only [xsto1, xsto2, xkill, xget, xset, gd_0, gd_s]
           rw [sh_el hj]
           refine xG_run 2 rfl (by repeat' (first | exact trivial | assumption | exact xob_b rfl | exact xal_b rfl | (apply And.intro) | decide)) ?_
           try dsimp only [xsto1, xsto2, xkill, xget, xset, gd_0, gd_s]
           rw [hz2]
           refine xG_c2 2 rfl (by repeat' (first | exact trivial | assumption | exact xob_b rfl | exact xal_b rfl | (apply And.intro) | decide)) rfl rfl (by decide) cw_X10_open (d' := d - 1) (e_open (sh_sp j hj) (by omega) hz1) (by omega) ?_
           rintro v M' ⟨rfl, hM⟩
           subst M'
           dsimp only [Option.toList, List.cons_append, List.nil_append]
           refine xG_run 2 rfl (by repeat' (first | exact trivial | assumption | exact xob_b rfl | exact xal_b rfl | (apply And.intro) | decide)) ?_
           try dsimp only [xsto1, xsto2, xkill, xget, xset, gd_0, gd_s]
           have hC1 := op_C (M := M) (M2 := M) (T := gI M (144 + 3 * j)) hz1 (sh_sp j hj) (by omega) (by omega) (fun _ _ => rfl)
           refine xG_c2 0 rfl (by repeat' (first | exact trivial | assumption | exact xob_b rfl | exact xal_b rfl | (apply And.intro) | decide)) rfl rfl (by decide) cw_X10_firstFault (d' := d - 1) (e_firstFault hC1 op_1.1 op_1.2 (by omega)) (by omega) ?_
           rintro v M2 ⟨rfl, hG2⟩
           dsimp only [Option.toList, List.cons_append, List.nil_append]
           refine xG_run 3 rfl (by repeat' (first | exact trivial | assumption | exact xob_b rfl | exact xal_b rfl | (apply And.intro) | decide)) ?_
           try dsimp only [xsto1, xsto2, xkill, xget, xset, gd_0, gd_s]
           refine xG_br rfl (fun h51 => ?_) (fun h51 => ?_)
           · have hfp := (fp_4 hz1).mp h51
             have h3z : gI M2 (142 + 3 * j) 3 = nI z := (hG2.1 _ _ (Or.inl (by omega))).trans (Eq.trans (by unfold opM; simp (disch := omega) only [g_ne]; rfl) hz2)
             have h4t : ∀ k, gI M2 (144 + 3 * j) k = gI M (144 + 3 * j) k := fun k => (hG2.1 _ _ (Or.inl (by omega))).trans (by unfold opM; simp (disch := omega) only [g_ne]; rfl)
             refine xG_run 4 rfl (by repeat' (first | exact trivial | assumption | exact xob_b rfl | exact xal_b rfl | (apply And.intro) | decide)) ?_
             try dsimp only [xsto1, xsto2, xkill, xget, xset, gd_0, gd_s]
             rw [sh_el hj]
             refine xG_run 2 rfl (by repeat' (first | exact trivial | assumption | exact xob_b rfl | exact xal_b rfl | (apply And.intro) | decide)) ?_
             try dsimp only [xsto1, xsto2, xkill, xget, xset, gd_0, gd_s]
             rw [show gI M2 (142 + 3 * j) 3 = nI z from h3z]
             refine xG_c2 2 rfl (by repeat' (first | exact trivial | assumption | exact xob_b rfl | exact xal_b rfl | (apply And.intro) | decide)) rfl rfl (by decide) cw_X10_open (d' := d - 1) (e_open (sh_sp j hj) (by omega) hz1) (by omega) ?_
             rintro v M' ⟨rfl, hM⟩
             subst M'
             dsimp only [Option.toList, List.cons_append, List.nil_append]
             refine xG_run 4 rfl (by repeat' (first | exact trivial | assumption | exact xob_b rfl | exact xal_b rfl | (apply And.intro) | decide)) ?_
             try dsimp only [xsto1, xsto2, xkill, xget, xset, gd_0, gd_s]
             have hC4 := op_C (M := M) (M2 := M2) (T := gI M (144 + 3 * j)) hz1 (sh_sp j hj) (by omega) (by omega) (fun k _ => h4t k)
             have hm4 : mR (opM M2 (144 + 3 * j) z) 1 R 167 np nr ng := mR_o hm (fun x k q1 q2 => (op_o (by omega)).trans ((hG2.1 x k (Or.inl (by omega))).trans (op_o (by omega))))
             refine xG_c2 1 rfl (by repeat' (first | exact trivial | assumption | exact xob_b rfl | exact xal_b rfl | (apply And.intro) | decide)) rfl rfl (by decide) cw_X1_readAll (d' := d - 1) (e_readAll hm4 hC4 op_1 hfp (by omega)) (by omega) ?_
             rintro v M5 ⟨rfl, hm5, hX5⟩
             dsimp only [Option.toList, List.cons_append, List.nil_append]
             refine r2_i rfl rfl ?_
             first
               | exact Or.inr ⟨fun ⟨j9, a1, a2⟩ => hno (by rw [a2]; exact inI a1 (by omega)), rfl, rfl⟩
               | exact Or.inl ⟨j, z, hj, hij, hz2, hz1, Or.inl ⟨h18, rfl, rfl⟩⟩
               | (refine Or.inl ⟨j, z, hj, hij, hz2, hz1, Or.inr (Or.inl ⟨by first | exact h18 | exact Decidable.not_not.mp h18, Bool.not_eq_true _ ▸ hfp, ?_, ?_, ?_⟩)⟩
                  · rw [if_neg hfp]
                  · exact mR_o hm (fun x k q1 q2 => (hG2.1 x k (Or.inl (by omega))).trans (op_o (by omega)))
                  · exact tX_t op_X (tG_X hG2))
               | (refine Or.inl ⟨j, z, hj, hij, hz2, hz1, Or.inr (Or.inr ⟨by first | exact h18 | exact Decidable.not_not.mp h18, hfp, rfl, hm5, ?_⟩)⟩
                  exact tX_t op_X (tX_t (tG_X hG2) (tX_t op_X hX5)))
           · have hfp : ¬ (fpR (gI M (144 + 3 * j)) z (z + 1) 0).1 = true := fun q => h51 ((fp_4 hz1).mpr q)
             refine xG_run 3 rfl (by repeat' (first | exact trivial | assumption | exact xob_b rfl | exact xal_b rfl | (apply And.intro) | decide)) ?_
             try dsimp only [xsto1, xsto2, xkill, xget, xset, gd_0, gd_s]
             refine r2_i rfl rfl ?_
             first
               | exact Or.inr ⟨fun ⟨j9, a1, a2⟩ => hno (by rw [a2]; exact inI a1 (by omega)), rfl, rfl⟩
               | exact Or.inl ⟨j, z, hj, hij, hz2, hz1, Or.inl ⟨h18, rfl, rfl⟩⟩
               | (refine Or.inl ⟨j, z, hj, hij, hz2, hz1, Or.inr (Or.inl ⟨by first | exact h18 | exact Decidable.not_not.mp h18, Bool.not_eq_true _ ▸ hfp, ?_, ?_, ?_⟩)⟩
                  · rw [if_neg hfp]
                  · exact mR_o hm (fun x k q1 q2 => (hG2.1 x k (Or.inl (by omega))).trans (op_o (by omega)))
                  · exact tX_t op_X (tG_X hG2))
               | (refine Or.inl ⟨j, z, hj, hij, hz2, hz1, Or.inr (Or.inr ⟨by first | exact h18 | exact Decidable.not_not.mp h18, hfp, rfl, hm5, ?_⟩)⟩
                  exact tX_t op_X (tX_t (tG_X hG2) (tX_t op_X hX5))))
    · first
        | (exfalso; first | exact absurd h18 (by decide) | exact h18 (by decide))
        | (refine xG_run 1 rfl (by repeat' (first | exact trivial | assumption | exact xob_b rfl | exact xal_b rfl | (apply And.intro) | decide)) ?_
           try dsimp only [xsto1, xsto2, xkill, xget, xset, gd_0, gd_s]
           refine r2_i rfl rfl ?_
           first
             | exact Or.inr ⟨fun ⟨j9, a1, a2⟩ => hno (by rw [a2]; exact inI a1 (by omega)), rfl, rfl⟩
             | exact Or.inl ⟨j, z, hj, hij, hz2, hz1, Or.inl ⟨h18, rfl, rfl⟩⟩
             | (refine Or.inl ⟨j, z, hj, hij, hz2, hz1, Or.inr (Or.inl ⟨by first | exact h18 | exact Decidable.not_not.mp h18, Bool.not_eq_true _ ▸ hfp, ?_, ?_, ?_⟩)⟩
                · rw [if_neg hfp]
                · exact mR_o hm (fun x k q1 q2 => (hG2.1 x k (Or.inl (by omega))).trans (op_o (by omega)))
                · exact tX_t op_X (tG_X hG2))
             | (refine Or.inl ⟨j, z, hj, hij, hz2, hz1, Or.inr (Or.inr ⟨by first | exact h18 | exact Decidable.not_not.mp h18, hfp, rfl, hm5, ?_⟩)⟩
                exact tX_t op_X (tX_t (tG_X hG2) (tX_t op_X hX5))))
