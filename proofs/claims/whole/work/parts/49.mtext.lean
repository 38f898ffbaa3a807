/-! ===== text, the reference's call ===== -/
def mtX (M M' : xM) : Prop := (∀ x k, x ≠ 167 → x ≠ 169 → x ≠ 177 → ¬ (x = 166 ∧ 12 ≤ k ∧ k ≤ 15) → gI M' x k = gI M x k) ∧ (∀ x k, gJ M' x k = gJ M x k) ∧ ∀ x k, ¬ (x = 166 ∧ k = 16) → gP M' x k = gP M x k
section MT
variable {M M' M2 R R' C : xM} {np nr ng b n : Nat} {T : Nat → Int32} {a : Nat → Int32} {c sd : Int32}
theorem mtX_t (h : mtX M M') (h2 : mtX M' M2) : mtX M M2 := ⟨fun x k q1 q2 q3 q4 => (h2.1 x k q1 q2 q3 q4).trans (h.1 x k q1 q2 q3 q4), fun x k => (h2.2.1 x k).trans (h.2.1 x k), fun x k q => (h2.2.2 x k q).trans (h.2.2 x k q)⟩
theorem mtX_r : mtX M M := ⟨fun _ _ _ _ _ _ => rfl, fun _ _ => rfl, fun _ _ _ => rfl⟩
theorem mtX_F (h : rdF M M') : mtX M M' := ⟨fun x k _ _ q3 q4 => h.1 x k q3 (by omega), h.2.1, fun x k _ => h.2.2 x k⟩
theorem mtX_i {k : Nat} {v : Int32} (h : 12 ≤ k ∧ k ≤ 15) : mtX M (sI M 166 k v) := ⟨fun _ _ _ _ _ _ => gI_ne (by omega), fun _ _ => rfl, fun _ _ _ => rfl⟩
theorem mtX_s {k : Nat} {v : Int32} : mtX M (sI M 167 k v) := ⟨fun _ _ _ _ _ _ => gI_ne (by omega), fun _ _ => rfl, fun _ _ _ => rfl⟩
theorem mtX_c {x y n : Nat} (h : x = 167 ∨ x = 169) : mtX M (cpM M x y n) := ⟨fun _ _ _ _ _ _ => by rw [cpM_g, if_neg (by omega)], fun _ _ => rfl, fun _ _ _ => rfl⟩
theorem mtX_pc : mtX M (pcM M np a) := ⟨fun _ _ _ _ _ _ => pc_o (by omega), fun _ _ => rfl, fun _ _ _ => rfl⟩
theorem mtX_rp : mtX M (rpM M nr a sd) := ⟨fun _ _ _ _ _ _ => rp_o (by omega), fun _ _ => rfl, fun _ _ _ => rfl⟩
theorem rT_X (h : rT M 173 b n T) (f : mtX M M') (h1 : gI M' 166 13 = gI M 166 13) (h2 : gI M' 166 14 = gI M 166 14) (h3 : gP M' 166 16 = gP M 166 16) : rT M' 173 b n T := ⟨h1.trans h.1, h2.trans h.2.1, h3.trans h.2.2.1, fun k hk => (f.1 _ _ (by decide) (by decide) (by decide) (by omega)).trans (h.2.2.2.1 k hk), h.2.2.2.2⟩
theorem rB_c (h : ∀ k, gI R' 167 k = gI R 167 k) : rB R' np = rB R np := by
  unfold rB
  rw [rs_c h]
theorem acA_c (h : ∀ k, gI R' 167 k = gI R 167 k) : acA R' np nr c a ↔ acA R np nr c a := by
  unfold acA
  rw [rB_c h]
theorem acM_c (h : ∀ k, gI R' 167 k = gI R 167 k) (k : Nat) : gI (acM R' np nr c a sd) 167 k = gI (acM R np nr c a sd) 167 k := by
  unfold acM
  by_cases c1 : c = 112
  · rw [if_pos c1, if_pos c1, pcM_g, pcM_g, h]
  · rw [if_neg c1, if_neg c1]
    by_cases c2 : c = 114
    · rw [if_pos c2, if_pos c2, rpM_g, rpM_g, h]
    · rw [if_neg c2, if_neg c2, gIsI, gIsI, h]
/-- the relation is kept -/
theorem mR_ac (hm : mR C 1 R 167 np nr ng) (hac : acA R np nr c a) (h1 : c = 112 → ∀ k, k < 5 → nr3 0 999 (a k)) (h2 : c = 114 → (∀ k, k < 4 → nr3 0 999 (a k)) ∧ (sd = 1 ∨ sd = -1)) (h3 : nr3 0 999 (a 0)) : ∃ C' np2 nr2, mR C' 1 (acM R np nr c a sd) 167 np2 nr2 ng := by
  unfold acM
  by_cases c1 : c = 112
  · rw [if_pos c1]
    exact ⟨_, _, _, mR_pc hm (hac.1 c1) (h1 c1)⟩
  · rw [if_neg c1]
    by_cases c2 : c = 114
    · rw [if_pos c2]
      obtain ⟨h, hh, e⟩ := inI_of (hac.2 c2).1 (by have := hm.1.1; omega)
      exact ⟨_, _, _, mR_rp hm (hac.2 c2) hh e (h2 c2).1 (h2 c2).2⟩
    · rw [if_neg c2]
      exact ⟨_, _, _, mR_ft hm h3⟩
theorem pcM_n {x k : Nat} (h : k ≥ 1651) (hn : np ≤ 10) : gI (pcM M np a) x k = gI M x k := pc_o (by omega)
theorem rpM_n {x k : Nat} (h : k ≥ 1651) (hn : nr ≤ 12) : gI (rpM M nr a sd) x k = gI M x k := rp_o (by omega)
end MT
theorem xRet_imp {m : xMI} {P Q : Option Value → xM → Prop} {Y : xX} (h : ∀ v M', P v M' → Q v M') (hY : xRet m false (fun v M' n' => n' = 182 ∧ P v M') Y) : xRet m false (fun v M' n' => n' = 182 ∧ Q v M') Y := by
  unfold xRet at *
  obtain ⟨e1, h1, hz, h2⟩ := hY
  refine ⟨e1, h1, hz, ?_⟩
  rcases h2 with ⟨a1, v, t, a2, a3, a4, a5, a6⟩ | ⟨a1, v, a2, a3, a5, a6⟩ | ⟨a1, v, t, a2, a3, a4, a5, a6⟩ | ⟨a1, a2, a3, a5, a6⟩
  · exact Or.inl ⟨a1, v, t, a2, a3, a4, a5, h _ _ a6⟩
  · exact Or.inr (Or.inl ⟨a1, v, a2, a3, a5, h _ _ a6⟩)
  · exact Or.inr (Or.inr (Or.inl ⟨a1, v, t, a2, a3, a4, a5, h _ _ a6⟩))
  · exact Or.inr (Or.inr (Or.inr ⟨a1, a2, a3, a5, h _ _ a6⟩))
theorem xG_imp {κ : xKK} {m : xMI} {r : xRm} {X : xX} {P Q : Option Value → xM → Prop} (h : ∀ v M', P v M' → Q v M') (k : xG κ m r X (xRet m false (fun v M' n' => n' = 182 ∧ P v M'))) : xG κ m r X (xRet m false (fun v M' n' => n' = 182 ∧ Q v M')) :=
  xG_trans k (fun _ hY => xG_done (xRet_imp h hY))
set_option maxRecDepth 4000 in
theorem e_m_text {κ : xKK} {d : Nat} {M : xM} {np nr ng : Nat} {C : xM} (hm : mR C 1 M 167 np nr ng) (hz : ∀ j, j < 8 → ∃ z, z ≤ 120 ∧ gI M 172 j = nI z) {i : Int32} (hd : 5 ≤ d) : xE2 κ mX12_text d [.ref 166, .int i] M (fun v M' => (∃ j z, j < 8 ∧ i = nI j ∧ gI M 172 j = nI z ∧ z ≤ 120 ∧ ((¬ rWR M j 0 = 0 ∧ v = some (.int (rWR M j 0)) ∧ M' = M) ∨ (rWR M j 0 = 0 ∧ (fpR (fun k => gI M 173 (120 * j + k)) z (z + 1) 0).1 = false ∧ v = some (.int (-1000 - nI (fpR (fun k => gI M 173 (120 * j + k)) z (z + 1) 0).2)) ∧ (∀ k, gI M' 167 k = gI M 167 k) ∧ mtX M M') ∨ (rWR M j 0 = 0 ∧ (fpR (fun k => gI M 173 (120 * j + k)) z (z + 1) 0).1 = true ∧ v = some (.int (txL (fun k => gI M 173 (120 * j + k)) z M (z + 1) M 0 0).1) ∧ (∀ k, gI M' 167 k = gI (txL (fun k => gI M 173 (120 * j + k)) z M (z + 1) M 0 0).2 167 k) ∧ mtX M M'))) ∨ (¬ (∃ j, j < 8 ∧ i = nI j) ∧ v = some (.int (-1)) ∧ M' = M)) := by
  refine xE2_of ci_X12_text cl_X12_text cw_X12_text rfl (L := [some (.ref 166), some (.int i), none, none, none, none, none, none]) rfl ?_
  refine xG_run 3 rfl (by repeat' (first | exact trivial | assumption | exact xob_b rfl | exact xal_b rfl | (apply And.intro) | decide)) ?_
  try dsimp only [xsto1, xsto2, xkill, xget, xset, gd_0, gd_s]
  refine xG_c2 2 rfl (by repeat' (first | exact trivial | assumption | exact xob_b rfl | exact xal_b rfl | (apply And.intro) | decide)) rfl rfl (by decide) cw_X12_wrongRow (d' := d - 1) (e_wrongRow (s := 0) (by omega)) (by omega) ?_
  rintro v M' ⟨hv, hM⟩
  subst M'
  rcases hv with ⟨j, hj, rfl, rfl⟩ | ⟨hno, rfl⟩
  · dsimp only [Option.toList, List.cons_append, List.nil_append]
    obtain ⟨z, hz1, hz2⟩ := hz j hj
    obtain ⟨T, hTd⟩ : ∃ T : Nat → Int32, (fun k => gI M 173 (120 * j + k)) = T := ⟨_, rfl⟩
    refine xG_run 2 rfl (by repeat' (first | exact trivial | assumption | exact xob_b rfl | exact xal_b rfl | (apply And.intro) | decide)) ?_
    try dsimp only [xsto1, xsto2, xkill, xget, xset, gd_0, gd_s]
    refine xG_br rfl (fun h8 => ?_) (fun h8 => ?_)
    · first
        | (exfalso; exact absurd h8 (by decide))
        | (refine xG_run 2 rfl (by repeat' (first | exact trivial | assumption | exact xob_b rfl | exact xal_b rfl | (apply And.intro) | decide)) ?_
           try dsimp only [xsto1, xsto2, xkill, xget, xset, gd_0, gd_s]
           refine xG_c2 1 rfl (by repeat' (first | exact trivial | assumption | exact xob_b rfl | exact xal_b rfl | (apply And.intro) | decide)) rfl rfl (by decide) cw_X12_opens (d' := d - 1) (e_opens hj) (by omega) ?_
           rintro v M' ⟨rfl, hM⟩
           subst M'
           dsimp only [Option.toList, List.cons_append, List.nil_append]
           have h0 : rWR M j 0 = 0 := h8
           refine xG_imp (P := fun v M' => ((¬ rWR M j 0 = 0 ∧ v = some (.int (rWR M j 0)) ∧ M' = M) ∨ (rWR M j 0 = 0 ∧ (fpR T z (z + 1) 0).1 = false ∧ v = some (.int (-1000 - nI (fpR T z (z + 1) 0).2)) ∧ (∀ k, gI M' 167 k = gI M 167 k) ∧ mtX M M') ∨ (rWR M j 0 = 0 ∧ (fpR T z (z + 1) 0).1 = true ∧ v = some (.int (txL T z M (z + 1) M 0 0).1) ∧ (∀ k, gI M' 167 k = gI (txL T z M (z + 1) M 0 0).2 167 k) ∧ mtX M M'))) (fun v M' h9 => Or.inl ⟨j, z, hj, rfl, hz2, hz1, by rw [hTd]; exact h9⟩) ?_
           have hTr : rT (rpO M j) 173 (120 * j) z T := by
             unfold rpO
             refine ⟨by simp (disch := omega) only [g_ne, g_eq], by simp (disch := omega) only [g_ne, g_eq]; exact hz2, rfl, fun k hk => ?_, hz1, Or.inl ⟨rfl, by omega⟩⟩
             simp (disch := omega) only [g_ne]
             rw [← hTd]
             rfl
           have lp2 : ∀ (Ma : xM), rT Ma 173 (120 * j) z T → mtX M Ma → (∀ k, gI Ma 167 k = gI M 167 k) → fpR T z (z + 1) 0 = (true, z) → xG κ mX12_text (d, 0, 0) (45, [some (.ref 166), some (.int (nI j)), some (.int (rWR M j 0)), none, none, none, none, none], [], Ma, z2) (xRet mX12_text false (fun v M' n' => n' = 182 ∧ ((¬ rWR M j 0 = 0 ∧ v = some (.int (rWR M j 0)) ∧ M' = M) ∨ (rWR M j 0 = 0 ∧ (fpR T z (z + 1) 0).1 = false ∧ v = some (.int (-1000 - nI (fpR T z (z + 1) 0).2)) ∧ (∀ k, gI M' 167 k = gI M 167 k) ∧ mtX M M') ∨ (rWR M j 0 = 0 ∧ (fpR T z (z + 1) 0).1 = true ∧ v = some (.int (txL T z M (z + 1) M 0 0).1) ∧ (∀ k, gI M' 167 k = gI (txL T z M (z + 1) M 0 0).2 167 k) ∧ mtX M M')))) := by
             intro Ma hTa hXa h167a hfp
             have hfp0 := hfp
             have lp3 : ∀ (f p k : Nat) (M2 R2 C : xM) (np2 nr2 : Nat) (x4 x5 x6 x7 : Option Value), z - p ≤ f → (p < z → (fpR T z f p).1 = true) → rT M2 173 (120 * j) z T → gI M2 166 12 = nI p → p ≤ z → mR C 1 R2 167 np2 nr2 ng → (∀ k, gI M2 167 k = gI R2 167 k) → (∀ k, k < 1651 → gI M2 169 k = gI M 167 k) → (∀ k, 1651 ≤ k → gI M2 167 k = gI M 167 k) → mtX M M2 → txL T z M (z + 1) M 0 0 = txL T z M f R2 p k → xG κ mX12_text (d, 0, 0) (79, [some (.ref 166), some (.int (nI j)), some (.int (rWR M j 0)), some (.int (nI k)), x4, x5, x6, x7], [], M2, z2) (xRet mX12_text false (fun v M' n' => n' = 182 ∧ ((¬ rWR M j 0 = 0 ∧ v = some (.int (rWR M j 0)) ∧ M' = M) ∨ (rWR M j 0 = 0 ∧ (fpR T z (z + 1) 0).1 = false ∧ v = some (.int (-1000 - nI (fpR T z (z + 1) 0).2)) ∧ (∀ k, gI M' 167 k = gI M 167 k) ∧ mtX M M') ∨ (rWR M j 0 = 0 ∧ (fpR T z (z + 1) 0).1 = true ∧ v = some (.int (txL T z M (z + 1) M 0 0).1) ∧ (∀ k, gI M' 167 k = gI (txL T z M (z + 1) M 0 0).2 167 k) ∧ mtX M M')))) := by
               intro f
               induction f with
               | zero =>
                 intro p k M2 R2 C np2 nr2 x4 x5 x6 x7 hf hfp hT2 hp hpz hm2 hR2 hB hO hX hres
                 have hpn : ¬ p < z := by omega
                 refine xG_run 4 rfl (by repeat' (first | exact trivial | assumption | exact xob_b rfl | exact xal_b rfl | (apply And.intro) | decide)) ?_
                 try dsimp only [xsto1, xsto2, xkill, xget, xset, gd_0, gd_s]
                 refine xG_brT rfl (by rw [hT2.2.1, hp]; exact nI_le (by omega) (by omega)) ?_
                 refine xG_run 1 rfl (by repeat' (first | exact trivial | assumption | exact xob_b rfl | exact xal_b rfl | (apply And.intro) | decide)) ?_
                 try dsimp only [xsto1, xsto2, xkill, xget, xset, gd_0, gd_s]
                 refine r2_i rfl rfl ?_
                 have e9 : txL T z M (z + 1) M 0 0 = (nI k, R2) := by rw [hres]; rw [txL]
                 rw [e9]
                 exact Or.inr (Or.inr ⟨h0, by rw [hfp0], rfl, hR2, hX⟩)
               | succ f ih =>
                 intro p k M2 R2 C np2 nr2 x4 x5 x6 x7 hf hfp hT2 hp hpz hm2 hR2 hB hO hX hres
                 by_cases hpn : p < z
                 · skip
                   refine xG_run 4 rfl (by repeat' (first | exact trivial | assumption | exact xob_b rfl | exact xal_b rfl | (apply And.intro) | decide)) ?_
                   try dsimp only [xsto1, xsto2, xkill, xget, xset, gd_0, gd_s]
                   try rw [hp]
                   refine xG_brF rfl (by rw [hT2.2.1]; exact nI_ge hpn (by omega)) ?_
                   refine xG_run 4 rfl (by repeat' (first | exact trivial | assumption | exact xob_b rfl | exact xal_b rfl | (apply And.intro) | decide)) ?_
                   try dsimp only [xsto1, xsto2, xkill, xget, xset, gd_0, gd_s]
                   try rw [hp]
                   refine xG_c2 0 rfl (by repeat' (first | exact trivial | assumption | exact xob_b rfl | exact xal_b rfl | (apply And.intro) | decide)) rfl rfl (by decide) cw_X12_sign (d' := d - 1) (e_sign (p := p) hT2 hp (by omega)) (by omega) ?_
                   rintro v M' ⟨rfl, hM⟩
                   subst M'
                   dsimp only [Option.toList, List.cons_append, List.nil_append]
                   refine xG_run 2 rfl (by repeat' (first | exact trivial | assumption | exact xob_b rfl | exact xal_b rfl | (apply And.intro) | decide)) ?_
                   try dsimp only [xsto1, xsto2, xkill, xget, xset, gd_0, gd_s]
                   try rw [hp]
                   refine xG_c2 0 rfl (by repeat' (first | exact trivial | assumption | exact xob_b rfl | exact xal_b rfl | (apply And.intro) | decide)) rfl rfl (by decide) cw_X12_readsStatement (d' := d - 1) (e_readsStatement (p := p) hT2 hp hpz (by omega)) (by omega) ?_
                   rintro v M3 ⟨rfl, hp3, hF3, hnum⟩
                   dsimp only [Option.toList, List.cons_append, List.nil_append]
                   obtain ⟨ok0, okn⟩ := fpR_s (hfp hpn)
                   have hle := stS_le (T := T) (n := z) (p := p) (sd := 0) hpz
                   have hgt := stS_gt (T := T) (n := z) (p := p) (sd := 0) ok0
                   obtain ⟨hgl, hln⟩ := stS_ok ok0
                   obtain ⟨hn1, hn2, hn3⟩ := hnum ok0
                   rw [if_pos ok0]
                   have hT3 := rT_F hT2 hF3
                   have h3 : ∀ k, gI M3 167 k = gI R2 167 k := fun k => (hF3.1 167 k (by decide) (by omega)).trans (hR2 k)
                   have h69 : ∀ k, k < 1651 → gI M3 169 k = gI M 167 k := fun k hk => (hF3.1 169 k (by decide) (by omega)).trans (hB k hk)
                   have h51 : ∀ k, 1651 ≤ k → gI M3 167 k = gI M 167 k := fun k hk => (hF3.1 167 k (by decide) (by omega)).trans (hO k hk)
                   have hX3 := mtX_t hX (mtX_F hF3)
                   have f0 : (gI R2 167 1643).toNatClampNeg = np2 := by rw [hm2.2.1.2]; exact nI_cl (by have := hm2.1.1; omega)
                   have f1 : (gI R2 167 1644).toNatClampNeg = nr2 := by rw [hm2.2.2.1.2]; exact nI_cl (by have := hm2.1.2.1; omega)
                   have g3 : gI M3 167 1643 = nI np2 := (h3 _).trans hm2.2.1.2
                   have g4 : gI M3 167 1644 = nI nr2 := (h3 _).trans hm2.2.2.1.2
                   have hnp := hm2.1.1
                   have hnr := hm2.1.2.1
                   have hw : np2 ≠ 0 → nr3 1 99 (rs M3 (np2 - 1) 1) := fun q => by rw [rs_c h3]; exact (r_pB hm2 (p := np2 - 1) (by omega)).2.1
                   have hs9 : xar 167 0 182 1650 := xar_n (j := 1650) rfl 1651 rfl (by omega) (by omega)
                   have hs8 : xar 177 0 182 0 := xar_n (j := 0) rfl 6 rfl (by omega) (by omega)
                   have hcl : (1650 : Int32).toNatClampNeg = 1650 := rfl
                   have hcl0 : (0 : Int32).toNatClampNeg = 0 := rfl
                   have hlen1 : 1 ≤ (stS T z p 0).2.2.1.length := by rcases hln with q | q | q <;> omega
                   rcases hln with hc | hc | hc
                   · skip
                     refine xG_run 3 rfl (by repeat' (first | exact trivial | assumption | exact xob_b rfl | exact xal_b rfl | (apply And.intro) | decide)) ?_
                     try dsimp only [xsto1, xsto2, xkill, xget, xset, gd_0, gd_s]
                     try rw [hp]
                     refine xG_brF rfl (fun y => y hc.1) ?_
                     refine xG_run 1 rfl (by repeat' (first | exact trivial | assumption | exact xob_b rfl | exact xal_b rfl | (apply And.intro) | decide)) ?_
                     try dsimp only [xsto1, xsto2, xkill, xget, xset, gd_0, gd_s]
                     try rw [hp]
                     refine xG_c2 0 rfl (by repeat' (first | exact trivial | assumption | exact xob_b rfl | exact xal_b rfl | (apply And.intro) | decide)) rfl rfl (by decide) cw_X12_makesPiece (d' := d - 1) (e_makesPiece (a := fun i => (stS T z p 0).2.2.1.getD i 0) g3 hnp hw (hn1 hc.1) (by omega)) (by omega) ?_
                     rintro v M4 (⟨hp4, rfl, rfl⟩ | ⟨hp4, rfl, hM4⟩)
                     · dsimp only [Option.toList, List.cons_append, List.nil_append]
                       refine xG_run 4 rfl (by repeat' (first | exact trivial | assumption | exact xob_b rfl | exact xal_b rfl | (apply And.intro) | decide)) ?_
                       try dsimp only [xsto1, xsto2, xkill, xget, xset, gd_0, gd_s]
                       try rw [hp]
                       refine xG_brT rfl (by rw [hc.1]; decide) ?_
                       refine xG_run 2 rfl (by repeat' (first | exact trivial | assumption | exact xob_b rfl | exact xal_b rfl | (apply And.intro) | decide)) ?_
                       try dsimp only [xsto1, xsto2, xkill, xget, xset, gd_0, gd_s]
                       try rw [hp]
                       refine xG_br rfl (fun h166 => ?_) (fun h166 => ?_)
                       · first
                           | (exfalso; first | exact absurd h166 (by decide) | exact h166 (by decide))
                           | (refine xG_run 2 rfl (by repeat' (first | exact trivial | assumption | exact xob_b rfl | exact xal_b rfl | (apply And.intro) | decide)) ?_
                              try dsimp only [xsto1, xsto2, xkill, xget, xset, gd_0, gd_s]
                              try rw [hp]
                              have hac2 : ¬ acA R2 np2 nr2 (chr T z p) (fun i => (stS T z p 0).2.2.1.getD i 0) := fun q => by first | exact hp4 (((acA_c h3).mpr q).1 hc.1) | exact hp4 (q.2 hc.2.1)
                              have e0 : M3 = cpM M3 167 169 0 := cpM_0
                              rw [nI_1]
                              show xG κ mX12_text _ (175, [some (.ref 166), some (.int (nI j)), some (.int (rWR M j 0)), some (.int (nI (k + 1))), some (.int (nI p)), some (.int (chr T z p)), some (.int 0), some (.int (nI 0))], [], M3, z2) _
                              conv => arg 4; rw [e0]
                              refine xG_up (fun c => (175, [some (.ref 166), some (.int (nI j)), some (.int (rWR M j 0)), some (.int (nI (k + 1))), some (.int (nI p)), some (.int (chr T z p)), some (.int 0), some (.int (nI c))], [], cpM M3 167 169 c, z2)) 1651 ?_ ?_ 0 (Nat.zero_le _)
                              · intro c hc9 ih2
                                have hj1 : (nI c).toNatClampNeg = c := nI_cl (by omega)
                                have hsa : xar 167 0 182 (nI c) := xar_n rfl 1651 rfl (by omega) (by omega)
                                have hsb : xar 169 0 182 (nI c) := xar_n rfl 1651 rfl (by omega) (by omega)
                                refine xG_run 2 rfl (by repeat' (first | exact trivial | assumption | exact xob_b rfl | exact xal_b rfl | (apply And.intro) | decide)) ?_
                                try dsimp only [xsto1, xsto2, xkill, xget, xset, gd_0, gd_s]
                                refine xG_brF rfl (show ¬ nI 1651 ≤ nI c from nI_ge hc9 (by omega)) ?_
                                refine xG_run 8 rfl (by repeat' (first | exact trivial | assumption | exact xob_b rfl | exact xal_b rfl | (apply And.intro) | decide)) ?_
                                try dsimp only [xsto1, xsto2, xkill, xget, xset, gd_0, gd_s]
                                refine xG_run 2 rfl (by repeat' (first | exact trivial | assumption | exact xob_b rfl | exact xal_b rfl | (apply And.intro) | decide)) ?_
                                try dsimp only [xsto1, xsto2, xkill, xget, xset, gd_0, gd_s]
                                simp only [hj1]
                                rw [cpM_s (n := c) (n' := c + 1) (by decide) rfl, nI_1]
                                exact ih2
                              · refine xG_run 2 rfl (by repeat' (first | exact trivial | assumption | exact xob_b rfl | exact xal_b rfl | (apply And.intro) | decide)) ?_
                                try dsimp only [xsto1, xsto2, xkill, xget, xset, gd_0, gd_s]
                                refine xG_brT rfl (show nI 1651 ≤ nI 1651 from Int32.le_refl _) ?_
                                refine xG_run 3 rfl (by repeat' (first | exact trivial | assumption | exact xob_b rfl | exact xal_b rfl | (apply And.intro) | decide)) ?_
                                try dsimp only [xsto1, xsto2, xkill, xget, xset, gd_0, gd_s]
                                refine r2_i rfl rfl ?_
                                refine Or.inr (Or.inr ⟨h0, by rw [hfp0], ?_, fun k => ?_, mtX_t hX3 (mtX_c (Or.inl rfl))⟩)
                                · rw [hres, txL, if_pos hpn, f0, f1, if_neg hac2]
                                · rw [hres, txL, if_pos hpn, f0, f1, if_neg hac2, cpM_g]
                                  by_cases ck : k < 1651
                                  · rw [if_pos ⟨rfl, ck⟩]; exact h69 k ck
                                  · rw [if_neg (fun q => ck q.2)]; exact h51 k (by omega))
                       · first
                           | (exfalso; first | exact absurd h166 (by decide) | exact h166 (by decide))
                           | (refine xG_run 1 rfl (by repeat' (first | exact trivial | assumption | exact xob_b rfl | exact xal_b rfl | (apply And.intro) | decide)) ?_
                              try dsimp only [xsto1, xsto2, xkill, xget, xset, gd_0, gd_s]
                              try rw [hp]
                              rw [nI_1]
                              have hac2 : acA R2 np2 nr2 (chr T z p) (fun i => (stS T z p 0).2.2.1.getD i 0) := by first | exact (acA_c h3).mp ⟨fun _ => hp4, fun q => absurd (hc.1.symm.trans q) (by decide)⟩ | exact ⟨fun q => absurd q hc.1, fun _ => hp4⟩ | exact ⟨fun q => absurd q hc.1, fun q => absurd q hc.2.1⟩
                              obtain ⟨C4, np4, nr4, hm4⟩ := mR_ac (sd := (stS T z p 0).2.2.2) hm2 hac2 (fun c1 => by first | exact fun k hk => hgl k (by omega) | exact absurd c1 hc.1) (fun c2 => by first | exact absurd (hc.1.symm.trans c2) (by decide) | exact ⟨fun k hk => hgl k (by omega), hc.2.2.2⟩ | exact absurd c2 hc.2.1) (hgl 0 (by omega))
                              refine ih (stS T z p 0).2.1 (k + 1) _ _ C4 np4 nr4 _ _ _ _ (by omega) okn ?_ ?_ hle hm4 ?_ ?_ ?_ ?_ ?_
                              · exact rT_X hT3 mtX_pc rfl rfl rfl
                              · exact (pc_o (by omega)).trans hp3
                              · intro k; unfold acM; rw [if_pos hc.1, pcM_g, pcM_g, h3]
                              · exact fun k hk => (pc_o (by omega)).trans (h69 k hk)
                              · exact fun k hk => (pcM_n hk (by omega)).trans (h51 k hk)
                              · exact mtX_t hX3 mtX_pc
                              · rw [hres, txL, if_pos hpn, f0, f1, if_pos hac2])
                     · subst M4
                       dsimp only [Option.toList, List.cons_append, List.nil_append]
                       refine xG_run 4 rfl (by repeat' (first | exact trivial | assumption | exact xob_b rfl | exact xal_b rfl | (apply And.intro) | decide)) ?_
                       try dsimp only [xsto1, xsto2, xkill, xget, xset, gd_0, gd_s]
                       try rw [hp]
                       refine xG_brT rfl (by rw [hc.1]; decide) ?_
                       refine xG_run 2 rfl (by repeat' (first | exact trivial | assumption | exact xob_b rfl | exact xal_b rfl | (apply And.intro) | decide)) ?_
                       try dsimp only [xsto1, xsto2, xkill, xget, xset, gd_0, gd_s]
                       try rw [hp]
                       refine xG_br rfl (fun h166 => ?_) (fun h166 => ?_)
                       · first
                           | (exfalso; first | exact absurd h166 (by decide) | exact h166 (by decide))
                           | (refine xG_run 2 rfl (by repeat' (first | exact trivial | assumption | exact xob_b rfl | exact xal_b rfl | (apply And.intro) | decide)) ?_
                              try dsimp only [xsto1, xsto2, xkill, xget, xset, gd_0, gd_s]
                              try rw [hp]
                              have hac2 : ¬ acA R2 np2 nr2 (chr T z p) (fun i => (stS T z p 0).2.2.1.getD i 0) := fun q => by first | exact hp4 (((acA_c h3).mpr q).1 hc.1) | exact hp4 (q.2 hc.2.1)
                              have e0 : M3 = cpM M3 167 169 0 := cpM_0
                              rw [nI_1]
                              show xG κ mX12_text _ (175, [some (.ref 166), some (.int (nI j)), some (.int (rWR M j 0)), some (.int (nI (k + 1))), some (.int (nI p)), some (.int (chr T z p)), some (.int 0), some (.int (nI 0))], [], M3, z2) _
                              conv => arg 4; rw [e0]
                              refine xG_up (fun c => (175, [some (.ref 166), some (.int (nI j)), some (.int (rWR M j 0)), some (.int (nI (k + 1))), some (.int (nI p)), some (.int (chr T z p)), some (.int 0), some (.int (nI c))], [], cpM M3 167 169 c, z2)) 1651 ?_ ?_ 0 (Nat.zero_le _)
                              · intro c hc9 ih2
                                have hj1 : (nI c).toNatClampNeg = c := nI_cl (by omega)
                                have hsa : xar 167 0 182 (nI c) := xar_n rfl 1651 rfl (by omega) (by omega)
                                have hsb : xar 169 0 182 (nI c) := xar_n rfl 1651 rfl (by omega) (by omega)
                                refine xG_run 2 rfl (by repeat' (first | exact trivial | assumption | exact xob_b rfl | exact xal_b rfl | (apply And.intro) | decide)) ?_
                                try dsimp only [xsto1, xsto2, xkill, xget, xset, gd_0, gd_s]
                                refine xG_brF rfl (show ¬ nI 1651 ≤ nI c from nI_ge hc9 (by omega)) ?_
                                refine xG_run 8 rfl (by repeat' (first | exact trivial | assumption | exact xob_b rfl | exact xal_b rfl | (apply And.intro) | decide)) ?_
                                try dsimp only [xsto1, xsto2, xkill, xget, xset, gd_0, gd_s]
                                refine xG_run 2 rfl (by repeat' (first | exact trivial | assumption | exact xob_b rfl | exact xal_b rfl | (apply And.intro) | decide)) ?_
                                try dsimp only [xsto1, xsto2, xkill, xget, xset, gd_0, gd_s]
                                simp only [hj1]
                                rw [cpM_s (n := c) (n' := c + 1) (by decide) rfl, nI_1]
                                exact ih2
                              · refine xG_run 2 rfl (by repeat' (first | exact trivial | assumption | exact xob_b rfl | exact xal_b rfl | (apply And.intro) | decide)) ?_
                                try dsimp only [xsto1, xsto2, xkill, xget, xset, gd_0, gd_s]
                                refine xG_brT rfl (show nI 1651 ≤ nI 1651 from Int32.le_refl _) ?_
                                refine xG_run 3 rfl (by repeat' (first | exact trivial | assumption | exact xob_b rfl | exact xal_b rfl | (apply And.intro) | decide)) ?_
                                try dsimp only [xsto1, xsto2, xkill, xget, xset, gd_0, gd_s]
                                refine r2_i rfl rfl ?_
                                refine Or.inr (Or.inr ⟨h0, by rw [hfp0], ?_, fun k => ?_, mtX_t hX3 (mtX_c (Or.inl rfl))⟩)
                                · rw [hres, txL, if_pos hpn, f0, f1, if_neg hac2]
                                · rw [hres, txL, if_pos hpn, f0, f1, if_neg hac2, cpM_g]
                                  by_cases ck : k < 1651
                                  · rw [if_pos ⟨rfl, ck⟩]; exact h69 k ck
                                  · rw [if_neg (fun q => ck q.2)]; exact h51 k (by omega))
                       · first
                           | (exfalso; first | exact absurd h166 (by decide) | exact h166 (by decide))
                           | (refine xG_run 1 rfl (by repeat' (first | exact trivial | assumption | exact xob_b rfl | exact xal_b rfl | (apply And.intro) | decide)) ?_
                              try dsimp only [xsto1, xsto2, xkill, xget, xset, gd_0, gd_s]
                              try rw [hp]
                              rw [nI_1]
                              have hac2 : acA R2 np2 nr2 (chr T z p) (fun i => (stS T z p 0).2.2.1.getD i 0) := by first | exact (acA_c h3).mp ⟨fun _ => hp4, fun q => absurd (hc.1.symm.trans q) (by decide)⟩ | exact ⟨fun q => absurd q hc.1, fun _ => hp4⟩ | exact ⟨fun q => absurd q hc.1, fun q => absurd q hc.2.1⟩
                              obtain ⟨C4, np4, nr4, hm4⟩ := mR_ac (sd := (stS T z p 0).2.2.2) hm2 hac2 (fun c1 => by first | exact fun k hk => hgl k (by omega) | exact absurd c1 hc.1) (fun c2 => by first | exact absurd (hc.1.symm.trans c2) (by decide) | exact ⟨fun k hk => hgl k (by omega), hc.2.2.2⟩ | exact absurd c2 hc.2.1) (hgl 0 (by omega))
                              refine ih (stS T z p 0).2.1 (k + 1) _ _ C4 np4 nr4 _ _ _ _ (by omega) okn ?_ ?_ hle hm4 ?_ ?_ ?_ ?_ ?_
                              · exact rT_X hT3 mtX_pc rfl rfl rfl
                              · exact (pc_o (by omega)).trans hp3
                              · intro k; unfold acM; rw [if_pos hc.1, pcM_g, pcM_g, h3]
                              · exact fun k hk => (pc_o (by omega)).trans (h69 k hk)
                              · exact fun k hk => (pcM_n hk (by omega)).trans (h51 k hk)
                              · exact mtX_t hX3 mtX_pc
                              · rw [hres, txL, if_pos hpn, f0, f1, if_pos hac2])
                   · skip
                     refine xG_run 3 rfl (by repeat' (first | exact trivial | assumption | exact xob_b rfl | exact xal_b rfl | (apply And.intro) | decide)) ?_
                     try dsimp only [xsto1, xsto2, xkill, xget, xset, gd_0, gd_s]
                     try rw [hp]
                     refine xG_brT rfl (hc.1) ?_
                     refine xG_run 2 rfl (by repeat' (first | exact trivial | assumption | exact xob_b rfl | exact xal_b rfl | (apply And.intro) | decide)) ?_
                     try dsimp only [xsto1, xsto2, xkill, xget, xset, gd_0, gd_s]
                     try rw [hp]
                     refine xG_brF rfl (fun y => y hc.2.1) ?_
                     refine xG_run 1 rfl (by repeat' (first | exact trivial | assumption | exact xob_b rfl | exact xal_b rfl | (apply And.intro) | decide)) ?_
                     try dsimp only [xsto1, xsto2, xkill, xget, xset, gd_0, gd_s]
                     try rw [hp]
                     refine xG_c2 0 rfl (by repeat' (first | exact trivial | assumption | exact xob_b rfl | exact xal_b rfl | (apply And.intro) | decide)) rfl rfl (by decide) cw_X12_makesRope (d' := d - 1) (e_makesRope (a := fun i => (stS T z p 0).2.2.1.getD i 0) (sd := (stS T z p 0).2.2.2) g3 hnp g4 hnr (hn2 hc.2.1) (by omega)) (by omega) ?_
                     rintro v M4 (⟨hp4, rfl, rfl⟩ | ⟨hp4, rfl, hM4⟩)
                     · dsimp only [Option.toList, List.cons_append, List.nil_append]
                       refine xG_run 4 rfl (by repeat' (first | exact trivial | assumption | exact xob_b rfl | exact xal_b rfl | (apply And.intro) | decide)) ?_
                       try dsimp only [xsto1, xsto2, xkill, xget, xset, gd_0, gd_s]
                       try rw [hp]
                       refine xG_brT rfl (by rw [hc.2.1]; decide) ?_
                       refine xG_run 2 rfl (by repeat' (first | exact trivial | assumption | exact xob_b rfl | exact xal_b rfl | (apply And.intro) | decide)) ?_
                       try dsimp only [xsto1, xsto2, xkill, xget, xset, gd_0, gd_s]
                       try rw [hp]
                       refine xG_br rfl (fun h166 => ?_) (fun h166 => ?_)
                       · first
                           | (exfalso; first | exact absurd h166 (by decide) | exact h166 (by decide))
                           | (refine xG_run 2 rfl (by repeat' (first | exact trivial | assumption | exact xob_b rfl | exact xal_b rfl | (apply And.intro) | decide)) ?_
                              try dsimp only [xsto1, xsto2, xkill, xget, xset, gd_0, gd_s]
                              try rw [hp]
                              have hac2 : ¬ acA R2 np2 nr2 (chr T z p) (fun i => (stS T z p 0).2.2.1.getD i 0) := fun q => by first | exact hp4 (((acA_c h3).mpr q).1 hc.1) | exact hp4 (q.2 hc.2.1)
                              have e0 : M3 = cpM M3 167 169 0 := cpM_0
                              rw [nI_1]
                              show xG κ mX12_text _ (175, [some (.ref 166), some (.int (nI j)), some (.int (rWR M j 0)), some (.int (nI (k + 1))), some (.int (nI p)), some (.int (chr T z p)), some (.int 0), some (.int (nI 0))], [], M3, z2) _
                              conv => arg 4; rw [e0]
                              refine xG_up (fun c => (175, [some (.ref 166), some (.int (nI j)), some (.int (rWR M j 0)), some (.int (nI (k + 1))), some (.int (nI p)), some (.int (chr T z p)), some (.int 0), some (.int (nI c))], [], cpM M3 167 169 c, z2)) 1651 ?_ ?_ 0 (Nat.zero_le _)
                              · intro c hc9 ih2
                                have hj1 : (nI c).toNatClampNeg = c := nI_cl (by omega)
                                have hsa : xar 167 0 182 (nI c) := xar_n rfl 1651 rfl (by omega) (by omega)
                                have hsb : xar 169 0 182 (nI c) := xar_n rfl 1651 rfl (by omega) (by omega)
                                refine xG_run 2 rfl (by repeat' (first | exact trivial | assumption | exact xob_b rfl | exact xal_b rfl | (apply And.intro) | decide)) ?_
                                try dsimp only [xsto1, xsto2, xkill, xget, xset, gd_0, gd_s]
                                refine xG_brF rfl (show ¬ nI 1651 ≤ nI c from nI_ge hc9 (by omega)) ?_
                                refine xG_run 8 rfl (by repeat' (first | exact trivial | assumption | exact xob_b rfl | exact xal_b rfl | (apply And.intro) | decide)) ?_
                                try dsimp only [xsto1, xsto2, xkill, xget, xset, gd_0, gd_s]
                                refine xG_run 2 rfl (by repeat' (first | exact trivial | assumption | exact xob_b rfl | exact xal_b rfl | (apply And.intro) | decide)) ?_
                                try dsimp only [xsto1, xsto2, xkill, xget, xset, gd_0, gd_s]
                                simp only [hj1]
                                rw [cpM_s (n := c) (n' := c + 1) (by decide) rfl, nI_1]
                                exact ih2
                              · refine xG_run 2 rfl (by repeat' (first | exact trivial | assumption | exact xob_b rfl | exact xal_b rfl | (apply And.intro) | decide)) ?_
                                try dsimp only [xsto1, xsto2, xkill, xget, xset, gd_0, gd_s]
                                refine xG_brT rfl (show nI 1651 ≤ nI 1651 from Int32.le_refl _) ?_
                                refine xG_run 3 rfl (by repeat' (first | exact trivial | assumption | exact xob_b rfl | exact xal_b rfl | (apply And.intro) | decide)) ?_
                                try dsimp only [xsto1, xsto2, xkill, xget, xset, gd_0, gd_s]
                                refine r2_i rfl rfl ?_
                                refine Or.inr (Or.inr ⟨h0, by rw [hfp0], ?_, fun k => ?_, mtX_t hX3 (mtX_c (Or.inl rfl))⟩)
                                · rw [hres, txL, if_pos hpn, f0, f1, if_neg hac2]
                                · rw [hres, txL, if_pos hpn, f0, f1, if_neg hac2, cpM_g]
                                  by_cases ck : k < 1651
                                  · rw [if_pos ⟨rfl, ck⟩]; exact h69 k ck
                                  · rw [if_neg (fun q => ck q.2)]; exact h51 k (by omega))
                       · first
                           | (exfalso; first | exact absurd h166 (by decide) | exact h166 (by decide))
                           | (refine xG_run 1 rfl (by repeat' (first | exact trivial | assumption | exact xob_b rfl | exact xal_b rfl | (apply And.intro) | decide)) ?_
                              try dsimp only [xsto1, xsto2, xkill, xget, xset, gd_0, gd_s]
                              try rw [hp]
                              rw [nI_1]
                              have hac2 : acA R2 np2 nr2 (chr T z p) (fun i => (stS T z p 0).2.2.1.getD i 0) := by first | exact (acA_c h3).mp ⟨fun _ => hp4, fun q => absurd (hc.1.symm.trans q) (by decide)⟩ | exact ⟨fun q => absurd q hc.1, fun _ => hp4⟩ | exact ⟨fun q => absurd q hc.1, fun q => absurd q hc.2.1⟩
                              obtain ⟨C4, np4, nr4, hm4⟩ := mR_ac (sd := (stS T z p 0).2.2.2) hm2 hac2 (fun c1 => by first | exact fun k hk => hgl k (by omega) | exact absurd c1 hc.1) (fun c2 => by first | exact absurd (hc.1.symm.trans c2) (by decide) | exact ⟨fun k hk => hgl k (by omega), hc.2.2.2⟩ | exact absurd c2 hc.2.1) (hgl 0 (by omega))
                              refine ih (stS T z p 0).2.1 (k + 1) _ _ C4 np4 nr4 _ _ _ _ (by omega) okn ?_ ?_ hle hm4 ?_ ?_ ?_ ?_ ?_
                              · exact rT_X hT3 mtX_rp rfl rfl rfl
                              · exact (rp_o (by omega)).trans hp3
                              · intro k; unfold acM; rw [if_neg hc.1, if_pos hc.2.1, rpM_g, rpM_g, h3]
                              · exact fun k hk => (rp_o (by omega)).trans (h69 k hk)
                              · exact fun k hk => (rpM_n hk (by omega)).trans (h51 k hk)
                              · exact mtX_t hX3 mtX_rp
                              · rw [hres, txL, if_pos hpn, f0, f1, if_pos hac2])
                     · subst M4
                       dsimp only [Option.toList, List.cons_append, List.nil_append]
                       refine xG_run 4 rfl (by repeat' (first | exact trivial | assumption | exact xob_b rfl | exact xal_b rfl | (apply And.intro) | decide)) ?_
                       try dsimp only [xsto1, xsto2, xkill, xget, xset, gd_0, gd_s]
                       try rw [hp]
                       refine xG_brT rfl (by rw [hc.2.1]; decide) ?_
                       refine xG_run 2 rfl (by repeat' (first | exact trivial | assumption | exact xob_b rfl | exact xal_b rfl | (apply And.intro) | decide)) ?_
                       try dsimp only [xsto1, xsto2, xkill, xget, xset, gd_0, gd_s]
                       try rw [hp]
                       refine xG_br rfl (fun h166 => ?_) (fun h166 => ?_)
                       · first
                           | (exfalso; first | exact absurd h166 (by decide) | exact h166 (by decide))
                           | (refine xG_run 2 rfl (by repeat' (first | exact trivial | assumption | exact xob_b rfl | exact xal_b rfl | (apply And.intro) | decide)) ?_
                              try dsimp only [xsto1, xsto2, xkill, xget, xset, gd_0, gd_s]
                              try rw [hp]
                              have hac2 : ¬ acA R2 np2 nr2 (chr T z p) (fun i => (stS T z p 0).2.2.1.getD i 0) := fun q => by first | exact hp4 (((acA_c h3).mpr q).1 hc.1) | exact hp4 (q.2 hc.2.1)
                              have e0 : M3 = cpM M3 167 169 0 := cpM_0
                              rw [nI_1]
                              show xG κ mX12_text _ (175, [some (.ref 166), some (.int (nI j)), some (.int (rWR M j 0)), some (.int (nI (k + 1))), some (.int (nI p)), some (.int (chr T z p)), some (.int 0), some (.int (nI 0))], [], M3, z2) _
                              conv => arg 4; rw [e0]
                              refine xG_up (fun c => (175, [some (.ref 166), some (.int (nI j)), some (.int (rWR M j 0)), some (.int (nI (k + 1))), some (.int (nI p)), some (.int (chr T z p)), some (.int 0), some (.int (nI c))], [], cpM M3 167 169 c, z2)) 1651 ?_ ?_ 0 (Nat.zero_le _)
                              · intro c hc9 ih2
                                have hj1 : (nI c).toNatClampNeg = c := nI_cl (by omega)
                                have hsa : xar 167 0 182 (nI c) := xar_n rfl 1651 rfl (by omega) (by omega)
                                have hsb : xar 169 0 182 (nI c) := xar_n rfl 1651 rfl (by omega) (by omega)
                                refine xG_run 2 rfl (by repeat' (first | exact trivial | assumption | exact xob_b rfl | exact xal_b rfl | (apply And.intro) | decide)) ?_
                                try dsimp only [xsto1, xsto2, xkill, xget, xset, gd_0, gd_s]
                                refine xG_brF rfl (show ¬ nI 1651 ≤ nI c from nI_ge hc9 (by omega)) ?_
                                refine xG_run 8 rfl (by repeat' (first | exact trivial | assumption | exact xob_b rfl | exact xal_b rfl | (apply And.intro) | decide)) ?_
                                try dsimp only [xsto1, xsto2, xkill, xget, xset, gd_0, gd_s]
                                refine xG_run 2 rfl (by repeat' (first | exact trivial | assumption | exact xob_b rfl | exact xal_b rfl | (apply And.intro) | decide)) ?_
                                try dsimp only [xsto1, xsto2, xkill, xget, xset, gd_0, gd_s]
                                simp only [hj1]
                                rw [cpM_s (n := c) (n' := c + 1) (by decide) rfl, nI_1]
                                exact ih2
                              · refine xG_run 2 rfl (by repeat' (first | exact trivial | assumption | exact xob_b rfl | exact xal_b rfl | (apply And.intro) | decide)) ?_
                                try dsimp only [xsto1, xsto2, xkill, xget, xset, gd_0, gd_s]
                                refine xG_brT rfl (show nI 1651 ≤ nI 1651 from Int32.le_refl _) ?_
                                refine xG_run 3 rfl (by repeat' (first | exact trivial | assumption | exact xob_b rfl | exact xal_b rfl | (apply And.intro) | decide)) ?_
                                try dsimp only [xsto1, xsto2, xkill, xget, xset, gd_0, gd_s]
                                refine r2_i rfl rfl ?_
                                refine Or.inr (Or.inr ⟨h0, by rw [hfp0], ?_, fun k => ?_, mtX_t hX3 (mtX_c (Or.inl rfl))⟩)
                                · rw [hres, txL, if_pos hpn, f0, f1, if_neg hac2]
                                · rw [hres, txL, if_pos hpn, f0, f1, if_neg hac2, cpM_g]
                                  by_cases ck : k < 1651
                                  · rw [if_pos ⟨rfl, ck⟩]; exact h69 k ck
                                  · rw [if_neg (fun q => ck q.2)]; exact h51 k (by omega))
                       · first
                           | (exfalso; first | exact absurd h166 (by decide) | exact h166 (by decide))
                           | (refine xG_run 1 rfl (by repeat' (first | exact trivial | assumption | exact xob_b rfl | exact xal_b rfl | (apply And.intro) | decide)) ?_
                              try dsimp only [xsto1, xsto2, xkill, xget, xset, gd_0, gd_s]
                              try rw [hp]
                              rw [nI_1]
                              have hac2 : acA R2 np2 nr2 (chr T z p) (fun i => (stS T z p 0).2.2.1.getD i 0) := by first | exact (acA_c h3).mp ⟨fun _ => hp4, fun q => absurd (hc.1.symm.trans q) (by decide)⟩ | exact ⟨fun q => absurd q hc.1, fun _ => hp4⟩ | exact ⟨fun q => absurd q hc.1, fun q => absurd q hc.2.1⟩
                              obtain ⟨C4, np4, nr4, hm4⟩ := mR_ac (sd := (stS T z p 0).2.2.2) hm2 hac2 (fun c1 => by first | exact fun k hk => hgl k (by omega) | exact absurd c1 hc.1) (fun c2 => by first | exact absurd (hc.1.symm.trans c2) (by decide) | exact ⟨fun k hk => hgl k (by omega), hc.2.2.2⟩ | exact absurd c2 hc.2.1) (hgl 0 (by omega))
                              refine ih (stS T z p 0).2.1 (k + 1) _ _ C4 np4 nr4 _ _ _ _ (by omega) okn ?_ ?_ hle hm4 ?_ ?_ ?_ ?_ ?_
                              · exact rT_X hT3 mtX_rp rfl rfl rfl
                              · exact (rp_o (by omega)).trans hp3
                              · intro k; unfold acM; rw [if_neg hc.1, if_pos hc.2.1, rpM_g, rpM_g, h3]
                              · exact fun k hk => (rp_o (by omega)).trans (h69 k hk)
                              · exact fun k hk => (rpM_n hk (by omega)).trans (h51 k hk)
                              · exact mtX_t hX3 mtX_rp
                              · rw [hres, txL, if_pos hpn, f0, f1, if_pos hac2])
                   · skip
                     refine xG_run 3 rfl (by repeat' (first | exact trivial | assumption | exact xob_b rfl | exact xal_b rfl | (apply And.intro) | decide)) ?_
                     try dsimp only [xsto1, xsto2, xkill, xget, xset, gd_0, gd_s]
                     try rw [hp]
                     refine xG_brT rfl (hc.1) ?_
                     refine xG_run 2 rfl (by repeat' (first | exact trivial | assumption | exact xob_b rfl | exact xal_b rfl | (apply And.intro) | decide)) ?_
                     try dsimp only [xsto1, xsto2, xkill, xget, xset, gd_0, gd_s]
                     try rw [hp]
                     refine xG_brT rfl (hc.2.1) ?_
                     refine xG_run 4 rfl (by repeat' (first | exact trivial | assumption | exact xob_b rfl | exact xal_b rfl | (apply And.intro) | decide)) ?_
                     try dsimp only [xsto1, xsto2, xkill, xget, xset, gd_0, gd_s]
                     try rw [hp]
                     refine xG_brF rfl (fun y => y hc.2.2.1) ?_
                     refine xG_run 8 rfl (by repeat' (first | exact trivial | assumption | exact xob_b rfl | exact xal_b rfl | (apply And.intro) | decide)) ?_
                     try dsimp only [xsto1, xsto2, xkill, xget, xset, gd_0, gd_s]
                     try rw [hp]
                     refine xG_run 2 rfl (by repeat' (first | exact trivial | assumption | exact xob_b rfl | exact xal_b rfl | (apply And.intro) | decide)) ?_
                     try dsimp only [xsto1, xsto2, xkill, xget, xset, gd_0, gd_s]
                     try rw [hp]
                     refine xG_br rfl (fun h166 => ?_) (fun h166 => ?_)
                     · first
                         | (exfalso; first | exact absurd h166 (by decide) | exact h166 (by decide))
                         | (refine xG_run 2 rfl (by repeat' (first | exact trivial | assumption | exact xob_b rfl | exact xal_b rfl | (apply And.intro) | decide)) ?_
                            try dsimp only [xsto1, xsto2, xkill, xget, xset, gd_0, gd_s]
                            try rw [hp]
                            have hac2 : ¬ acA R2 np2 nr2 (chr T z p) (fun i => (stS T z p 0).2.2.1.getD i 0) := fun q => by first | exact hp4 (((acA_c h3).mpr q).1 hc.1) | exact hp4 (q.2 hc.2.1)
                            have e0 : M3 = cpM M3 167 169 0 := cpM_0
                            rw [nI_1]
                            show xG κ mX12_text _ (175, [some (.ref 166), some (.int (nI j)), some (.int (rWR M j 0)), some (.int (nI (k + 1))), some (.int (nI p)), some (.int (chr T z p)), some (.int 0), some (.int (nI 0))], [], M3, z2) _
                            conv => arg 4; rw [e0]
                            refine xG_up (fun c => (175, [some (.ref 166), some (.int (nI j)), some (.int (rWR M j 0)), some (.int (nI (k + 1))), some (.int (nI p)), some (.int (chr T z p)), some (.int 0), some (.int (nI c))], [], cpM M3 167 169 c, z2)) 1651 ?_ ?_ 0 (Nat.zero_le _)
                            · intro c hc9 ih2
                              have hj1 : (nI c).toNatClampNeg = c := nI_cl (by omega)
                              have hsa : xar 167 0 182 (nI c) := xar_n rfl 1651 rfl (by omega) (by omega)
                              have hsb : xar 169 0 182 (nI c) := xar_n rfl 1651 rfl (by omega) (by omega)
                              refine xG_run 2 rfl (by repeat' (first | exact trivial | assumption | exact xob_b rfl | exact xal_b rfl | (apply And.intro) | decide)) ?_
                              try dsimp only [xsto1, xsto2, xkill, xget, xset, gd_0, gd_s]
                              refine xG_brF rfl (show ¬ nI 1651 ≤ nI c from nI_ge hc9 (by omega)) ?_
                              refine xG_run 8 rfl (by repeat' (first | exact trivial | assumption | exact xob_b rfl | exact xal_b rfl | (apply And.intro) | decide)) ?_
                              try dsimp only [xsto1, xsto2, xkill, xget, xset, gd_0, gd_s]
                              refine xG_run 2 rfl (by repeat' (first | exact trivial | assumption | exact xob_b rfl | exact xal_b rfl | (apply And.intro) | decide)) ?_
                              try dsimp only [xsto1, xsto2, xkill, xget, xset, gd_0, gd_s]
                              simp only [hj1]
                              rw [cpM_s (n := c) (n' := c + 1) (by decide) rfl, nI_1]
                              exact ih2
                            · refine xG_run 2 rfl (by repeat' (first | exact trivial | assumption | exact xob_b rfl | exact xal_b rfl | (apply And.intro) | decide)) ?_
                              try dsimp only [xsto1, xsto2, xkill, xget, xset, gd_0, gd_s]
                              refine xG_brT rfl (show nI 1651 ≤ nI 1651 from Int32.le_refl _) ?_
                              refine xG_run 3 rfl (by repeat' (first | exact trivial | assumption | exact xob_b rfl | exact xal_b rfl | (apply And.intro) | decide)) ?_
                              try dsimp only [xsto1, xsto2, xkill, xget, xset, gd_0, gd_s]
                              refine r2_i rfl rfl ?_
                              refine Or.inr (Or.inr ⟨h0, by rw [hfp0], ?_, fun k => ?_, mtX_t hX3 (mtX_c (Or.inl rfl))⟩)
                              · rw [hres, txL, if_pos hpn, f0, f1, if_neg hac2]
                              · rw [hres, txL, if_pos hpn, f0, f1, if_neg hac2, cpM_g]
                                by_cases ck : k < 1651
                                · rw [if_pos ⟨rfl, ck⟩]; exact h69 k ck
                                · rw [if_neg (fun q => ck q.2)]; exact h51 k (by omega))
                     · first
                         | (exfalso; first | exact absurd h166 (by decide) | exact h166 (by decide))
                         | (refine xG_run 1 rfl (by repeat' (first | exact trivial | assumption | exact xob_b rfl | exact xal_b rfl | (apply And.intro) | decide)) ?_
                            try dsimp only [xsto1, xsto2, xkill, xget, xset, gd_0, gd_s]
                            try rw [hp]
                            rw [nI_1]
                            have hac2 : acA R2 np2 nr2 (chr T z p) (fun i => (stS T z p 0).2.2.1.getD i 0) := by first | exact (acA_c h3).mp ⟨fun _ => hp4, fun q => absurd (hc.1.symm.trans q) (by decide)⟩ | exact ⟨fun q => absurd q hc.1, fun _ => hp4⟩ | exact ⟨fun q => absurd q hc.1, fun q => absurd q hc.2.1⟩
                            obtain ⟨C4, np4, nr4, hm4⟩ := mR_ac (sd := (stS T z p 0).2.2.2) hm2 hac2 (fun c1 => by first | exact fun k hk => hgl k (by omega) | exact absurd c1 hc.1) (fun c2 => by first | exact absurd (hc.1.symm.trans c2) (by decide) | exact ⟨fun k hk => hgl k (by omega), hc.2.2.2⟩ | exact absurd c2 hc.2.1) (hgl 0 (by omega))
                            refine ih (stS T z p 0).2.1 (k + 1) _ _ C4 np4 nr4 _ _ _ _ (by omega) okn ?_ ?_ hle hm4 ?_ ?_ ?_ ?_ ?_
                            · exact rT_X hT3 mtX_s (gI_ne (Or.inl (by decide))) (gI_ne (Or.inl (by decide))) rfl
                            · exact (gI_ne (Or.inl (by decide))).trans hp3
                            · intro k; unfold acM; rw [if_neg hc.1, if_neg hc.2.1, gIsI, gIsI, h3, hcl, hcl0, hn3 hc.2.2.1]
                            · exact fun k hk => (gI_ne (Or.inl (by decide))).trans (h69 k hk)
                            · exact fun k hk => (gI_ne (Or.inr (by show k ≠ 1650; omega))).trans (h51 k hk)
                            · exact mtX_t hX3 mtX_s
                            · rw [hres, txL, if_pos hpn, f0, f1, if_pos hac2])
                 · skip
                   refine xG_run 4 rfl (by repeat' (first | exact trivial | assumption | exact xob_b rfl | exact xal_b rfl | (apply And.intro) | decide)) ?_
                   try dsimp only [xsto1, xsto2, xkill, xget, xset, gd_0, gd_s]
                   refine xG_brT rfl (by rw [hT2.2.1, hp]; exact nI_le (by omega) (by omega)) ?_
                   refine xG_run 1 rfl (by repeat' (first | exact trivial | assumption | exact xob_b rfl | exact xal_b rfl | (apply And.intro) | decide)) ?_
                   try dsimp only [xsto1, xsto2, xkill, xget, xset, gd_0, gd_s]
                   refine r2_i rfl rfl ?_
                   have e9 : txL T z M (z + 1) M 0 0 = (nI k, R2) := by rw [hres]; rw [txL, if_neg hpn]
                   rw [e9]
                   exact Or.inr (Or.inr ⟨h0, by rw [hfp0], rfl, hR2, hX⟩)
             refine xG_run 2 rfl (by repeat' (first | exact trivial | assumption | exact xob_b rfl | exact xal_b rfl | (apply And.intro) | decide)) ?_
             try dsimp only [xsto1, xsto2, xkill, xget, xset, gd_0, gd_s]
             have e0 : Ma = cpM Ma 169 167 0 := cpM_0
             show xG κ mX12_text _ (47, [some (.ref 166), some (.int (nI j)), some (.int (rWR M j 0)), some (.int (nI 0)), none, none, none, none], [], Ma, z2) _
             conv => arg 4; rw [e0]
             refine xG_up (fun c => (47, [some (.ref 166), some (.int (nI j)), some (.int (rWR M j 0)), some (.int (nI c)), none, none, none, none], [], cpM Ma 169 167 c, z2)) 1651 ?_ ?_ 0 (Nat.zero_le _)
             · intro c hc ih
               have hj1 : (nI c).toNatClampNeg = c := nI_cl (by omega)
               have hsa : xar 169 0 182 (nI c) := xar_n rfl 1651 rfl (by omega) (by omega)
               have hsb : xar 167 0 182 (nI c) := xar_n rfl 1651 rfl (by omega) (by omega)
               refine xG_run 2 rfl (by repeat' (first | exact trivial | assumption | exact xob_b rfl | exact xal_b rfl | (apply And.intro) | decide)) ?_
               try dsimp only [xsto1, xsto2, xkill, xget, xset, gd_0, gd_s]
               refine xG_brF rfl (show ¬ nI 1651 ≤ nI c from nI_ge hc (by omega)) ?_
               refine xG_run 8 rfl (by repeat' (first | exact trivial | assumption | exact xob_b rfl | exact xal_b rfl | (apply And.intro) | decide)) ?_
               try dsimp only [xsto1, xsto2, xkill, xget, xset, gd_0, gd_s]
               refine xG_run 2 rfl (by repeat' (first | exact trivial | assumption | exact xob_b rfl | exact xal_b rfl | (apply And.intro) | decide)) ?_
               try dsimp only [xsto1, xsto2, xkill, xget, xset, gd_0, gd_s]
               simp only [hj1]
               rw [cpM_s (n := c) (n' := c + 1) (by decide) rfl, nI_1]
               exact ih
             · refine xG_run 2 rfl (by repeat' (first | exact trivial | assumption | exact xob_b rfl | exact xal_b rfl | (apply And.intro) | decide)) ?_
               try dsimp only [xsto1, xsto2, xkill, xget, xset, gd_0, gd_s]
               refine xG_brT rfl (show nI 1651 ≤ nI 1651 from Int32.le_refl _) ?_
               refine xG_run 5 rfl (by repeat' (first | exact trivial | assumption | exact xob_b rfl | exact xal_b rfl | (apply And.intro) | decide)) ?_
               try dsimp only [xsto1, xsto2, xkill, xget, xset, gd_0, gd_s]
               have hXb : mtX M (sI (cpM Ma 169 167 1651) 166 12 0) := mtX_t hXa (mtX_t (mtX_c (Or.inr rfl)) (mtX_i (by omega)))
               refine lp3 (z + 1) 0 0 (sI (cpM Ma 169 167 1651) 166 12 0) M C np nr none none none none (by omega) (fun _ => by rw [hfp]) ?_ (gI_self _ _ _ _) (Nat.zero_le _) hm ?_ ?_ ?_ hXb rfl
               · exact rT_X hTa (mtX_t (mtX_c (Or.inr rfl)) (mtX_i (by omega))) (by simp (disch := omega) only [g_ne]; rfl) (by simp (disch := omega) only [g_ne]; rfl) rfl
               · exact fun k => (gI_ne (Or.inl (by decide))).trans (by rw [cpM_g, if_neg (by omega)]; exact h167a k)
               · exact fun k hk => (gI_ne (Or.inl (by decide))).trans (by rw [cpM_g, if_pos ⟨rfl, hk⟩]; exact h167a k)
               · exact fun k hk => (gI_ne (Or.inl (by decide))).trans (by rw [cpM_g, if_neg (by omega)]; exact h167a k)
           have lp1 : ∀ (f p : Nat) (M2 : xM), z - p < f → rT M2 173 (120 * j) z T → gI M2 166 12 = nI p → p ≤ z → mtX M M2 → (∀ k, gI M2 167 k = gI M 167 k) → fpR T z (z + 1) 0 = fpR T z f p → xG κ mX12_text (d, 0, 0) (18, [some (.ref 166), some (.int (nI j)), some (.int (rWR M j 0)), none, none, none, none, none], [], M2, z2) (xRet mX12_text false (fun v M' n' => n' = 182 ∧ ((¬ rWR M j 0 = 0 ∧ v = some (.int (rWR M j 0)) ∧ M' = M) ∨ (rWR M j 0 = 0 ∧ (fpR T z (z + 1) 0).1 = false ∧ v = some (.int (-1000 - nI (fpR T z (z + 1) 0).2)) ∧ (∀ k, gI M' 167 k = gI M 167 k) ∧ mtX M M') ∨ (rWR M j 0 = 0 ∧ (fpR T z (z + 1) 0).1 = true ∧ v = some (.int (txL T z M (z + 1) M 0 0).1) ∧ (∀ k, gI M' 167 k = gI (txL T z M (z + 1) M 0 0).2 167 k) ∧ mtX M M')))) := by
             intro f
             induction f with
             | zero => intro p M2 hf; omega
             | succ f ih =>
               intro p M2 hf hT2 hp hpz hX h167 hres
               refine xG_run 1 rfl (by repeat' (first | exact trivial | assumption | exact xob_b rfl | exact xal_b rfl | (apply And.intro) | decide)) ?_
               try dsimp only [xsto1, xsto2, xkill, xget, xset, gd_0, gd_s]
               refine xG_c2 0 rfl (by repeat' (first | exact trivial | assumption | exact xob_b rfl | exact xal_b rfl | (apply And.intro) | decide)) rfl rfl (by decide) cw_X12_readsStatement (d' := d - 1) (e_readsStatement (p := p) hT2 hp hpz (by omega)) (by omega) ?_
               rintro v M3 ⟨rfl, hp3, hF3, -⟩
               dsimp only [Option.toList, List.cons_append, List.nil_append]
               have hT3 := rT_F hT2 hF3
               have hle := stS_le (T := T) (n := z) (p := p) (sd := 0) hpz
               have hgt := stS_gt (T := T) (n := z) (p := p) (sd := 0)
               rcases hst : stS T z p 0 with ⟨ok, q, l, sx⟩
               rw [hst] at hp3 hle hgt
               dsimp only at hp3 hle hgt
               cases ok
               · dsimp only [Option.toList, List.cons_append, List.nil_append]
                 refine xG_br rfl (fun h22 => ?_) (fun h22 => ?_)
                 · first
                     | (exfalso; first | exact absurd h22 (by decide) | exact h22 (by decide) | (simp at h22; done))
                     | (refine xG_run 4 rfl (by repeat' (first | exact trivial | assumption | exact xob_b rfl | exact xal_b rfl | (apply And.intro) | decide)) ?_
                        try dsimp only [xsto1, xsto2, xkill, xget, xset, gd_0, gd_s]
                        refine xG_br rfl (fun h42 => ?_) (fun h42 => ?_)
                        · rw [hT3.2.1, hp3] at h42
                          have hqz : q < z := (nI_ltI (by omega) (by omega)).mp h42
                          exact ih q M3 (by have := hgt rfl; omega) hT3 hp3 (by omega) (mtX_t hX (mtX_F hF3)) (fun k => (hF3.1 167 k (by decide) (by omega)).trans (h167 k)) (by rw [hres, fpR, hst, if_neg (by simp), if_pos hqz])
                        · rw [hT3.2.1, hp3] at h42
                          have hqz : ¬ q < z := fun y => h42 (nI_lt y (by omega))
                          have hfp : fpR T z (z + 1) 0 = (true, z) := by rw [hres, fpR, hst, if_neg (by simp), if_neg hqz]
                          exact lp2 M3 hT3 (mtX_t hX (mtX_F hF3)) (fun k => (hF3.1 167 k (by decide) (by omega)).trans (h167 k)) hfp)
                 · first
                     | (exfalso; first | exact absurd h22 (by decide) | exact h22 (by decide) | (simp at h22; done))
                     | (refine xG_run 4 rfl (by repeat' (first | exact trivial | assumption | exact xob_b rfl | exact xal_b rfl | (apply And.intro) | decide)) ?_
                        try dsimp only [xsto1, xsto2, xkill, xget, xset, gd_0, gd_s]
                        refine r2_i rfl rfl ?_
                        rw [hp3]
                        refine Or.inr (Or.inl ⟨h0, ?_, ?_, fun k => (hF3.1 167 k (by decide) (by omega)).trans (h167 k), mtX_t hX (mtX_F hF3)⟩)
                        · rw [hres, fpR, hst, if_pos rfl]
                        · rw [hres, fpR, hst, if_pos rfl])
               · dsimp only [Option.toList, List.cons_append, List.nil_append]
                 refine xG_br rfl (fun h22 => ?_) (fun h22 => ?_)
                 · first
                     | (exfalso; first | exact absurd h22 (by decide) | exact h22 (by decide) | (simp at h22; done))
                     | (refine xG_run 4 rfl (by repeat' (first | exact trivial | assumption | exact xob_b rfl | exact xal_b rfl | (apply And.intro) | decide)) ?_
                        try dsimp only [xsto1, xsto2, xkill, xget, xset, gd_0, gd_s]
                        refine xG_br rfl (fun h42 => ?_) (fun h42 => ?_)
                        · rw [hT3.2.1, hp3] at h42
                          have hqz : q < z := (nI_ltI (by omega) (by omega)).mp h42
                          exact ih q M3 (by have := hgt rfl; omega) hT3 hp3 (by omega) (mtX_t hX (mtX_F hF3)) (fun k => (hF3.1 167 k (by decide) (by omega)).trans (h167 k)) (by rw [hres, fpR, hst, if_neg (by simp), if_pos hqz])
                        · rw [hT3.2.1, hp3] at h42
                          have hqz : ¬ q < z := fun y => h42 (nI_lt y (by omega))
                          have hfp : fpR T z (z + 1) 0 = (true, z) := by rw [hres, fpR, hst, if_neg (by simp), if_neg hqz]
                          exact lp2 M3 hT3 (mtX_t hX (mtX_F hF3)) (fun k => (hF3.1 167 k (by decide) (by omega)).trans (h167 k)) hfp)
                 · first
                     | (exfalso; first | exact absurd h22 (by decide) | exact h22 (by decide) | (simp at h22; done))
                     | (refine xG_run 4 rfl (by repeat' (first | exact trivial | assumption | exact xob_b rfl | exact xal_b rfl | (apply And.intro) | decide)) ?_
                        try dsimp only [xsto1, xsto2, xkill, xget, xset, gd_0, gd_s]
                        refine r2_i rfl rfl ?_
                        rw [hp3]
                        refine Or.inr (Or.inl ⟨h0, ?_, ?_, fun k => (hF3.1 167 k (by decide) (by omega)).trans (h167 k), mtX_t hX (mtX_F hF3)⟩)
                        · rw [hres, fpR, hst, if_pos rfl]
                        · rw [hres, fpR, hst, if_pos rfl])
           refine lp1 (z + 1) 0 (rpO M j) (by omega) hTr (gI_self _ _ _ _) (Nat.zero_le _) ⟨fun x k q1 q2 q3 q4 => ?_, fun _ _ => rfl, fun x k q => gP_ne (by omega)⟩ (fun k => ?_) rfl
           · unfold rpO; simp (disch := omega) only [g_ne]; rfl
           · unfold rpO; simp (disch := omega) only [g_ne]; rfl)
    · first
        | (exfalso; exact absurd h8 (by decide))
        | (refine xG_run 1 rfl (by repeat' (first | exact trivial | assumption | exact xob_b rfl | exact xal_b rfl | (apply And.intro) | decide)) ?_
           try dsimp only [xsto1, xsto2, xkill, xget, xset, gd_0, gd_s]
           refine r2_i rfl rfl ?_
           first
             | exact Or.inr ⟨hno, rfl, rfl⟩
             | exact Or.inl ⟨j, z, hj, rfl, hz2, hz1, Or.inl ⟨h8, rfl, rfl⟩⟩)
  · dsimp only [Option.toList, List.cons_append, List.nil_append]
    refine xG_run 2 rfl (by repeat' (first | exact trivial | assumption | exact xob_b rfl | exact xal_b rfl | (apply And.intro) | decide)) ?_
    try dsimp only [xsto1, xsto2, xkill, xget, xset, gd_0, gd_s]
    refine xG_br rfl (fun h8 => ?_) (fun h8 => ?_)
    · first
        | (exfalso; exact absurd h8 (by decide))
        | (refine xG_run 2 rfl (by repeat' (first | exact trivial | assumption | exact xob_b rfl | exact xal_b rfl | (apply And.intro) | decide)) ?_
           try dsimp only [xsto1, xsto2, xkill, xget, xset, gd_0, gd_s]
           refine xG_c2 1 rfl (by repeat' (first | exact trivial | assumption | exact xob_b rfl | exact xal_b rfl | (apply And.intro) | decide)) rfl rfl (by decide) cw_X12_opens (d' := d - 1) (e_opens hj) (by omega) ?_
           rintro v M' ⟨rfl, hM⟩
           subst M'
           dsimp only [Option.toList, List.cons_append, List.nil_append]
           have h0 : rWR M j 0 = 0 := h8
           refine xG_imp (P := fun v M' => ((¬ rWR M j 0 = 0 ∧ v = some (.int (rWR M j 0)) ∧ M' = M) ∨ (rWR M j 0 = 0 ∧ (fpR T z (z + 1) 0).1 = false ∧ v = some (.int (-1000 - nI (fpR T z (z + 1) 0).2)) ∧ (∀ k, gI M' 167 k = gI M 167 k) ∧ mtX M M') ∨ (rWR M j 0 = 0 ∧ (fpR T z (z + 1) 0).1 = true ∧ v = some (.int (txL T z M (z + 1) M 0 0).1) ∧ (∀ k, gI M' 167 k = gI (txL T z M (z + 1) M 0 0).2 167 k) ∧ mtX M M'))) (fun v M' h9 => Or.inl ⟨j, z, hj, rfl, hz2, hz1, by rw [hTd]; exact h9⟩) ?_
           have hTr : rT (rpO M j) 173 (120 * j) z T := by
             unfold rpO
             refine ⟨by simp (disch := omega) only [g_ne, g_eq], by simp (disch := omega) only [g_ne, g_eq]; exact hz2, rfl, fun k hk => ?_, hz1, Or.inl ⟨rfl, by omega⟩⟩
             simp (disch := omega) only [g_ne]
             rw [← hTd]
             rfl
           have lp2 : ∀ (Ma : xM), rT Ma 173 (120 * j) z T → mtX M Ma → (∀ k, gI Ma 167 k = gI M 167 k) → fpR T z (z + 1) 0 = (true, z) → xG κ mX12_text (d, 0, 0) (45, [some (.ref 166), some (.int (nI j)), some (.int (rWR M j 0)), none, none, none, none, none], [], Ma, z2) (xRet mX12_text false (fun v M' n' => n' = 182 ∧ ((¬ rWR M j 0 = 0 ∧ v = some (.int (rWR M j 0)) ∧ M' = M) ∨ (rWR M j 0 = 0 ∧ (fpR T z (z + 1) 0).1 = false ∧ v = some (.int (-1000 - nI (fpR T z (z + 1) 0).2)) ∧ (∀ k, gI M' 167 k = gI M 167 k) ∧ mtX M M') ∨ (rWR M j 0 = 0 ∧ (fpR T z (z + 1) 0).1 = true ∧ v = some (.int (txL T z M (z + 1) M 0 0).1) ∧ (∀ k, gI M' 167 k = gI (txL T z M (z + 1) M 0 0).2 167 k) ∧ mtX M M')))) := by
             intro Ma hTa hXa h167a hfp
             have hfp0 := hfp
             have lp3 : ∀ (f p k : Nat) (M2 R2 C : xM) (np2 nr2 : Nat) (x4 x5 x6 x7 : Option Value), z - p ≤ f → (p < z → (fpR T z f p).1 = true) → rT M2 173 (120 * j) z T → gI M2 166 12 = nI p → p ≤ z → mR C 1 R2 167 np2 nr2 ng → (∀ k, gI M2 167 k = gI R2 167 k) → (∀ k, k < 1651 → gI M2 169 k = gI M 167 k) → (∀ k, 1651 ≤ k → gI M2 167 k = gI M 167 k) → mtX M M2 → txL T z M (z + 1) M 0 0 = txL T z M f R2 p k → xG κ mX12_text (d, 0, 0) (79, [some (.ref 166), some (.int (nI j)), some (.int (rWR M j 0)), some (.int (nI k)), x4, x5, x6, x7], [], M2, z2) (xRet mX12_text false (fun v M' n' => n' = 182 ∧ ((¬ rWR M j 0 = 0 ∧ v = some (.int (rWR M j 0)) ∧ M' = M) ∨ (rWR M j 0 = 0 ∧ (fpR T z (z + 1) 0).1 = false ∧ v = some (.int (-1000 - nI (fpR T z (z + 1) 0).2)) ∧ (∀ k, gI M' 167 k = gI M 167 k) ∧ mtX M M') ∨ (rWR M j 0 = 0 ∧ (fpR T z (z + 1) 0).1 = true ∧ v = some (.int (txL T z M (z + 1) M 0 0).1) ∧ (∀ k, gI M' 167 k = gI (txL T z M (z + 1) M 0 0).2 167 k) ∧ mtX M M')))) := by
               intro f
               induction f with
               | zero =>
                 intro p k M2 R2 C np2 nr2 x4 x5 x6 x7 hf hfp hT2 hp hpz hm2 hR2 hB hO hX hres
                 have hpn : ¬ p < z := by omega
                 refine xG_run 4 rfl (by repeat' (first | exact trivial | assumption | exact xob_b rfl | exact xal_b rfl | (apply And.intro) | decide)) ?_
                 try dsimp only [xsto1, xsto2, xkill, xget, xset, gd_0, gd_s]
                 refine xG_brT rfl (by rw [hT2.2.1, hp]; exact nI_le (by omega) (by omega)) ?_
                 refine xG_run 1 rfl (by repeat' (first | exact trivial | assumption | exact xob_b rfl | exact xal_b rfl | (apply And.intro) | decide)) ?_
                 try dsimp only [xsto1, xsto2, xkill, xget, xset, gd_0, gd_s]
                 refine r2_i rfl rfl ?_
                 have e9 : txL T z M (z + 1) M 0 0 = (nI k, R2) := by rw [hres]; rw [txL]
                 rw [e9]
                 exact Or.inr (Or.inr ⟨h0, by rw [hfp0], rfl, hR2, hX⟩)
               | succ f ih =>
                 intro p k M2 R2 C np2 nr2 x4 x5 x6 x7 hf hfp hT2 hp hpz hm2 hR2 hB hO hX hres
                 by_cases hpn : p < z
                 · skip
                   refine xG_run 4 rfl (by repeat' (first | exact trivial | assumption | exact xob_b rfl | exact xal_b rfl | (apply And.intro) | decide)) ?_
                   try dsimp only [xsto1, xsto2, xkill, xget, xset, gd_0, gd_s]
                   try rw [hp]
                   refine xG_brF rfl (by rw [hT2.2.1]; exact nI_ge hpn (by omega)) ?_
                   refine xG_run 4 rfl (by repeat' (first | exact trivial | assumption | exact xob_b rfl | exact xal_b rfl | (apply And.intro) | decide)) ?_
                   try dsimp only [xsto1, xsto2, xkill, xget, xset, gd_0, gd_s]
                   try rw [hp]
                   refine xG_c2 0 rfl (by repeat' (first | exact trivial | assumption | exact xob_b rfl | exact xal_b rfl | (apply And.intro) | decide)) rfl rfl (by decide) cw_X12_sign (d' := d - 1) (e_sign (p := p) hT2 hp (by omega)) (by omega) ?_
                   rintro v M' ⟨rfl, hM⟩
                   subst M'
                   dsimp only [Option.toList, List.cons_append, List.nil_append]
                   refine xG_run 2 rfl (by repeat' (first | exact trivial | assumption | exact xob_b rfl | exact xal_b rfl | (apply And.intro) | decide)) ?_
                   try dsimp only [xsto1, xsto2, xkill, xget, xset, gd_0, gd_s]
                   try rw [hp]
                   refine xG_c2 0 rfl (by repeat' (first | exact trivial | assumption | exact xob_b rfl | exact xal_b rfl | (apply And.intro) | decide)) rfl rfl (by decide) cw_X12_readsStatement (d' := d - 1) (e_readsStatement (p := p) hT2 hp hpz (by omega)) (by omega) ?_
                   rintro v M3 ⟨rfl, hp3, hF3, hnum⟩
                   dsimp only [Option.toList, List.cons_append, List.nil_append]
                   obtain ⟨ok0, okn⟩ := fpR_s (hfp hpn)
                   have hle := stS_le (T := T) (n := z) (p := p) (sd := 0) hpz
                   have hgt := stS_gt (T := T) (n := z) (p := p) (sd := 0) ok0
                   obtain ⟨hgl, hln⟩ := stS_ok ok0
                   obtain ⟨hn1, hn2, hn3⟩ := hnum ok0
                   rw [if_pos ok0]
                   have hT3 := rT_F hT2 hF3
                   have h3 : ∀ k, gI M3 167 k = gI R2 167 k := fun k => (hF3.1 167 k (by decide) (by omega)).trans (hR2 k)
                   have h69 : ∀ k, k < 1651 → gI M3 169 k = gI M 167 k := fun k hk => (hF3.1 169 k (by decide) (by omega)).trans (hB k hk)
                   have h51 : ∀ k, 1651 ≤ k → gI M3 167 k = gI M 167 k := fun k hk => (hF3.1 167 k (by decide) (by omega)).trans (hO k hk)
                   have hX3 := mtX_t hX (mtX_F hF3)
                   have f0 : (gI R2 167 1643).toNatClampNeg = np2 := by rw [hm2.2.1.2]; exact nI_cl (by have := hm2.1.1; omega)
                   have f1 : (gI R2 167 1644).toNatClampNeg = nr2 := by rw [hm2.2.2.1.2]; exact nI_cl (by have := hm2.1.2.1; omega)
                   have g3 : gI M3 167 1643 = nI np2 := (h3 _).trans hm2.2.1.2
                   have g4 : gI M3 167 1644 = nI nr2 := (h3 _).trans hm2.2.2.1.2
                   have hnp := hm2.1.1
                   have hnr := hm2.1.2.1
                   have hw : np2 ≠ 0 → nr3 1 99 (rs M3 (np2 - 1) 1) := fun q => by rw [rs_c h3]; exact (r_pB hm2 (p := np2 - 1) (by omega)).2.1
                   have hs9 : xar 167 0 182 1650 := xar_n (j := 1650) rfl 1651 rfl (by omega) (by omega)
                   have hs8 : xar 177 0 182 0 := xar_n (j := 0) rfl 6 rfl (by omega) (by omega)
                   have hcl : (1650 : Int32).toNatClampNeg = 1650 := rfl
                   have hcl0 : (0 : Int32).toNatClampNeg = 0 := rfl
                   have hlen1 : 1 ≤ (stS T z p 0).2.2.1.length := by rcases hln with q | q | q <;> omega
                   rcases hln with hc | hc | hc
                   · skip
                     refine xG_run 3 rfl (by repeat' (first | exact trivial | assumption | exact xob_b rfl | exact xal_b rfl | (apply And.intro) | decide)) ?_
                     try dsimp only [xsto1, xsto2, xkill, xget, xset, gd_0, gd_s]
                     try rw [hp]
                     refine xG_brF rfl (fun y => y hc.1) ?_
                     refine xG_run 1 rfl (by repeat' (first | exact trivial | assumption | exact xob_b rfl | exact xal_b rfl | (apply And.intro) | decide)) ?_
                     try dsimp only [xsto1, xsto2, xkill, xget, xset, gd_0, gd_s]
                     try rw [hp]
                     refine xG_c2 0 rfl (by repeat' (first | exact trivial | assumption | exact xob_b rfl | exact xal_b rfl | (apply And.intro) | decide)) rfl rfl (by decide) cw_X12_makesPiece (d' := d - 1) (e_makesPiece (a := fun i => (stS T z p 0).2.2.1.getD i 0) g3 hnp hw (hn1 hc.1) (by omega)) (by omega) ?_
                     rintro v M4 (⟨hp4, rfl, rfl⟩ | ⟨hp4, rfl, hM4⟩)
                     · dsimp only [Option.toList, List.cons_append, List.nil_append]
                       refine xG_run 4 rfl (by repeat' (first | exact trivial | assumption | exact xob_b rfl | exact xal_b rfl | (apply And.intro) | decide)) ?_
                       try dsimp only [xsto1, xsto2, xkill, xget, xset, gd_0, gd_s]
                       try rw [hp]
                       refine xG_brT rfl (by rw [hc.1]; decide) ?_
                       refine xG_run 2 rfl (by repeat' (first | exact trivial | assumption | exact xob_b rfl | exact xal_b rfl | (apply And.intro) | decide)) ?_
                       try dsimp only [xsto1, xsto2, xkill, xget, xset, gd_0, gd_s]
                       try rw [hp]
                       refine xG_br rfl (fun h166 => ?_) (fun h166 => ?_)
                       · first
                           | (exfalso; first | exact absurd h166 (by decide) | exact h166 (by decide))
                           | (refine xG_run 2 rfl (by repeat' (first | exact trivial | assumption | exact xob_b rfl | exact xal_b rfl | (apply And.intro) | decide)) ?_
                              try dsimp only [xsto1, xsto2, xkill, xget, xset, gd_0, gd_s]
                              try rw [hp]
                              have hac2 : ¬ acA R2 np2 nr2 (chr T z p) (fun i => (stS T z p 0).2.2.1.getD i 0) := fun q => by first | exact hp4 (((acA_c h3).mpr q).1 hc.1) | exact hp4 (q.2 hc.2.1)
                              have e0 : M3 = cpM M3 167 169 0 := cpM_0
                              rw [nI_1]
                              show xG κ mX12_text _ (175, [some (.ref 166), some (.int (nI j)), some (.int (rWR M j 0)), some (.int (nI (k + 1))), some (.int (nI p)), some (.int (chr T z p)), some (.int 0), some (.int (nI 0))], [], M3, z2) _
                              conv => arg 4; rw [e0]
                              refine xG_up (fun c => (175, [some (.ref 166), some (.int (nI j)), some (.int (rWR M j 0)), some (.int (nI (k + 1))), some (.int (nI p)), some (.int (chr T z p)), some (.int 0), some (.int (nI c))], [], cpM M3 167 169 c, z2)) 1651 ?_ ?_ 0 (Nat.zero_le _)
                              · intro c hc9 ih2
                                have hj1 : (nI c).toNatClampNeg = c := nI_cl (by omega)
                                have hsa : xar 167 0 182 (nI c) := xar_n rfl 1651 rfl (by omega) (by omega)
                                have hsb : xar 169 0 182 (nI c) := xar_n rfl 1651 rfl (by omega) (by omega)
                                refine xG_run 2 rfl (by repeat' (first | exact trivial | assumption | exact xob_b rfl | exact xal_b rfl | (apply And.intro) | decide)) ?_
                                try dsimp only [xsto1, xsto2, xkill, xget, xset, gd_0, gd_s]
                                refine xG_brF rfl (show ¬ nI 1651 ≤ nI c from nI_ge hc9 (by omega)) ?_
                                refine xG_run 8 rfl (by repeat' (first | exact trivial | assumption | exact xob_b rfl | exact xal_b rfl | (apply And.intro) | decide)) ?_
                                try dsimp only [xsto1, xsto2, xkill, xget, xset, gd_0, gd_s]
                                refine xG_run 2 rfl (by repeat' (first | exact trivial | assumption | exact xob_b rfl | exact xal_b rfl | (apply And.intro) | decide)) ?_
                                try dsimp only [xsto1, xsto2, xkill, xget, xset, gd_0, gd_s]
                                simp only [hj1]
                                rw [cpM_s (n := c) (n' := c + 1) (by decide) rfl, nI_1]
                                exact ih2
                              · refine xG_run 2 rfl (by repeat' (first | exact trivial | assumption | exact xob_b rfl | exact xal_b rfl | (apply And.intro) | decide)) ?_
                                try dsimp only [xsto1, xsto2, xkill, xget, xset, gd_0, gd_s]
                                refine xG_brT rfl (show nI 1651 ≤ nI 1651 from Int32.le_refl _) ?_
                                refine xG_run 3 rfl (by repeat' (first | exact trivial | assumption | exact xob_b rfl | exact xal_b rfl | (apply And.intro) | decide)) ?_
                                try dsimp only [xsto1, xsto2, xkill, xget, xset, gd_0, gd_s]
                                refine r2_i rfl rfl ?_
                                refine Or.inr (Or.inr ⟨h0, by rw [hfp0], ?_, fun k => ?_, mtX_t hX3 (mtX_c (Or.inl rfl))⟩)
                                · rw [hres, txL, if_pos hpn, f0, f1, if_neg hac2]
                                · rw [hres, txL, if_pos hpn, f0, f1, if_neg hac2, cpM_g]
                                  by_cases ck : k < 1651
                                  · rw [if_pos ⟨rfl, ck⟩]; exact h69 k ck
                                  · rw [if_neg (fun q => ck q.2)]; exact h51 k (by omega))
                       · first
                           | (exfalso; first | exact absurd h166 (by decide) | exact h166 (by decide))
                           | (refine xG_run 1 rfl (by repeat' (first | exact trivial | assumption | exact xob_b rfl | exact xal_b rfl | (apply And.intro) | decide)) ?_
                              try dsimp only [xsto1, xsto2, xkill, xget, xset, gd_0, gd_s]
                              try rw [hp]
                              rw [nI_1]
                              have hac2 : acA R2 np2 nr2 (chr T z p) (fun i => (stS T z p 0).2.2.1.getD i 0) := by first | exact (acA_c h3).mp ⟨fun _ => hp4, fun q => absurd (hc.1.symm.trans q) (by decide)⟩ | exact ⟨fun q => absurd q hc.1, fun _ => hp4⟩ | exact ⟨fun q => absurd q hc.1, fun q => absurd q hc.2.1⟩
                              obtain ⟨C4, np4, nr4, hm4⟩ := mR_ac (sd := (stS T z p 0).2.2.2) hm2 hac2 (fun c1 => by first | exact fun k hk => hgl k (by omega) | exact absurd c1 hc.1) (fun c2 => by first | exact absurd (hc.1.symm.trans c2) (by decide) | exact ⟨fun k hk => hgl k (by omega), hc.2.2.2⟩ | exact absurd c2 hc.2.1) (hgl 0 (by omega))
                              refine ih (stS T z p 0).2.1 (k + 1) _ _ C4 np4 nr4 _ _ _ _ (by omega) okn ?_ ?_ hle hm4 ?_ ?_ ?_ ?_ ?_
                              · exact rT_X hT3 mtX_pc rfl rfl rfl
                              · exact (pc_o (by omega)).trans hp3
                              · intro k; unfold acM; rw [if_pos hc.1, pcM_g, pcM_g, h3]
                              · exact fun k hk => (pc_o (by omega)).trans (h69 k hk)
                              · exact fun k hk => (pcM_n hk (by omega)).trans (h51 k hk)
                              · exact mtX_t hX3 mtX_pc
                              · rw [hres, txL, if_pos hpn, f0, f1, if_pos hac2])
                     · subst M4
                       dsimp only [Option.toList, List.cons_append, List.nil_append]
                       refine xG_run 4 rfl (by repeat' (first | exact trivial | assumption | exact xob_b rfl | exact xal_b rfl | (apply And.intro) | decide)) ?_
                       try dsimp only [xsto1, xsto2, xkill, xget, xset, gd_0, gd_s]
                       try rw [hp]
                       refine xG_brT rfl (by rw [hc.1]; decide) ?_
                       refine xG_run 2 rfl (by repeat' (first | exact trivial | assumption | exact xob_b rfl | exact xal_b rfl | (apply And.intro) | decide)) ?_
                       try dsimp only [xsto1, xsto2, xkill, xget, xset, gd_0, gd_s]
                       try rw [hp]
                       refine xG_br rfl (fun h166 => ?_) (fun h166 => ?_)
                       · first
                           | (exfalso; first | exact absurd h166 (by decide) | exact h166 (by decide))
                           | (refine xG_run 2 rfl (by repeat' (first | exact trivial | assumption | exact xob_b rfl | exact xal_b rfl | (apply And.intro) | decide)) ?_
                              try dsimp only [xsto1, xsto2, xkill, xget, xset, gd_0, gd_s]
                              try rw [hp]
                              have hac2 : ¬ acA R2 np2 nr2 (chr T z p) (fun i => (stS T z p 0).2.2.1.getD i 0) := fun q => by first | exact hp4 (((acA_c h3).mpr q).1 hc.1) | exact hp4 (q.2 hc.2.1)
                              have e0 : M3 = cpM M3 167 169 0 := cpM_0
                              rw [nI_1]
                              show xG κ mX12_text _ (175, [some (.ref 166), some (.int (nI j)), some (.int (rWR M j 0)), some (.int (nI (k + 1))), some (.int (nI p)), some (.int (chr T z p)), some (.int 0), some (.int (nI 0))], [], M3, z2) _
                              conv => arg 4; rw [e0]
                              refine xG_up (fun c => (175, [some (.ref 166), some (.int (nI j)), some (.int (rWR M j 0)), some (.int (nI (k + 1))), some (.int (nI p)), some (.int (chr T z p)), some (.int 0), some (.int (nI c))], [], cpM M3 167 169 c, z2)) 1651 ?_ ?_ 0 (Nat.zero_le _)
                              · intro c hc9 ih2
                                have hj1 : (nI c).toNatClampNeg = c := nI_cl (by omega)
                                have hsa : xar 167 0 182 (nI c) := xar_n rfl 1651 rfl (by omega) (by omega)
                                have hsb : xar 169 0 182 (nI c) := xar_n rfl 1651 rfl (by omega) (by omega)
                                refine xG_run 2 rfl (by repeat' (first | exact trivial | assumption | exact xob_b rfl | exact xal_b rfl | (apply And.intro) | decide)) ?_
                                try dsimp only [xsto1, xsto2, xkill, xget, xset, gd_0, gd_s]
                                refine xG_brF rfl (show ¬ nI 1651 ≤ nI c from nI_ge hc9 (by omega)) ?_
                                refine xG_run 8 rfl (by repeat' (first | exact trivial | assumption | exact xob_b rfl | exact xal_b rfl | (apply And.intro) | decide)) ?_
                                try dsimp only [xsto1, xsto2, xkill, xget, xset, gd_0, gd_s]
                                refine xG_run 2 rfl (by repeat' (first | exact trivial | assumption | exact xob_b rfl | exact xal_b rfl | (apply And.intro) | decide)) ?_
                                try dsimp only [xsto1, xsto2, xkill, xget, xset, gd_0, gd_s]
                                simp only [hj1]
                                rw [cpM_s (n := c) (n' := c + 1) (by decide) rfl, nI_1]
                                exact ih2
                              · refine xG_run 2 rfl (by repeat' (first | exact trivial | assumption | exact xob_b rfl | exact xal_b rfl | (apply And.intro) | decide)) ?_
                                try dsimp only [xsto1, xsto2, xkill, xget, xset, gd_0, gd_s]
                                refine xG_brT rfl (show nI 1651 ≤ nI 1651 from Int32.le_refl _) ?_
                                refine xG_run 3 rfl (by repeat' (first | exact trivial | assumption | exact xob_b rfl | exact xal_b rfl | (apply And.intro) | decide)) ?_
                                try dsimp only [xsto1, xsto2, xkill, xget, xset, gd_0, gd_s]
                                refine r2_i rfl rfl ?_
                                refine Or.inr (Or.inr ⟨h0, by rw [hfp0], ?_, fun k => ?_, mtX_t hX3 (mtX_c (Or.inl rfl))⟩)
                                · rw [hres, txL, if_pos hpn, f0, f1, if_neg hac2]
                                · rw [hres, txL, if_pos hpn, f0, f1, if_neg hac2, cpM_g]
                                  by_cases ck : k < 1651
                                  · rw [if_pos ⟨rfl, ck⟩]; exact h69 k ck
                                  · rw [if_neg (fun q => ck q.2)]; exact h51 k (by omega))
                       · first
                           | (exfalso; first | exact absurd h166 (by decide) | exact h166 (by decide))
                           | (refine xG_run 1 rfl (by repeat' (first | exact trivial | assumption | exact xob_b rfl | exact xal_b rfl | (apply And.intro) | decide)) ?_
                              try dsimp only [xsto1, xsto2, xkill, xget, xset, gd_0, gd_s]
                              try rw [hp]
                              rw [nI_1]
                              have hac2 : acA R2 np2 nr2 (chr T z p) (fun i => (stS T z p 0).2.2.1.getD i 0) := by first | exact (acA_c h3).mp ⟨fun _ => hp4, fun q => absurd (hc.1.symm.trans q) (by decide)⟩ | exact ⟨fun q => absurd q hc.1, fun _ => hp4⟩ | exact ⟨fun q => absurd q hc.1, fun q => absurd q hc.2.1⟩
                              obtain ⟨C4, np4, nr4, hm4⟩ := mR_ac (sd := (stS T z p 0).2.2.2) hm2 hac2 (fun c1 => by first | exact fun k hk => hgl k (by omega) | exact absurd c1 hc.1) (fun c2 => by first | exact absurd (hc.1.symm.trans c2) (by decide) | exact ⟨fun k hk => hgl k (by omega), hc.2.2.2⟩ | exact absurd c2 hc.2.1) (hgl 0 (by omega))
                              refine ih (stS T z p 0).2.1 (k + 1) _ _ C4 np4 nr4 _ _ _ _ (by omega) okn ?_ ?_ hle hm4 ?_ ?_ ?_ ?_ ?_
                              · exact rT_X hT3 mtX_pc rfl rfl rfl
                              · exact (pc_o (by omega)).trans hp3
                              · intro k; unfold acM; rw [if_pos hc.1, pcM_g, pcM_g, h3]
                              · exact fun k hk => (pc_o (by omega)).trans (h69 k hk)
                              · exact fun k hk => (pcM_n hk (by omega)).trans (h51 k hk)
                              · exact mtX_t hX3 mtX_pc
                              · rw [hres, txL, if_pos hpn, f0, f1, if_pos hac2])
                   · skip
                     refine xG_run 3 rfl (by repeat' (first | exact trivial | assumption | exact xob_b rfl | exact xal_b rfl | (apply And.intro) | decide)) ?_
                     try dsimp only [xsto1, xsto2, xkill, xget, xset, gd_0, gd_s]
                     try rw [hp]
                     refine xG_brT rfl (hc.1) ?_
                     refine xG_run 2 rfl (by repeat' (first | exact trivial | assumption | exact xob_b rfl | exact xal_b rfl | (apply And.intro) | decide)) ?_
                     try dsimp only [xsto1, xsto2, xkill, xget, xset, gd_0, gd_s]
                     try rw [hp]
                     refine xG_brF rfl (fun y => y hc.2.1) ?_
                     refine xG_run 1 rfl (by repeat' (first | exact trivial | assumption | exact xob_b rfl | exact xal_b rfl | (apply And.intro) | decide)) ?_
                     try dsimp only [xsto1, xsto2, xkill, xget, xset, gd_0, gd_s]
                     try rw [hp]
                     refine xG_c2 0 rfl (by repeat' (first | exact trivial | assumption | exact xob_b rfl | exact xal_b rfl | (apply And.intro) | decide)) rfl rfl (by decide) cw_X12_makesRope (d' := d - 1) (e_makesRope (a := fun i => (stS T z p 0).2.2.1.getD i 0) (sd := (stS T z p 0).2.2.2) g3 hnp g4 hnr (hn2 hc.2.1) (by omega)) (by omega) ?_
                     rintro v M4 (⟨hp4, rfl, rfl⟩ | ⟨hp4, rfl, hM4⟩)
                     · dsimp only [Option.toList, List.cons_append, List.nil_append]
                       refine xG_run 4 rfl (by repeat' (first | exact trivial | assumption | exact xob_b rfl | exact xal_b rfl | (apply And.intro) | decide)) ?_
                       try dsimp only [xsto1, xsto2, xkill, xget, xset, gd_0, gd_s]
                       try rw [hp]
                       refine xG_brT rfl (by rw [hc.2.1]; decide) ?_
                       refine xG_run 2 rfl (by repeat' (first | exact trivial | assumption | exact xob_b rfl | exact xal_b rfl | (apply And.intro) | decide)) ?_
                       try dsimp only [xsto1, xsto2, xkill, xget, xset, gd_0, gd_s]
                       try rw [hp]
                       refine xG_br rfl (fun h166 => ?_) (fun h166 => ?_)
                       · first
                           | (exfalso; first | exact absurd h166 (by decide) | exact h166 (by decide))
                           | (refine xG_run 2 rfl (by repeat' (first | exact trivial | assumption | exact xob_b rfl | exact xal_b rfl | (apply And.intro) | decide)) ?_
                              try dsimp only [xsto1, xsto2, xkill, xget, xset, gd_0, gd_s]
                              try rw [hp]
                              have hac2 : ¬ acA R2 np2 nr2 (chr T z p) (fun i => (stS T z p 0).2.2.1.getD i 0) := fun q => by first | exact hp4 (((acA_c h3).mpr q).1 hc.1) | exact hp4 (q.2 hc.2.1)
                              have e0 : M3 = cpM M3 167 169 0 := cpM_0
                              rw [nI_1]
                              show xG κ mX12_text _ (175, [some (.ref 166), some (.int (nI j)), some (.int (rWR M j 0)), some (.int (nI (k + 1))), some (.int (nI p)), some (.int (chr T z p)), some (.int 0), some (.int (nI 0))], [], M3, z2) _
                              conv => arg 4; rw [e0]
                              refine xG_up (fun c => (175, [some (.ref 166), some (.int (nI j)), some (.int (rWR M j 0)), some (.int (nI (k + 1))), some (.int (nI p)), some (.int (chr T z p)), some (.int 0), some (.int (nI c))], [], cpM M3 167 169 c, z2)) 1651 ?_ ?_ 0 (Nat.zero_le _)
                              · intro c hc9 ih2
                                have hj1 : (nI c).toNatClampNeg = c := nI_cl (by omega)
                                have hsa : xar 167 0 182 (nI c) := xar_n rfl 1651 rfl (by omega) (by omega)
                                have hsb : xar 169 0 182 (nI c) := xar_n rfl 1651 rfl (by omega) (by omega)
                                refine xG_run 2 rfl (by repeat' (first | exact trivial | assumption | exact xob_b rfl | exact xal_b rfl | (apply And.intro) | decide)) ?_
                                try dsimp only [xsto1, xsto2, xkill, xget, xset, gd_0, gd_s]
                                refine xG_brF rfl (show ¬ nI 1651 ≤ nI c from nI_ge hc9 (by omega)) ?_
                                refine xG_run 8 rfl (by repeat' (first | exact trivial | assumption | exact xob_b rfl | exact xal_b rfl | (apply And.intro) | decide)) ?_
                                try dsimp only [xsto1, xsto2, xkill, xget, xset, gd_0, gd_s]
                                refine xG_run 2 rfl (by repeat' (first | exact trivial | assumption | exact xob_b rfl | exact xal_b rfl | (apply And.intro) | decide)) ?_
                                try dsimp only [xsto1, xsto2, xkill, xget, xset, gd_0, gd_s]
                                simp only [hj1]
                                rw [cpM_s (n := c) (n' := c + 1) (by decide) rfl, nI_1]
                                exact ih2
                              · refine xG_run 2 rfl (by repeat' (first | exact trivial | assumption | exact xob_b rfl | exact xal_b rfl | (apply And.intro) | decide)) ?_
                                try dsimp only [xsto1, xsto2, xkill, xget, xset, gd_0, gd_s]
                                refine xG_brT rfl (show nI 1651 ≤ nI 1651 from Int32.le_refl _) ?_
                                refine xG_run 3 rfl (by repeat' (first | exact trivial | assumption | exact xob_b rfl | exact xal_b rfl | (apply And.intro) | decide)) ?_
                                try dsimp only [xsto1, xsto2, xkill, xget, xset, gd_0, gd_s]
                                refine r2_i rfl rfl ?_
                                refine Or.inr (Or.inr ⟨h0, by rw [hfp0], ?_, fun k => ?_, mtX_t hX3 (mtX_c (Or.inl rfl))⟩)
                                · rw [hres, txL, if_pos hpn, f0, f1, if_neg hac2]
                                · rw [hres, txL, if_pos hpn, f0, f1, if_neg hac2, cpM_g]
                                  by_cases ck : k < 1651
                                  · rw [if_pos ⟨rfl, ck⟩]; exact h69 k ck
                                  · rw [if_neg (fun q => ck q.2)]; exact h51 k (by omega))
                       · first
                           | (exfalso; first | exact absurd h166 (by decide) | exact h166 (by decide))
                           | (refine xG_run 1 rfl (by repeat' (first | exact trivial | assumption | exact xob_b rfl | exact xal_b rfl | (apply And.intro) | decide)) ?_
                              try dsimp only [xsto1, xsto2, xkill, xget, xset, gd_0, gd_s]
                              try rw [hp]
                              rw [nI_1]
                              have hac2 : acA R2 np2 nr2 (chr T z p) (fun i => (stS T z p 0).2.2.1.getD i 0) := by first | exact (acA_c h3).mp ⟨fun _ => hp4, fun q => absurd (hc.1.symm.trans q) (by decide)⟩ | exact ⟨fun q => absurd q hc.1, fun _ => hp4⟩ | exact ⟨fun q => absurd q hc.1, fun q => absurd q hc.2.1⟩
                              obtain ⟨C4, np4, nr4, hm4⟩ := mR_ac (sd := (stS T z p 0).2.2.2) hm2 hac2 (fun c1 => by first | exact fun k hk => hgl k (by omega) | exact absurd c1 hc.1) (fun c2 => by first | exact absurd (hc.1.symm.trans c2) (by decide) | exact ⟨fun k hk => hgl k (by omega), hc.2.2.2⟩ | exact absurd c2 hc.2.1) (hgl 0 (by omega))
                              refine ih (stS T z p 0).2.1 (k + 1) _ _ C4 np4 nr4 _ _ _ _ (by omega) okn ?_ ?_ hle hm4 ?_ ?_ ?_ ?_ ?_
                              · exact rT_X hT3 mtX_rp rfl rfl rfl
                              · exact (rp_o (by omega)).trans hp3
                              · intro k; unfold acM; rw [if_neg hc.1, if_pos hc.2.1, rpM_g, rpM_g, h3]
                              · exact fun k hk => (rp_o (by omega)).trans (h69 k hk)
                              · exact fun k hk => (rpM_n hk (by omega)).trans (h51 k hk)
                              · exact mtX_t hX3 mtX_rp
                              · rw [hres, txL, if_pos hpn, f0, f1, if_pos hac2])
                     · subst M4
                       dsimp only [Option.toList, List.cons_append, List.nil_append]
                       refine xG_run 4 rfl (by repeat' (first | exact trivial | assumption | exact xob_b rfl | exact xal_b rfl | (apply And.intro) | decide)) ?_
                       try dsimp only [xsto1, xsto2, xkill, xget, xset, gd_0, gd_s]
                       try rw [hp]
                       refine xG_brT rfl (by rw [hc.2.1]; decide) ?_
                       refine xG_run 2 rfl (by repeat' (first | exact trivial | assumption | exact xob_b rfl | exact xal_b rfl | (apply And.intro) | decide)) ?_
                       try dsimp only [xsto1, xsto2, xkill, xget, xset, gd_0, gd_s]
                       try rw [hp]
                       refine xG_br rfl (fun h166 => ?_) (fun h166 => ?_)
                       · first
                           | (exfalso; first | exact absurd h166 (by decide) | exact h166 (by decide))
                           | (refine xG_run 2 rfl (by repeat' (first | exact trivial | assumption | exact xob_b rfl | exact xal_b rfl | (apply And.intro) | decide)) ?_
                              try dsimp only [xsto1, xsto2, xkill, xget, xset, gd_0, gd_s]
                              try rw [hp]
                              have hac2 : ¬ acA R2 np2 nr2 (chr T z p) (fun i => (stS T z p 0).2.2.1.getD i 0) := fun q => by first | exact hp4 (((acA_c h3).mpr q).1 hc.1) | exact hp4 (q.2 hc.2.1)
                              have e0 : M3 = cpM M3 167 169 0 := cpM_0
                              rw [nI_1]
                              show xG κ mX12_text _ (175, [some (.ref 166), some (.int (nI j)), some (.int (rWR M j 0)), some (.int (nI (k + 1))), some (.int (nI p)), some (.int (chr T z p)), some (.int 0), some (.int (nI 0))], [], M3, z2) _
                              conv => arg 4; rw [e0]
                              refine xG_up (fun c => (175, [some (.ref 166), some (.int (nI j)), some (.int (rWR M j 0)), some (.int (nI (k + 1))), some (.int (nI p)), some (.int (chr T z p)), some (.int 0), some (.int (nI c))], [], cpM M3 167 169 c, z2)) 1651 ?_ ?_ 0 (Nat.zero_le _)
                              · intro c hc9 ih2
                                have hj1 : (nI c).toNatClampNeg = c := nI_cl (by omega)
                                have hsa : xar 167 0 182 (nI c) := xar_n rfl 1651 rfl (by omega) (by omega)
                                have hsb : xar 169 0 182 (nI c) := xar_n rfl 1651 rfl (by omega) (by omega)
                                refine xG_run 2 rfl (by repeat' (first | exact trivial | assumption | exact xob_b rfl | exact xal_b rfl | (apply And.intro) | decide)) ?_
                                try dsimp only [xsto1, xsto2, xkill, xget, xset, gd_0, gd_s]
                                refine xG_brF rfl (show ¬ nI 1651 ≤ nI c from nI_ge hc9 (by omega)) ?_
                                refine xG_run 8 rfl (by repeat' (first | exact trivial | assumption | exact xob_b rfl | exact xal_b rfl | (apply And.intro) | decide)) ?_
                                try dsimp only [xsto1, xsto2, xkill, xget, xset, gd_0, gd_s]
                                refine xG_run 2 rfl (by repeat' (first | exact trivial | assumption | exact xob_b rfl | exact xal_b rfl | (apply And.intro) | decide)) ?_
                                try dsimp only [xsto1, xsto2, xkill, xget, xset, gd_0, gd_s]
                                simp only [hj1]
                                rw [cpM_s (n := c) (n' := c + 1) (by decide) rfl, nI_1]
                                exact ih2
                              · refine xG_run 2 rfl (by repeat' (first | exact trivial | assumption | exact xob_b rfl | exact xal_b rfl | (apply And.intro) | decide)) ?_
                                try dsimp only [xsto1, xsto2, xkill, xget, xset, gd_0, gd_s]
                                refine xG_brT rfl (show nI 1651 ≤ nI 1651 from Int32.le_refl _) ?_
                                refine xG_run 3 rfl (by repeat' (first | exact trivial | assumption | exact xob_b rfl | exact xal_b rfl | (apply And.intro) | decide)) ?_
                                try dsimp only [xsto1, xsto2, xkill, xget, xset, gd_0, gd_s]
                                refine r2_i rfl rfl ?_
                                refine Or.inr (Or.inr ⟨h0, by rw [hfp0], ?_, fun k => ?_, mtX_t hX3 (mtX_c (Or.inl rfl))⟩)
                                · rw [hres, txL, if_pos hpn, f0, f1, if_neg hac2]
                                · rw [hres, txL, if_pos hpn, f0, f1, if_neg hac2, cpM_g]
                                  by_cases ck : k < 1651
                                  · rw [if_pos ⟨rfl, ck⟩]; exact h69 k ck
                                  · rw [if_neg (fun q => ck q.2)]; exact h51 k (by omega))
                       · first
                           | (exfalso; first | exact absurd h166 (by decide) | exact h166 (by decide))
                           | (refine xG_run 1 rfl (by repeat' (first | exact trivial | assumption | exact xob_b rfl | exact xal_b rfl | (apply And.intro) | decide)) ?_
                              try dsimp only [xsto1, xsto2, xkill, xget, xset, gd_0, gd_s]
                              try rw [hp]
                              rw [nI_1]
                              have hac2 : acA R2 np2 nr2 (chr T z p) (fun i => (stS T z p 0).2.2.1.getD i 0) := by first | exact (acA_c h3).mp ⟨fun _ => hp4, fun q => absurd (hc.1.symm.trans q) (by decide)⟩ | exact ⟨fun q => absurd q hc.1, fun _ => hp4⟩ | exact ⟨fun q => absurd q hc.1, fun q => absurd q hc.2.1⟩
                              obtain ⟨C4, np4, nr4, hm4⟩ := mR_ac (sd := (stS T z p 0).2.2.2) hm2 hac2 (fun c1 => by first | exact fun k hk => hgl k (by omega) | exact absurd c1 hc.1) (fun c2 => by first | exact absurd (hc.1.symm.trans c2) (by decide) | exact ⟨fun k hk => hgl k (by omega), hc.2.2.2⟩ | exact absurd c2 hc.2.1) (hgl 0 (by omega))
                              refine ih (stS T z p 0).2.1 (k + 1) _ _ C4 np4 nr4 _ _ _ _ (by omega) okn ?_ ?_ hle hm4 ?_ ?_ ?_ ?_ ?_
                              · exact rT_X hT3 mtX_rp rfl rfl rfl
                              · exact (rp_o (by omega)).trans hp3
                              · intro k; unfold acM; rw [if_neg hc.1, if_pos hc.2.1, rpM_g, rpM_g, h3]
                              · exact fun k hk => (rp_o (by omega)).trans (h69 k hk)
                              · exact fun k hk => (rpM_n hk (by omega)).trans (h51 k hk)
                              · exact mtX_t hX3 mtX_rp
                              · rw [hres, txL, if_pos hpn, f0, f1, if_pos hac2])
                   · skip
                     refine xG_run 3 rfl (by repeat' (first | exact trivial | assumption | exact xob_b rfl | exact xal_b rfl | (apply And.intro) | decide)) ?_
                     try dsimp only [xsto1, xsto2, xkill, xget, xset, gd_0, gd_s]
                     try rw [hp]
                     refine xG_brT rfl (hc.1) ?_
                     refine xG_run 2 rfl (by repeat' (first | exact trivial | assumption | exact xob_b rfl | exact xal_b rfl | (apply And.intro) | decide)) ?_
                     try dsimp only [xsto1, xsto2, xkill, xget, xset, gd_0, gd_s]
                     try rw [hp]
                     refine xG_brT rfl (hc.2.1) ?_
                     refine xG_run 4 rfl (by repeat' (first | exact trivial | assumption | exact xob_b rfl | exact xal_b rfl | (apply And.intro) | decide)) ?_
                     try dsimp only [xsto1, xsto2, xkill, xget, xset, gd_0, gd_s]
                     try rw [hp]
                     refine xG_brF rfl (fun y => y hc.2.2.1) ?_
                     refine xG_run 8 rfl (by repeat' (first | exact trivial | assumption | exact xob_b rfl | exact xal_b rfl | (apply And.intro) | decide)) ?_
                     try dsimp only [xsto1, xsto2, xkill, xget, xset, gd_0, gd_s]
                     try rw [hp]
                     refine xG_run 2 rfl (by repeat' (first | exact trivial | assumption | exact xob_b rfl | exact xal_b rfl | (apply And.intro) | decide)) ?_
                     try dsimp only [xsto1, xsto2, xkill, xget, xset, gd_0, gd_s]
                     try rw [hp]
                     refine xG_br rfl (fun h166 => ?_) (fun h166 => ?_)
                     · first
                         | (exfalso; first | exact absurd h166 (by decide) | exact h166 (by decide))
                         | (refine xG_run 2 rfl (by repeat' (first | exact trivial | assumption | exact xob_b rfl | exact xal_b rfl | (apply And.intro) | decide)) ?_
                            try dsimp only [xsto1, xsto2, xkill, xget, xset, gd_0, gd_s]
                            try rw [hp]
                            have hac2 : ¬ acA R2 np2 nr2 (chr T z p) (fun i => (stS T z p 0).2.2.1.getD i 0) := fun q => by first | exact hp4 (((acA_c h3).mpr q).1 hc.1) | exact hp4 (q.2 hc.2.1)
                            have e0 : M3 = cpM M3 167 169 0 := cpM_0
                            rw [nI_1]
                            show xG κ mX12_text _ (175, [some (.ref 166), some (.int (nI j)), some (.int (rWR M j 0)), some (.int (nI (k + 1))), some (.int (nI p)), some (.int (chr T z p)), some (.int 0), some (.int (nI 0))], [], M3, z2) _
                            conv => arg 4; rw [e0]
                            refine xG_up (fun c => (175, [some (.ref 166), some (.int (nI j)), some (.int (rWR M j 0)), some (.int (nI (k + 1))), some (.int (nI p)), some (.int (chr T z p)), some (.int 0), some (.int (nI c))], [], cpM M3 167 169 c, z2)) 1651 ?_ ?_ 0 (Nat.zero_le _)
                            · intro c hc9 ih2
                              have hj1 : (nI c).toNatClampNeg = c := nI_cl (by omega)
                              have hsa : xar 167 0 182 (nI c) := xar_n rfl 1651 rfl (by omega) (by omega)
                              have hsb : xar 169 0 182 (nI c) := xar_n rfl 1651 rfl (by omega) (by omega)
                              refine xG_run 2 rfl (by repeat' (first | exact trivial | assumption | exact xob_b rfl | exact xal_b rfl | (apply And.intro) | decide)) ?_
                              try dsimp only [xsto1, xsto2, xkill, xget, xset, gd_0, gd_s]
                              refine xG_brF rfl (show ¬ nI 1651 ≤ nI c from nI_ge hc9 (by omega)) ?_
                              refine xG_run 8 rfl (by repeat' (first | exact trivial | assumption | exact xob_b rfl | exact xal_b rfl | (apply And.intro) | decide)) ?_
                              try dsimp only [xsto1, xsto2, xkill, xget, xset, gd_0, gd_s]
                              refine xG_run 2 rfl (by repeat' (first | exact trivial | assumption | exact xob_b rfl | exact xal_b rfl | (apply And.intro) | decide)) ?_
                              try dsimp only [xsto1, xsto2, xkill, xget, xset, gd_0, gd_s]
                              simp only [hj1]
                              rw [cpM_s (n := c) (n' := c + 1) (by decide) rfl, nI_1]
                              exact ih2
                            · refine xG_run 2 rfl (by repeat' (first | exact trivial | assumption | exact xob_b rfl | exact xal_b rfl | (apply And.intro) | decide)) ?_
                              try dsimp only [xsto1, xsto2, xkill, xget, xset, gd_0, gd_s]
                              refine xG_brT rfl (show nI 1651 ≤ nI 1651 from Int32.le_refl _) ?_
                              refine xG_run 3 rfl (by repeat' (first | exact trivial | assumption | exact xob_b rfl | exact xal_b rfl | (apply And.intro) | decide)) ?_
                              try dsimp only [xsto1, xsto2, xkill, xget, xset, gd_0, gd_s]
                              refine r2_i rfl rfl ?_
                              refine Or.inr (Or.inr ⟨h0, by rw [hfp0], ?_, fun k => ?_, mtX_t hX3 (mtX_c (Or.inl rfl))⟩)
                              · rw [hres, txL, if_pos hpn, f0, f1, if_neg hac2]
                              · rw [hres, txL, if_pos hpn, f0, f1, if_neg hac2, cpM_g]
                                by_cases ck : k < 1651
                                · rw [if_pos ⟨rfl, ck⟩]; exact h69 k ck
                                · rw [if_neg (fun q => ck q.2)]; exact h51 k (by omega))
                     · first
                         | (exfalso; first | exact absurd h166 (by decide) | exact h166 (by decide))
                         | (refine xG_run 1 rfl (by repeat' (first | exact trivial | assumption | exact xob_b rfl | exact xal_b rfl | (apply And.intro) | decide)) ?_
                            try dsimp only [xsto1, xsto2, xkill, xget, xset, gd_0, gd_s]
                            try rw [hp]
                            rw [nI_1]
                            have hac2 : acA R2 np2 nr2 (chr T z p) (fun i => (stS T z p 0).2.2.1.getD i 0) := by first | exact (acA_c h3).mp ⟨fun _ => hp4, fun q => absurd (hc.1.symm.trans q) (by decide)⟩ | exact ⟨fun q => absurd q hc.1, fun _ => hp4⟩ | exact ⟨fun q => absurd q hc.1, fun q => absurd q hc.2.1⟩
                            obtain ⟨C4, np4, nr4, hm4⟩ := mR_ac (sd := (stS T z p 0).2.2.2) hm2 hac2 (fun c1 => by first | exact fun k hk => hgl k (by omega) | exact absurd c1 hc.1) (fun c2 => by first | exact absurd (hc.1.symm.trans c2) (by decide) | exact ⟨fun k hk => hgl k (by omega), hc.2.2.2⟩ | exact absurd c2 hc.2.1) (hgl 0 (by omega))
                            refine ih (stS T z p 0).2.1 (k + 1) _ _ C4 np4 nr4 _ _ _ _ (by omega) okn ?_ ?_ hle hm4 ?_ ?_ ?_ ?_ ?_
                            · exact rT_X hT3 mtX_s (gI_ne (Or.inl (by decide))) (gI_ne (Or.inl (by decide))) rfl
                            · exact (gI_ne (Or.inl (by decide))).trans hp3
                            · intro k; unfold acM; rw [if_neg hc.1, if_neg hc.2.1, gIsI, gIsI, h3, hcl, hcl0, hn3 hc.2.2.1]
                            · exact fun k hk => (gI_ne (Or.inl (by decide))).trans (h69 k hk)
                            · exact fun k hk => (gI_ne (Or.inr (by show k ≠ 1650; omega))).trans (h51 k hk)
                            · exact mtX_t hX3 mtX_s
                            · rw [hres, txL, if_pos hpn, f0, f1, if_pos hac2])
                 · skip
                   refine xG_run 4 rfl (by repeat' (first | exact trivial | assumption | exact xob_b rfl | exact xal_b rfl | (apply And.intro) | decide)) ?_
                   try dsimp only [xsto1, xsto2, xkill, xget, xset, gd_0, gd_s]
                   refine xG_brT rfl (by rw [hT2.2.1, hp]; exact nI_le (by omega) (by omega)) ?_
                   refine xG_run 1 rfl (by repeat' (first | exact trivial | assumption | exact xob_b rfl | exact xal_b rfl | (apply And.intro) | decide)) ?_
                   try dsimp only [xsto1, xsto2, xkill, xget, xset, gd_0, gd_s]
                   refine r2_i rfl rfl ?_
                   have e9 : txL T z M (z + 1) M 0 0 = (nI k, R2) := by rw [hres]; rw [txL, if_neg hpn]
                   rw [e9]
                   exact Or.inr (Or.inr ⟨h0, by rw [hfp0], rfl, hR2, hX⟩)
             refine xG_run 2 rfl (by repeat' (first | exact trivial | assumption | exact xob_b rfl | exact xal_b rfl | (apply And.intro) | decide)) ?_
             try dsimp only [xsto1, xsto2, xkill, xget, xset, gd_0, gd_s]
             have e0 : Ma = cpM Ma 169 167 0 := cpM_0
             show xG κ mX12_text _ (47, [some (.ref 166), some (.int (nI j)), some (.int (rWR M j 0)), some (.int (nI 0)), none, none, none, none], [], Ma, z2) _
             conv => arg 4; rw [e0]
             refine xG_up (fun c => (47, [some (.ref 166), some (.int (nI j)), some (.int (rWR M j 0)), some (.int (nI c)), none, none, none, none], [], cpM Ma 169 167 c, z2)) 1651 ?_ ?_ 0 (Nat.zero_le _)
             · intro c hc ih
               have hj1 : (nI c).toNatClampNeg = c := nI_cl (by omega)
               have hsa : xar 169 0 182 (nI c) := xar_n rfl 1651 rfl (by omega) (by omega)
               have hsb : xar 167 0 182 (nI c) := xar_n rfl 1651 rfl (by omega) (by omega)
               refine xG_run 2 rfl (by repeat' (first | exact trivial | assumption | exact xob_b rfl | exact xal_b rfl | (apply And.intro) | decide)) ?_
               try dsimp only [xsto1, xsto2, xkill, xget, xset, gd_0, gd_s]
               refine xG_brF rfl (show ¬ nI 1651 ≤ nI c from nI_ge hc (by omega)) ?_
               refine xG_run 8 rfl (by repeat' (first | exact trivial | assumption | exact xob_b rfl | exact xal_b rfl | (apply And.intro) | decide)) ?_
               try dsimp only [xsto1, xsto2, xkill, xget, xset, gd_0, gd_s]
               refine xG_run 2 rfl (by repeat' (first | exact trivial | assumption | exact xob_b rfl | exact xal_b rfl | (apply And.intro) | decide)) ?_
               try dsimp only [xsto1, xsto2, xkill, xget, xset, gd_0, gd_s]
               simp only [hj1]
               rw [cpM_s (n := c) (n' := c + 1) (by decide) rfl, nI_1]
               exact ih
             · refine xG_run 2 rfl (by repeat' (first | exact trivial | assumption | exact xob_b rfl | exact xal_b rfl | (apply And.intro) | decide)) ?_
               try dsimp only [xsto1, xsto2, xkill, xget, xset, gd_0, gd_s]
               refine xG_brT rfl (show nI 1651 ≤ nI 1651 from Int32.le_refl _) ?_
               refine xG_run 5 rfl (by repeat' (first | exact trivial | assumption | exact xob_b rfl | exact xal_b rfl | (apply And.intro) | decide)) ?_
               try dsimp only [xsto1, xsto2, xkill, xget, xset, gd_0, gd_s]
               have hXb : mtX M (sI (cpM Ma 169 167 1651) 166 12 0) := mtX_t hXa (mtX_t (mtX_c (Or.inr rfl)) (mtX_i (by omega)))
               refine lp3 (z + 1) 0 0 (sI (cpM Ma 169 167 1651) 166 12 0) M C np nr none none none none (by omega) (fun _ => by rw [hfp]) ?_ (gI_self _ _ _ _) (Nat.zero_le _) hm ?_ ?_ ?_ hXb rfl
               · exact rT_X hTa (mtX_t (mtX_c (Or.inr rfl)) (mtX_i (by omega))) (by simp (disch := omega) only [g_ne]; rfl) (by simp (disch := omega) only [g_ne]; rfl) rfl
               · exact fun k => (gI_ne (Or.inl (by decide))).trans (by rw [cpM_g, if_neg (by omega)]; exact h167a k)
               · exact fun k hk => (gI_ne (Or.inl (by decide))).trans (by rw [cpM_g, if_pos ⟨rfl, hk⟩]; exact h167a k)
               · exact fun k hk => (gI_ne (Or.inl (by decide))).trans (by rw [cpM_g, if_neg (by omega)]; exact h167a k)
           have lp1 : ∀ (f p : Nat) (M2 : xM), z - p < f → rT M2 173 (120 * j) z T → gI M2 166 12 = nI p → p ≤ z → mtX M M2 → (∀ k, gI M2 167 k = gI M 167 k) → fpR T z (z + 1) 0 = fpR T z f p → xG κ mX12_text (d, 0, 0) (18, [some (.ref 166), some (.int (nI j)), some (.int (rWR M j 0)), none, none, none, none, none], [], M2, z2) (xRet mX12_text false (fun v M' n' => n' = 182 ∧ ((¬ rWR M j 0 = 0 ∧ v = some (.int (rWR M j 0)) ∧ M' = M) ∨ (rWR M j 0 = 0 ∧ (fpR T z (z + 1) 0).1 = false ∧ v = some (.int (-1000 - nI (fpR T z (z + 1) 0).2)) ∧ (∀ k, gI M' 167 k = gI M 167 k) ∧ mtX M M') ∨ (rWR M j 0 = 0 ∧ (fpR T z (z + 1) 0).1 = true ∧ v = some (.int (txL T z M (z + 1) M 0 0).1) ∧ (∀ k, gI M' 167 k = gI (txL T z M (z + 1) M 0 0).2 167 k) ∧ mtX M M')))) := by
             intro f
             induction f with
             | zero => intro p M2 hf; omega
             | succ f ih =>
               intro p M2 hf hT2 hp hpz hX h167 hres
               refine xG_run 1 rfl (by repeat' (first | exact trivial | assumption | exact xob_b rfl | exact xal_b rfl | (apply And.intro) | decide)) ?_
               try dsimp only [xsto1, xsto2, xkill, xget, xset, gd_0, gd_s]
               refine xG_c2 0 rfl (by repeat' (first | exact trivial | assumption | exact xob_b rfl | exact xal_b rfl | (apply And.intro) | decide)) rfl rfl (by decide) cw_X12_readsStatement (d' := d - 1) (e_readsStatement (p := p) hT2 hp hpz (by omega)) (by omega) ?_
               rintro v M3 ⟨rfl, hp3, hF3, -⟩
               dsimp only [Option.toList, List.cons_append, List.nil_append]
               have hT3 := rT_F hT2 hF3
               have hle := stS_le (T := T) (n := z) (p := p) (sd := 0) hpz
               have hgt := stS_gt (T := T) (n := z) (p := p) (sd := 0)
               rcases hst : stS T z p 0 with ⟨ok, q, l, sx⟩
               rw [hst] at hp3 hle hgt
               dsimp only at hp3 hle hgt
               cases ok
               · dsimp only [Option.toList, List.cons_append, List.nil_append]
                 refine xG_br rfl (fun h22 => ?_) (fun h22 => ?_)
                 · first
                     | (exfalso; first | exact absurd h22 (by decide) | exact h22 (by decide) | (simp at h22; done))
                     | (refine xG_run 4 rfl (by repeat' (first | exact trivial | assumption | exact xob_b rfl | exact xal_b rfl | (apply And.intro) | decide)) ?_
                        try dsimp only [xsto1, xsto2, xkill, xget, xset, gd_0, gd_s]
                        refine xG_br rfl (fun h42 => ?_) (fun h42 => ?_)
                        · rw [hT3.2.1, hp3] at h42
                          have hqz : q < z := (nI_ltI (by omega) (by omega)).mp h42
                          exact ih q M3 (by have := hgt rfl; omega) hT3 hp3 (by omega) (mtX_t hX (mtX_F hF3)) (fun k => (hF3.1 167 k (by decide) (by omega)).trans (h167 k)) (by rw [hres, fpR, hst, if_neg (by simp), if_pos hqz])
                        · rw [hT3.2.1, hp3] at h42
                          have hqz : ¬ q < z := fun y => h42 (nI_lt y (by omega))
                          have hfp : fpR T z (z + 1) 0 = (true, z) := by rw [hres, fpR, hst, if_neg (by simp), if_neg hqz]
                          exact lp2 M3 hT3 (mtX_t hX (mtX_F hF3)) (fun k => (hF3.1 167 k (by decide) (by omega)).trans (h167 k)) hfp)
                 · first
                     | (exfalso; first | exact absurd h22 (by decide) | exact h22 (by decide) | (simp at h22; done))
                     | (refine xG_run 4 rfl (by repeat' (first | exact trivial | assumption | exact xob_b rfl | exact xal_b rfl | (apply And.intro) | decide)) ?_
                        try dsimp only [xsto1, xsto2, xkill, xget, xset, gd_0, gd_s]
                        refine r2_i rfl rfl ?_
                        rw [hp3]
                        refine Or.inr (Or.inl ⟨h0, ?_, ?_, fun k => (hF3.1 167 k (by decide) (by omega)).trans (h167 k), mtX_t hX (mtX_F hF3)⟩)
                        · rw [hres, fpR, hst, if_pos rfl]
                        · rw [hres, fpR, hst, if_pos rfl])
               · dsimp only [Option.toList, List.cons_append, List.nil_append]
                 refine xG_br rfl (fun h22 => ?_) (fun h22 => ?_)
                 · first
                     | (exfalso; first | exact absurd h22 (by decide) | exact h22 (by decide) | (simp at h22; done))
                     | (refine xG_run 4 rfl (by repeat' (first | exact trivial | assumption | exact xob_b rfl | exact xal_b rfl | (apply And.intro) | decide)) ?_
                        try dsimp only [xsto1, xsto2, xkill, xget, xset, gd_0, gd_s]
                        refine xG_br rfl (fun h42 => ?_) (fun h42 => ?_)
                        · rw [hT3.2.1, hp3] at h42
                          have hqz : q < z := (nI_ltI (by omega) (by omega)).mp h42
                          exact ih q M3 (by have := hgt rfl; omega) hT3 hp3 (by omega) (mtX_t hX (mtX_F hF3)) (fun k => (hF3.1 167 k (by decide) (by omega)).trans (h167 k)) (by rw [hres, fpR, hst, if_neg (by simp), if_pos hqz])
                        · rw [hT3.2.1, hp3] at h42
                          have hqz : ¬ q < z := fun y => h42 (nI_lt y (by omega))
                          have hfp : fpR T z (z + 1) 0 = (true, z) := by rw [hres, fpR, hst, if_neg (by simp), if_neg hqz]
                          exact lp2 M3 hT3 (mtX_t hX (mtX_F hF3)) (fun k => (hF3.1 167 k (by decide) (by omega)).trans (h167 k)) hfp)
                 · first
                     | (exfalso; first | exact absurd h22 (by decide) | exact h22 (by decide) | (simp at h22; done))
                     | (refine xG_run 4 rfl (by repeat' (first | exact trivial | assumption | exact xob_b rfl | exact xal_b rfl | (apply And.intro) | decide)) ?_
                        try dsimp only [xsto1, xsto2, xkill, xget, xset, gd_0, gd_s]
                        refine r2_i rfl rfl ?_
                        rw [hp3]
                        refine Or.inr (Or.inl ⟨h0, ?_, ?_, fun k => (hF3.1 167 k (by decide) (by omega)).trans (h167 k), mtX_t hX (mtX_F hF3)⟩)
                        · rw [hres, fpR, hst, if_pos rfl]
                        · rw [hres, fpR, hst, if_pos rfl])
           refine lp1 (z + 1) 0 (rpO M j) (by omega) hTr (gI_self _ _ _ _) (Nat.zero_le _) ⟨fun x k q1 q2 q3 q4 => ?_, fun _ _ => rfl, fun x k q => gP_ne (by omega)⟩ (fun k => ?_) rfl
           · unfold rpO; simp (disch := omega) only [g_ne]; rfl
           · unfold rpO; simp (disch := omega) only [g_ne]; rfl)
    · first
        | (exfalso; exact absurd h8 (by decide))
        | (refine xG_run 1 rfl (by repeat' (first | exact trivial | assumption | exact xob_b rfl | exact xal_b rfl | (apply And.intro) | decide)) ?_
           try dsimp only [xsto1, xsto2, xkill, xget, xset, gd_0, gd_s]
           refine r2_i rfl rfl ?_
           first
             | exact Or.inr ⟨hno, rfl, rfl⟩
             | exact Or.inl ⟨j, z, hj, rfl, hz2, hz1, Or.inl ⟨h8, rfl, rfl⟩⟩)
