/-! ===== the reference: push, rest, gust, gusts ===== -/
section RC
variable {M M' : xM}
theorem rs_c (h : ∀ k, gI M' 167 k = gI M 167 k) (p k : Nat) : rs M' p k = rs M p k := h _
theorem rr_c (h : ∀ k, gI M' 167 k = gI M 167 k) (p k : Nat) : rr M' p k = rr M p k := h _
theorem rH_c (h : ∀ k, gI M' 167 k = gI M 167 k) (p : Nat) : rH M' p = rH M p := by unfold rH; rw [rr_c h]
theorem rW_c (h : ∀ k, gI M' 167 k = gI M 167 k) (p : Nat) : rW M' p = rW M p := by unfold rW; simp only [rs_c h]
theorem rF_c (h : ∀ k, gI M' 167 k = gI M 167 k) (p : Nat) : rF M' p = rF M p := by unfold rF; simp only [rs_c h]
theorem rV_c (h : ∀ k, gI M' 167 k = gI M 167 k) (p : Nat) : rV M' p = rV M p := by unfold rV; simp only [rs_c h, h]
theorem rPu_c (h : ∀ k, gI M' 167 k = gI M 167 k) (p : Nat) : rPu M' p = rPu M p := by unfold rPu; simp only [rV_c h, rF_c h, h]
theorem rA_c (h : ∀ k, gI M' 167 k = gI M 167 k) (q p : Nat) : rA M' q p = rA M q p := by unfold rA rA0; simp only [rs_c h, rr_c h]
theorem rP_c (h : ∀ k, gI M' 167 k = gI M 167 k) (q : Nat) (l : Int32) : rP M' q l = rP M q l := by unfold rP rPl; simp only [rH_c h, rr_c h, rA_c h]
theorem rTp_c (h : ∀ k, gI M' 167 k = gI M 167 k) (l : Int32) (p : Nat) : rTp M' l p = rTp M l p := by unfold rTp; simp only [rs_c h, rW_c h, rPu_c h]
theorem rTr_c (h : ∀ k, gI M' 167 k = gI M 167 k) (l : Int32) (p : Nat) : rTr M' l p = rTr M l p := by unfold rTr; simp only [rH_c h, rr_c h, rA_c h, rP_c h]
theorem rAll_c (h : ∀ k, gI M' 167 k = gI M 167 k) (hj : gJ M' 166 18 = gJ M 166 18) {np nr : Nat} {l : Int32} : rAll M' np nr l = rAll M np nr l := by
  unfold rAll
  rw [hj, h, show rTp M' l = rTp M l from funext (rTp_c h l), show rTr M' l = rTr M l from funext (rTr_c h l)]
end RC
theorem s11 (M : xM) (k' : Nat) (v : Int32) (k : Nat) : gI (sI M 166 k' v) 167 k = gI M 167 k := gI_ne (Or.inl (by decide))
set_option maxRecDepth 4000 in
theorem e_m_push {κ : xKK} {d : Nat} {M : xM} {np : Nat} (hn : gI M 167 1643 = nI np) (hn2 : np ≤ 10) (hw : ∀ p, p < np → ∃ k, k < 5 ∧ rs M p 1 / 20 = nI k) {i : Int32} (hd : 3 ≤ d) : xE2 κ mX12_push d [.ref 166, .int i] M (fun v M' => (∃ j, j < np ∧ i = nI j ∧ v = some (.long (rPu M j).toInt64) ∧ M' = sI M 166 11 0) ∨ (¬ (∃ j, j < np ∧ i = nI j) ∧ v = some (.long 0) ∧ M' = sI M 166 11 1)) := by
  refine xE2_of ci_X12_push cl_X12_push cw_X12_push rfl (L := [some (.ref 166), some (.int i)]) rfl ?_
  refine xG_run 3 rfl (by repeat' (first | exact trivial | assumption | exact xob_b rfl | exact xal_b rfl | (apply And.intro) | decide)) ?_
  refine xG_c2 1 rfl (by repeat' (first | exact trivial | assumption | exact xob_b rfl | exact xal_b rfl | (apply And.intro) | decide)) rfl rfl (by decide) cw_X12_isPiece (d' := d - 1) (e_isPiece hn hn2 (by omega)) (by omega) ?_
  rintro v M' ⟨rfl, hM⟩
  subst M'
  dsimp only [Option.toList, List.cons_append, List.nil_append]
  refine xG_br rfl (fun h6 => ?_) (fun h6 => ?_)
  · have b6 := z0.mp h6
    skip
    refine xG_run 4 rfl (by repeat' (first | exact trivial | assumption | exact xob_b rfl | exact xal_b rfl | (apply And.intro) | decide)) ?_
    refine xG_br rfl (fun h21 => ?_) (fun h21 => ?_)
    · first
        | (exfalso; rw [gI_self] at h21; first | exact h21 (by decide) | exact absurd h21 (by decide))
        | (refine xG_run 1 rfl (by repeat' (first | exact trivial | assumption | exact xob_b rfl | exact xal_b rfl | (apply And.intro) | decide)) ?_
           refine r2_l rfl rfl ?_
           first
             | exact Or.inl ⟨j, hj, rfl, by rw [rPu_c (s11 M 11 0)], rfl⟩
             | exact Or.inr ⟨fun ⟨j9, a1, a2⟩ => b6 (by rw [a2]; exact inI a1 (by omega)), rfl, rfl⟩)
    · first
        | (exfalso; rw [gI_self] at h21; first | exact h21 (by decide) | exact absurd h21 (by decide))
        | (refine xG_run 2 rfl (by repeat' (first | exact trivial | assumption | exact xob_b rfl | exact xal_b rfl | (apply And.intro) | decide)) ?_
           refine xG_c2 1 rfl (by repeat' (first | exact trivial | assumption | exact xob_b rfl | exact xal_b rfl | (apply And.intro) | decide)) rfl rfl (by decide) cw_X12_pushOn (d' := d - 1) (e_rpush (p := j) (k := k5) (by omega) ((congrArg (· / 20) (rs_c (s11 M 11 0) j 1)).trans hk) hk5 (by omega)) (by omega) ?_
           rintro v M' ⟨rfl, hM⟩
           subst hM
           dsimp only [Option.toList, List.cons_append, List.nil_append]
           refine xG_run 2 rfl (by repeat' (first | exact trivial | assumption | exact xob_b rfl | exact xal_b rfl | (apply And.intro) | decide)) ?_
           refine r2_l rfl rfl ?_
           first
             | exact Or.inl ⟨j, hj, rfl, by rw [rPu_c (s11 M 11 0)], rfl⟩
             | exact Or.inr ⟨fun ⟨j9, a1, a2⟩ => b6 (by rw [a2]; exact inI a1 (by omega)), rfl, rfl⟩)
  · have b6 := z1.mp h6
    obtain ⟨j, hj, rfl⟩ := inI_of b6 (by omega)
    obtain ⟨k5, hk5, hk⟩ := hw j hj
    refine xG_run 5 rfl (by repeat' (first | exact trivial | assumption | exact xob_b rfl | exact xal_b rfl | (apply And.intro) | decide)) ?_
    refine xG_br rfl (fun h21 => ?_) (fun h21 => ?_)
    · first
        | (exfalso; rw [gI_self] at h21; first | exact h21 (by decide) | exact absurd h21 (by decide))
        | (refine xG_run 1 rfl (by repeat' (first | exact trivial | assumption | exact xob_b rfl | exact xal_b rfl | (apply And.intro) | decide)) ?_
           refine r2_l rfl rfl ?_
           first
             | exact Or.inl ⟨j, hj, rfl, by rw [rPu_c (s11 M 11 0)], rfl⟩
             | exact Or.inr ⟨fun ⟨j9, a1, a2⟩ => b6 (by rw [a2]; exact inI a1 (by omega)), rfl, rfl⟩)
    · first
        | (exfalso; rw [gI_self] at h21; first | exact h21 (by decide) | exact absurd h21 (by decide))
        | (refine xG_run 2 rfl (by repeat' (first | exact trivial | assumption | exact xob_b rfl | exact xal_b rfl | (apply And.intro) | decide)) ?_
           refine xG_c2 1 rfl (by repeat' (first | exact trivial | assumption | exact xob_b rfl | exact xal_b rfl | (apply And.intro) | decide)) rfl rfl (by decide) cw_X12_pushOn (d' := d - 1) (e_rpush (p := j) (k := k5) (by omega) ((congrArg (· / 20) (rs_c (s11 M 11 0) j 1)).trans hk) hk5 (by omega)) (by omega) ?_
           rintro v M' ⟨rfl, hM⟩
           subst hM
           dsimp only [Option.toList, List.cons_append, List.nil_append]
           refine xG_run 2 rfl (by repeat' (first | exact trivial | assumption | exact xob_b rfl | exact xal_b rfl | (apply And.intro) | decide)) ?_
           refine r2_l rfl rfl ?_
           first
             | exact Or.inl ⟨j, hj, rfl, by rw [rPu_c (s11 M 11 0)], rfl⟩
             | exact Or.inr ⟨fun ⟨j9, a1, a2⟩ => b6 (by rw [a2]; exact inI a1 (by omega)), rfl, rfl⟩)
set_option maxRecDepth 4000 in
theorem e_m_rest {κ : xKK} {d : Nat} {M : xM} {np nr : Nat} (hn : gI M 167 1643 = nI np) (hn2 : np ≤ 10) (hr : gI M 167 1644 = nI nr) (hr2 : nr ≤ 12) (hw : ∀ p, p < np → ∃ k, k < 5 ∧ rs M p 1 / 20 = nI k) (hh : ∀ q, q < nr → (rr M q 0 = nI (rH M q) ∧ rH M q < 10) ∧ ¬ rs M (rH M q) 1 + rr M q 2 = 0) {l : Int32} (hd : 4 ≤ d) : xE2 κ mX12_rest d [.ref 166, .int l] M (fun v M' => (-300 ≤ l ∧ l ≤ 300 ∧ v = some (.long (rAll M np nr l)) ∧ M' = sI M 166 11 0) ∨ (¬ (-300 ≤ l ∧ l ≤ 300) ∧ v = some (.long 0) ∧ M' = sI M 166 11 1)) := by
  refine xE2_of ci_X12_rest cl_X12_rest cw_X12_rest rfl (L := [some (.ref 166), some (.int l)]) rfl ?_
  refine xG_run 5 rfl (by repeat' (first | exact trivial | assumption | exact xob_b rfl | exact xal_b rfl | (apply And.intro) | decide)) ?_
  refine xG_c2 3 rfl (by repeat' (first | exact trivial | assumption | exact xob_b rfl | exact xal_b rfl | (apply And.intro) | decide)) rfl rfl (by decide) cw_X12_isIn (d' := d - 1) (e_isIn (c := -300 ≤ l ∧ l ≤ 300) (in32 rfl rfl)) (by omega) ?_
  rintro v M' ⟨rfl, hM⟩
  subst M'
  dsimp only [Option.toList, List.cons_append, List.nil_append]
  refine xG_br rfl (fun h12 => ?_) (fun h12 => ?_)
  · have b12 := z0.mp h12
    refine xG_run 4 rfl (by repeat' (first | exact trivial | assumption | exact xob_b rfl | exact xal_b rfl | (apply And.intro) | decide)) ?_
    refine xG_br rfl (fun h27 => ?_) (fun h27 => ?_)
    · first
        | (exfalso; rw [gI_self] at h27; first | exact h27 (by decide) | exact absurd h27 (by decide))
        | (refine xG_run 1 rfl (by repeat' (first | exact trivial | assumption | exact xob_b rfl | exact xal_b rfl | (apply And.intro) | decide)) ?_
           refine r2_l rfl rfl ?_
           first
             | exact Or.inl ⟨b12.1, b12.2, by rw [rAll_c (s11 M 11 0) rfl], rfl⟩
             | exact Or.inr ⟨b12, rfl, rfl⟩)
    · first
        | (exfalso; rw [gI_self] at h27; first | exact h27 (by decide) | exact absurd h27 (by decide))
        | (refine xG_run 2 rfl (by repeat' (first | exact trivial | assumption | exact xob_b rfl | exact xal_b rfl | (apply And.intro) | decide)) ?_
           refine xG_c2 1 rfl (by repeat' (first | exact trivial | assumption | exact xob_b rfl | exact xal_b rfl | (apply And.intro) | decide)) rfl rfl (by decide) cw_X12_restAt (d' := d - 1) (e_rrest (l := l) ((s11 M 11 0 _).trans hn) hn2 ((s11 M 11 0 _).trans hr) hr2 (fun p hp => by rw [rs_c (s11 M 11 0)]; exact hw p hp) (fun q hq => by rw [rr_c (s11 M 11 0), rH_c (s11 M 11 0), rs_c (s11 M 11 0), rr_c (s11 M 11 0)]; exact hh q hq) (by omega)) (by omega) ?_
           rintro v M' ⟨rfl, hM⟩
           subst hM
           dsimp only [Option.toList, List.cons_append, List.nil_append]
           refine xG_run 1 rfl (by repeat' (first | exact trivial | assumption | exact xob_b rfl | exact xal_b rfl | (apply And.intro) | decide)) ?_
           refine r2_l rfl rfl ?_
           first
             | exact Or.inl ⟨b12.1, b12.2, by rw [rAll_c (s11 M 11 0) rfl], rfl⟩
             | exact Or.inr ⟨b12, rfl, rfl⟩)
  · have b12 := z1.mp h12
    refine xG_run 5 rfl (by repeat' (first | exact trivial | assumption | exact xob_b rfl | exact xal_b rfl | (apply And.intro) | decide)) ?_
    refine xG_br rfl (fun h27 => ?_) (fun h27 => ?_)
    · first
        | (exfalso; rw [gI_self] at h27; first | exact h27 (by decide) | exact absurd h27 (by decide))
        | (refine xG_run 1 rfl (by repeat' (first | exact trivial | assumption | exact xob_b rfl | exact xal_b rfl | (apply And.intro) | decide)) ?_
           refine r2_l rfl rfl ?_
           first
             | exact Or.inl ⟨b12.1, b12.2, by rw [rAll_c (s11 M 11 0) rfl], rfl⟩
             | exact Or.inr ⟨b12, rfl, rfl⟩)
    · first
        | (exfalso; rw [gI_self] at h27; first | exact h27 (by decide) | exact absurd h27 (by decide))
        | (refine xG_run 2 rfl (by repeat' (first | exact trivial | assumption | exact xob_b rfl | exact xal_b rfl | (apply And.intro) | decide)) ?_
           refine xG_c2 1 rfl (by repeat' (first | exact trivial | assumption | exact xob_b rfl | exact xal_b rfl | (apply And.intro) | decide)) rfl rfl (by decide) cw_X12_restAt (d' := d - 1) (e_rrest (l := l) ((s11 M 11 0 _).trans hn) hn2 ((s11 M 11 0 _).trans hr) hr2 (fun p hp => by rw [rs_c (s11 M 11 0)]; exact hw p hp) (fun q hq => by rw [rr_c (s11 M 11 0), rH_c (s11 M 11 0), rs_c (s11 M 11 0), rr_c (s11 M 11 0)]; exact hh q hq) (by omega)) (by omega) ?_
           rintro v M' ⟨rfl, hM⟩
           subst hM
           dsimp only [Option.toList, List.cons_append, List.nil_append]
           refine xG_run 1 rfl (by repeat' (first | exact trivial | assumption | exact xob_b rfl | exact xal_b rfl | (apply And.intro) | decide)) ?_
           refine r2_l rfl rfl ?_
           first
             | exact Or.inl ⟨b12.1, b12.2, by rw [rAll_c (s11 M 11 0) rfl], rfl⟩
             | exact Or.inr ⟨b12, rfl, rfl⟩)
set_option maxRecDepth 4000 in
theorem e_m_gust {κ : xKK} {d : Nat} {M : xM} {w : Int32} {n : Nat} (hn : gI M 167 1645 = nI n) (hn2 : n ≤ 8) (hd : 1 ≤ d) : xE2 κ mX12_gust d [.ref 166, .int w] M (fun v M' => (0 ≤ w ∧ w ≤ 999 ∧ n < 8 ∧ v = some (.int (nI (n + 1))) ∧ M' = sI (sI M 167 (147 + n) w) 167 1645 (nI (n + 1))) ∨ (0 ≤ w ∧ w ≤ 999 ∧ n = 8 ∧ v = some (.int (-2)) ∧ M' = M) ∨ (¬ (0 ≤ w ∧ w ≤ 999) ∧ v = some (.int (-1)) ∧ M' = M)) := by
  refine xE2_of ci_X12_gust cl_X12_gust cw_X12_gust rfl (L := [some (.ref 166), some (.int w)]) rfl ?_
  have hn : gI M 167 (1645 : Int32).toNatClampNeg = nI n := hn
  have hs0 : xar 167 0 182 1645 := xar_n (j := 1645) rfl 1651 rfl (by omega) (by omega)
  have e1 : (147 : Int32) + nI n = nI (147 + n) := nI_add 147 n
  have hs : n < 8 → xar 167 0 182 ((147 : Int32) + nI n) := fun _ => by rw [e1]; exact xar_n rfl 1651 rfl (by omega) (by omega)
  refine xG_run 4 rfl (by repeat' (first | exact trivial | assumption | exact xob_b rfl | exact xal_b rfl | (apply And.intro) | decide)) ?_
  refine xG_c2 3 rfl (by repeat' (first | exact trivial | assumption | exact xob_b rfl | exact xal_b rfl | (apply And.intro) | decide)) rfl rfl (by decide) cw_X12_isIn (d' := d - 1) (e_isIn (c := 0 ≤ w ∧ w ≤ 999) (in32 rfl rfl)) (by omega) ?_
  rintro v M' ⟨rfl, hM⟩
  subst M'
  dsimp only [Option.toList, List.cons_append, List.nil_append]
  refine xG_br rfl (fun h9 => ?_) (fun h9 => ?_)
  · have b9 := z1.mp h9
    refine xG_run 5 rfl (by repeat' (first | exact trivial | assumption | exact xob_b rfl | exact xal_b rfl | (apply And.intro) | decide)) ?_
    refine xG_br rfl (fun h24 => ?_) (fun h24 => ?_)
    · have hlt : n < 8 := by
        have : ¬ n = 8 := fun q => h24 (by rw [hn, q]; rfl)
        omega
      have hs9 : xar 167 0 182 ((147 : Int32) + gI M 167 (1645 : Int32).toNatClampNeg) := by rw [hn]; exact hs hlt
      refine xG_run 22 rfl (by repeat' (first | exact trivial | assumption | exact xob_b rfl | exact xal_b rfl | (apply And.intro) | decide)) ?_
      refine r2_i rfl rfl ?_
      first
        | exact Or.inr (Or.inl ⟨b9.1, b9.2, hlt, rfl, rfl⟩)
        | exact Or.inr (Or.inr ⟨b9, rfl, rfl⟩)
        | (have c1 : ((147 : Int32) + gI M 167 (1645 : Int32).toNatClampNeg).toNatClampNeg = 147 + n := by rw [hn, e1]; exact nI_cl (by omega)
           have c2 : gI (sI M 167 (147 + n) w) 167 (1645 : Int32).toNatClampNeg = nI n := (gI_ne (Or.inr (by show 1645 ≠ 147 + n; omega))).trans hn
           rw [c1, c2, nI_1, gI_self]
           exact Or.inl ⟨b9.1, b9.2, hlt, rfl, rfl⟩)
    · have hlt : n = 8 := by
        have a := Decidable.not_not.mp h24
        rw [hn] at a
        exact (nI_eq (a := n) (b := 8) (by omega) (by omega)).mp a
      refine xG_run 1 rfl (by repeat' (first | exact trivial | assumption | exact xob_b rfl | exact xal_b rfl | (apply And.intro) | decide)) ?_
      refine r2_i rfl rfl ?_
      first
        | exact Or.inr (Or.inl ⟨b9.1, b9.2, hlt, rfl, rfl⟩)
        | exact Or.inr (Or.inr ⟨b9, rfl, rfl⟩)
        | (have c1 : ((147 : Int32) + gI M 167 (1645 : Int32).toNatClampNeg).toNatClampNeg = 147 + n := by rw [hn, e1]; exact nI_cl (by omega)
           have c2 : gI (sI M 167 (147 + n) w) 167 (1645 : Int32).toNatClampNeg = nI n := (gI_ne (Or.inr (by show 1645 ≠ 147 + n; omega))).trans hn
           rw [c1, c2, nI_1, gI_self]
           exact Or.inl ⟨b9.1, b9.2, hlt, rfl, rfl⟩)
  · have b9 := z0.mp (Decidable.not_not.mp h9)
    refine xG_run 1 rfl (by repeat' (first | exact trivial | assumption | exact xob_b rfl | exact xal_b rfl | (apply And.intro) | decide)) ?_
    refine r2_i rfl rfl ?_
    first
      | exact Or.inr (Or.inl ⟨b9.1, b9.2, hlt, rfl, rfl⟩)
      | exact Or.inr (Or.inr ⟨b9, rfl, rfl⟩)
      | (have c1 : ((147 : Int32) + gI M 167 (1645 : Int32).toNatClampNeg).toNatClampNeg = 147 + n := by rw [hn, e1]; exact nI_cl (by omega)
         have c2 : gI (sI M 167 (147 + n) w) 167 (1645 : Int32).toNatClampNeg = nI n := (gI_ne (Or.inr (by show 1645 ≠ 147 + n; omega))).trans hn
         rw [c1, c2, nI_1, gI_self]
         exact Or.inl ⟨b9.1, b9.2, hlt, rfl, rfl⟩)
theorem i_nlt2 {x y : Int32} (h : ¬ y < x) : x ≤ y := Int32.not_lt.mp h
theorem w01 {w : Int32} (h : 0 ≤ w ∧ w ≤ 1) (h0 : ¬ w = 0) : w = 1 := by
  have e : (1 : Int32).toInt = 1 := by decide
  apply Int32.toInt_inj.mp
  have a := h.1
  have b := h.2
  rw [Int32.le_iff_toInt_le] at a b
  rw [Int32.toInt_zero] at a
  have c : ¬ w.toInt = 0 := fun q => h0 (Int32.toInt_inj.mp (q.trans Int32.toInt_zero.symm))
  omega
theorem sq_u {s t q : Nat} (h1 : s * s ≤ q) (h2 : q < (s + 1) * (s + 1)) (h3 : t * t ≤ q) (h4 : q < (t + 1) * (t + 1)) : s = t := by
  have a : ¬ s < t := fun c => by
    have := Nat.mul_le_mul (show s + 1 ≤ t by omega) (show s + 1 ≤ t by omega)
    omega
  have b : ¬ t < s := fun c => by
    have := Nat.mul_le_mul (show t + 1 ≤ s by omega) (show t + 1 ≤ s by omega)
    omega
  omega
set_option maxRecDepth 4000 in
theorem e_m_gusts {κ : xKK} {d : Nat} {M : xM} {n q : Nat} (hn : gI M 167 1645 = nI n) (hn2 : n ≤ 8) (hq : iSum (fun k => gI M 167 (147 + k) * gI M 167 (147 + k)) n = nI q) (hq2 : q < 8000000) {w : Int32} (hd : 1 ≤ d) : xE2 κ mX12_gusts d [.ref 166, .int w] M (fun v M' => ((w = 0 ∧ (∃ s : Nat, v = some (.int (nI s)) ∧ s * s ≤ q ∧ q < (s + 1) * (s + 1)) ∨ w = 1 ∧ v = some (.int (iSum (fun k => gI M 167 (147 + k)) n))) ∨ (¬ (0 ≤ w ∧ w ≤ 1) ∧ v = some (.int (-1)))) ∧ M' = M) := by
  refine xE2_of ci_X12_gusts cl_X12_gusts cw_X12_gusts rfl (L := [some (.ref 166), some (.int w), none, none, none]) rfl ?_
  have hn : gI M 167 (1645 : Int32).toNatClampNeg = nI n := hn
  have hs0 : xar 167 0 182 1645 := xar_n (j := 1645) rfl 1651 rfl (by omega) (by omega)
  refine xG_run 4 rfl (by repeat' (first | exact trivial | assumption | exact xob_b rfl | exact xal_b rfl | (apply And.intro) | decide)) ?_
  refine xG_c2 3 rfl (by repeat' (first | exact trivial | assumption | exact xob_b rfl | exact xal_b rfl | (apply And.intro) | decide)) rfl rfl (by decide) cw_X12_isIn (d' := d - 1) (e_isIn (c := 0 ≤ w ∧ w ≤ 1) (in32 rfl rfl)) (by omega) ?_
  rintro v M' ⟨rfl, hM⟩
  subst M'
  dsimp only [Option.toList, List.cons_append, List.nil_append]
  refine xG_br rfl (fun h7 => ?_) (fun h7 => ?_)
  · have b7 := z1.mp h7
    refine xG_run 6 rfl (by repeat' (first | exact trivial | assumption | exact xob_b rfl | exact xal_b rfl | (apply And.intro) | decide)) ?_
    refine xG_up (fun j => (19, [some (.ref 166), some (.int w), some (.int (iSum (fun k => gI M 167 (147 + k)) j)), some (.int (iSum (fun k => gI M 167 (147 + k) * gI M 167 (147 + k)) j)), some (.int (nI j))], [], M, z2)) n ?_ ?_ 0 (Nat.zero_le _)
    · intro j hj ih
      have e1 : (147 : Int32) + nI j = nI (147 + j) := nI_add 147 j
      have e2 : ((147 : Int32) + nI j).toNatClampNeg = 147 + j := by rw [e1]; exact nI_cl (by omega)
      have hs : xar 167 0 182 ((147 : Int32) + nI j) := by rw [e1]; exact xar_n rfl 1651 rfl (by omega) (by omega)
      refine xG_run 5 rfl (by repeat' (first | exact trivial | assumption | exact xob_b rfl | exact xal_b rfl | (apply And.intro) | decide)) ?_
      refine xG_brF rfl (by rw [hn]; exact nI_ge hj (by omega)) ?_
      refine xG_run 27 rfl (by repeat' (first | exact trivial | assumption | exact xob_b rfl | exact xal_b rfl | (apply And.intro) | decide)) ?_
      rw [e2, nI_1]; exact ih
    · refine xG_run 5 rfl (by repeat' (first | exact trivial | assumption | exact xob_b rfl | exact xal_b rfl | (apply And.intro) | decide)) ?_
      refine xG_brT rfl (by rw [hn]; exact Int32.le_refl _) ?_
      refine xG_run 2 rfl (by repeat' (first | exact trivial | assumption | exact xob_b rfl | exact xal_b rfl | (apply And.intro) | decide)) ?_
      rw [hq]
      have lp : ∀ k j : Nat, k + j = 3000 → j * j ≤ q → xG κ mX12_gusts (d, 0, 0) (81, [some (.ref 166), some (.int w), some (.int (iSum (fun k => gI M 167 (147 + k)) n)), some (.int (nI q)), some (.int (nI j))], [], M, z2) (xRet mX12_gusts false (fun v M' n' => n' = 182 ∧ (((w = 0 ∧ (∃ s : Nat, v = some (.int (nI s)) ∧ s * s ≤ q ∧ q < (s + 1) * (s + 1)) ∨ w = 1 ∧ v = some (.int (iSum (fun k => gI M 167 (147 + k)) n))) ∨ (¬ (0 ≤ w ∧ w ≤ 1) ∧ v = some (.int (-1)))) ∧ M' = M))) := by
        intro k
        induction k with
        | zero =>
          intro j hj h2
          have : j = 3000 := by omega
          subst this
          omega
        | succ k ih =>
          intro j hj h2
          have hs : j * j ≤ 3000 * 3000 := Nat.mul_le_mul (by omega) (by omega)
          have hs2 : (j + 1) * (j + 1) ≤ 3001 * 3001 := Nat.mul_le_mul (by omega) (by omega)
          refine xG_run 8 rfl (by repeat' (first | exact trivial | assumption | exact xob_b rfl | exact xal_b rfl | (apply And.intro) | decide)) ?_
          refine xG_br rfl (fun h91 => ?_) (fun h91 => ?_)
          · refine xG_run 1 rfl (by repeat' (first | exact trivial | assumption | exact xob_b rfl | exact xal_b rfl | (apply And.intro) | decide)) ?_
            refine xG_br rfl (fun h101 => ?_) (fun h101 => ?_)
            · refine xG_run 1 rfl (by repeat' (first | exact trivial | assumption | exact xob_b rfl | exact xal_b rfl | (apply And.intro) | decide)) ?_
              refine r2_i rfl rfl ?_
              first
                | (refine ⟨Or.inl (Or.inl ⟨Decidable.not_not.mp h101, j, rfl, h2, ?_⟩), rfl⟩
                   rw [nI_1, pk_mul] at h91
                   exact (nI_ltI (by omega) (by omega)).mp h91)
                | exact ⟨Or.inl (Or.inr ⟨w01 b7 h101, rfl⟩), rfl⟩
            · refine xG_run 2 rfl (by repeat' (first | exact trivial | assumption | exact xob_b rfl | exact xal_b rfl | (apply And.intro) | decide)) ?_
              refine r2_i rfl rfl ?_
              first
                | (refine ⟨Or.inl (Or.inl ⟨Decidable.not_not.mp h101, j, rfl, h2, ?_⟩), rfl⟩
                   rw [nI_1, pk_mul] at h91
                   exact (nI_ltI (by omega) (by omega)).mp h91)
                | exact ⟨Or.inl (Or.inr ⟨w01 b7 h101, rfl⟩), rfl⟩
          · refine xG_run 2 rfl (by repeat' (first | exact trivial | assumption | exact xob_b rfl | exact xal_b rfl | (apply And.intro) | decide)) ?_
            rw [nI_1]; exact ih (j + 1) (by omega) (by rw [nI_1, pk_mul] at h91; have := (nI_leI (by omega) (by omega)).mp (i_nlt2 h91); omega)
      exact lp 3000 0 (by omega) (by omega)
  · have b7 := z0.mp (Decidable.not_not.mp h7)
    refine xG_run 1 rfl (by repeat' (first | exact trivial | assumption | exact xob_b rfl | exact xal_b rfl | (apply And.intro) | decide)) ?_
    refine r2_i rfl rfl ?_
    exact ⟨Or.inr ⟨b7, rfl⟩, rfl⟩
