/-! ===== the law's helpers ===== -/
theorem xar_out : xar 181 1 182 0 := xar_b rfl 1 rfl (by decide) (by decide)
theorem gwh_push : Cond.methodLink mL_push.1.1 7 mX11_push.1.2.1 ∈ GW := xw1 (by decide +kernel)
theorem gwh_rest : Cond.methodLink mL_rest.1.1 15 mX11_rest.1.2.1 ∈ GW := xw1 (by decide +kernel)
theorem gwh_element : Cond.methodLink mL_element.1.1 18 mX11_element.1.2.1 ∈ GW := xw1 (by decide +kernel)
theorem gwh_13 : Cond.classLink RL 13 xIAE ∈ GW := xw1 (by decide +kernel)
theorem gwh_22 : Cond.classLink RL 22 xISE ∈ GW := xw1 (by decide +kernel)
set_option maxRecDepth 4000 in
theorem h_push {κ : xKK} {M : xM} {i : Int32} {Post : Int64 → xM → Prop} {Thr : String → xM → Prop} (hE : xTv κ mX11_push (20, 1, 6) [.ref 0, .int i] M Post Thr) (hx : ∀ E M', Thr E M' → E = xIAE) : xHv κ mL_push [(0, 8, 11, 13)] (40, 1, 6) [.ref 0, .int i, .ref 181] M (fun v M' => (v = 0 ∧ ∃ w M1, Post w M1 ∧ M' = sJ M1 181 0 w) ∨ (v = 1 ∧ Thr xIAE M')) := by
  refine xHv_of ci_L_push cl_L_push (by decide +kernel) rfl (by decide) rfl rfl (L := [some (.ref 0), some (.int i), some (.ref 181), none]) rfl ?_
  intro p e s me args below meth c hC hT htab fin
  have hxo := xar_out
  refine xA_run 4 rfl (by repeat' (first | exact trivial | assumption | exact xob_b rfl | exact xal_b rfl | (apply And.intro) | decide)) hC ?_
  refine xA_cx (idx := 7) (o := 0) (as := [.int i]) (st := [.int 0, .ref 181]) rfl (xob_b rfl) rfl rfl rfl (by decide) rfl cw_X11_push gwh_push rfl hE ⟨by decide, by decide, by decide⟩ hC hT ?_ ?_
  · intro v M1 hp
    refine xA_run 3 rfl (by repeat' (first | exact trivial | assumption | exact xob_b rfl | exact xal_b rfl | (apply And.intro) | decide)) hC ?_
    exact fin 15 _ 0 _ _ _ _ rfl rfl (Or.inl ⟨rfl, v, M1, hp, rfl⟩)
  · intro E M1 q hp
    have hE2 := hx E M1 hp
    subst hE2
    refine ⟨[], ⟨0, 8, 11, 13⟩, [], xIAE, by rw [htab]; rfl, fun z hz => absurd hz List.not_mem_nil, by decide, by decide, hC.2.2.2.2.1 _ gwh_13, hT.2.2.1.1.use rfl, ?_⟩
    refine xA_ast rfl hC ?_
    refine xA_run 1 rfl trivial hC ?_
    exact fin 13 _ 1 _ _ _ _ rfl rfl (Or.inr ⟨rfl, hp⟩)
set_option maxRecDepth 4000 in
theorem h_rest {κ : xKK} {M : xM} {i : Int32} {Post : Int64 → xM → Prop} {Thr : String → xM → Prop} (hE : xTv κ mX11_rest (20, 1, 6) [.ref 0, .int i] M Post Thr) (hx : ∀ E M', Thr E M' → E = xIAE) : xHv κ mL_rest [(0, 8, 11, 13)] (40, 1, 6) [.ref 0, .int i, .ref 181] M (fun v M' => (v = 0 ∧ ∃ w M1, Post w M1 ∧ M' = sJ M1 181 0 w) ∨ (v = 1 ∧ Thr xIAE M')) := by
  refine xHv_of ci_L_rest cl_L_rest (by decide +kernel) rfl (by decide) rfl rfl (L := [some (.ref 0), some (.int i), some (.ref 181), none]) rfl ?_
  intro p e s me args below meth c hC hT htab fin
  have hxo := xar_out
  refine xA_run 4 rfl (by repeat' (first | exact trivial | assumption | exact xob_b rfl | exact xal_b rfl | (apply And.intro) | decide)) hC ?_
  refine xA_cx (idx := 15) (o := 0) (as := [.int i]) (st := [.int 0, .ref 181]) rfl (xob_b rfl) rfl rfl rfl (by decide) rfl cw_X11_rest gwh_rest rfl hE ⟨by decide, by decide, by decide⟩ hC hT ?_ ?_
  · intro v M1 hp
    refine xA_run 3 rfl (by repeat' (first | exact trivial | assumption | exact xob_b rfl | exact xal_b rfl | (apply And.intro) | decide)) hC ?_
    exact fin 15 _ 0 _ _ _ _ rfl rfl (Or.inl ⟨rfl, v, M1, hp, rfl⟩)
  · intro E M1 q hp
    have hE2 := hx E M1 hp
    subst hE2
    refine ⟨[], ⟨0, 8, 11, 13⟩, [], xIAE, by rw [htab]; rfl, fun z hz => absurd hz List.not_mem_nil, by decide, by decide, hC.2.2.2.2.1 _ gwh_13, hT.2.2.1.1.use rfl, ?_⟩
    refine xA_ast rfl hC ?_
    refine xA_run 1 rfl trivial hC ?_
    exact fin 13 _ 1 _ _ _ _ rfl rfl (Or.inr ⟨rfl, hp⟩)
set_option maxRecDepth 4000 in
theorem h_element {κ : xKK} {M : xM} {i a : Int32} {Post : Int64 → xM → Prop} {Thr : String → xM → Prop} (hE : xTv κ mX11_element (20, 1, 6) [.ref 0, .int i, .int a] M Post Thr) (hx : ∀ E M', Thr E M' → E = xIAE ∨ E = xISE) : xHv κ mL_element [(0, 9, 12, 13), (0, 9, 16, 22)] (40, 1, 6) [.ref 0, .int i, .int a, .ref 181] M (fun v M' => (v = 0 ∧ ∃ w M1, Post w M1 ∧ M' = sJ M1 181 0 w) ∨ (v = 1 ∧ Thr xIAE M') ∨ (v = 2 ∧ Thr xISE M')) := by
  refine xHv_of ci_L_element cl_L_element (by decide +kernel) rfl (by decide) rfl rfl (L := [some (.ref 0), some (.int i), some (.int a), some (.ref 181), none]) rfl ?_
  intro p e s me args below meth c hC hT htab fin
  have hxo := xar_out
  refine xA_run 5 rfl (by repeat' (first | exact trivial | assumption | exact xob_b rfl | exact xal_b rfl | (apply And.intro) | decide)) hC ?_
  refine xA_cx (idx := 18) (o := 0) (as := [.int i, .int a]) (st := [.int 0, .ref 181]) rfl (xob_b rfl) rfl rfl rfl (by decide) rfl cw_X11_element gwh_element rfl hE ⟨by decide, by decide, by decide⟩ hC hT ?_ ?_
  · intro v M1 hp
    refine xA_run 3 rfl (by repeat' (first | exact trivial | assumption | exact xob_b rfl | exact xal_b rfl | (apply And.intro) | decide)) hC ?_
    exact fin 21 _ 0 _ _ _ _ rfl rfl (Or.inl ⟨rfl, v, M1, hp, rfl⟩)
  · intro E M1 q hp
    rcases hx E M1 hp with hE2 | hE2
    · subst hE2
      refine ⟨[], ⟨0, 9, 12, 13⟩, [⟨0, 9, 16, 22⟩], xIAE, by rw [htab]; rfl, fun z hz => absurd hz List.not_mem_nil, by decide, by decide, hC.2.2.2.2.1 _ gwh_13, hT.2.2.1.1.use rfl, ?_⟩
      refine xA_astw rfl hC ?_
      refine xA_run 1 rfl trivial hC ?_
      exact fin 15 _ 1 _ _ _ _ rfl rfl (Or.inr (Or.inl ⟨rfl, hp⟩))
    · subst hE2
      refine ⟨[⟨0, 9, 12, 13⟩], ⟨0, 9, 16, 22⟩, [], xISE, by rw [htab]; rfl, fun z hz => ?_, by decide, by decide, hC.2.2.2.2.1 _ gwh_22, hT.2.2.1.2.1.use rfl, ?_⟩
      · rcases List.mem_singleton.mp hz with rfl
        exact Or.inr ⟨by decide, xIAE, hC.2.2.2.2.1 _ gwh_13, hT.2.2.1.2.2.1⟩
      refine xA_astw rfl hC ?_
      refine xA_run 1 rfl trivial hC ?_
      exact fin 19 _ 2 _ _ _ _ rfl rfl (Or.inr (Or.inr ⟨rfl, hp⟩))
/-! ===== pairs: the helper, then the reference ===== -/
def PRh (κ : xKK) (f : xMI) (hh : List (Nat × Nat × Nat × Nat)) (g : xMI) (as : List Value) (M : xM) : Prop := xHv κ f hh (40, 1, 6) (.ref 0 :: (as ++ [.ref 181])) M (fun k M1 => ∀ d2, 190 ≤ d2 → xE2 κ g d2 (.ref 166 :: as) M1 (fun v2 M2 => ∃ b, v2 = some (.long b) ∧ gI M2 166 11 = k ∧ (k = 0 → gJ M2 181 0 = b) ∧ IV M2))
theorem xHv.imp {κ : xKK} {m : xMI} {hh : List (Nat × Nat × Nat × Nat)} {r : xRm} {as : List Value} {M : xM} {P1 P2 : Int32 → xM → Prop} (h : xHv κ m hh r as M P1) (hi : ∀ v M', P1 v M' → P2 v M') : xHv κ m hh r as M P2 := by
  intro p e ha hc hk s me args below hf happ hP hn
  obtain ⟨k, o, h1, h2, h3, ⟨⟨r0, u, e1, e2, e3⟩, h5⟩, h6⟩ := h p e ha hc hk s me args below hf happ hP hn
  exact ⟨k, o, h1, h2, h3, ⟨⟨r0, u, e1, hi _ _ e2, e3⟩, h5⟩, h6⟩
theorem kIV_out {M M1 : xM} (h : kIV M M1) (w : Int64) : kIV M (sJ M1 181 0 w) := ⟨h.1, h.2.1, by rw [gJsJ, if_neg (by omega)]; exact h.2.2⟩
theorem kIV_thr {M M1 : xM} (h : kIV M M1) (w : Int32) : kIV M (sI M1 166 11 w) := ⟨fun x k q => by rw [gIsI, if_neg (by omega)]; exact h.1 x k q, by rw [gIsI, if_neg (by omega)]; exact h.2.1, h.2.2⟩
set_option maxRecDepth 4000 in
theorem e_m_thrown {κ : xKK} {d : Nat} {M : xM} : xE2 κ mX12_thrown d [.ref 166] M (fun v M' => v = some (.int (gI M 166 11)) ∧ M' = M) := by
  refine xE2_of ci_X12_thrown cl_X12_thrown cw_X12_thrown rfl (L := [some (.ref 166)]) rfl ?_
  refine xG_run 2 rfl (by repeat' (first | exact trivial | assumption | exact xob_b rfl | exact xal_b rfl | (apply And.intro) | decide)) ?_
  refine r2_i rfl rfl ?_
  exact ⟨rfl, rfl⟩
theorem pr_push {κ : xKK} {M : xM} (hl : κ.1.stackTraces = false) (hI : IV M) {i : Int32} : PRh κ mL_push [(0, 8, 11, 13)] mX12_push [.int i] M := by
  obtain ⟨⟨np, nr, ng, no, nu, hm, ho, hu⟩, hj, hs, hi9, ht9⟩ := id hI
  have hn := hm.2.1.1
  have hn2 := hm.1.1
  have hr := hm.2.2.1.1
  have hr2 := hm.1.2.1
  have hsh : ∀ i, i < np → 0 ≤ (cSh M 1 (6 + i)).toInt ∧ (cSh M 1 (6 + i)).toInt < 5 := fun i hi => r_sh hm hi
  refine xHv.imp (h_push (t_push hl hn hn2 hsh) (fun E M' q => q.1)) (fun v M1 h1 => ?_)
  intro d2 hd2
  rcases h1 with ⟨rfl, w, M0, ⟨j, hj1, hj2, rfl, rfl⟩, rfl⟩ | ⟨rfl, -, hno, rfl⟩
  · have k1 : kIV M0 (sJ M0 181 0 (cPu M0 1 (6 + j))) := kIV_out kIV_0 _
    generalize hM1 : sJ M0 181 0 (cPu M0 1 (6 + j)) = M1 at k1 ⊢
    have o1 : gJ M1 181 0 = cPu M0 1 (6 + j) := by rw [← hM1]; exact gJ_self _ _ _ _
    have e67 : ∀ k, gI M1 167 k = gI M0 167 k := fun k => k1.1 _ _ (by omega)
    have ej : gJ M1 166 18 = gJ M0 166 18 := k1.2.2
    have hI1 := IV_k hI k1
    have hm1 : mR M1 1 M1 167 np nr ng := mR_g hm (fun x k a b => k1.1 _ _ (by omega)) e67
    have hn' := hm1.2.1.2
    have hr' := hm1.2.2.1.2
    have hw1 := rPw hm1
    have hh1 := rQh hm1
    refine xE2.imp (e_m_push hn' hn2 hw1 (by omega)) (fun v2 M2 h2 => ?_)
    rcases h2 with ⟨j2, hj3, hj4, rfl, rfl⟩ | ⟨hno2, rfl, rfl⟩
    · obtain rfl : j2 = j := nI_injb (by omega) (by omega) (hj2.symm.trans hj4)
      refine ⟨_, rfl, gI_self _ _ _ _, fun _ => ?_, IV_k hI (kIV_thr k1 0)⟩
      rw [gJsI, o1, rPu_c e67]
      exact q_Pu hm hj1
    · exact absurd ⟨j, hj1, hj2⟩ hno2
  · have k1 : kIV M1 M1 := kIV_0
    have e67 : ∀ k, gI M1 167 k = gI M1 167 k := fun k => k1.1 _ _ (by omega)
    have ej : gJ M1 166 18 = gJ M1 166 18 := k1.2.2
    have hI1 := IV_k hI k1
    have hm1 : mR M1 1 M1 167 np nr ng := mR_g hm (fun x k a b => k1.1 _ _ (by omega)) e67
    have hn' := hm1.2.1.2
    have hr' := hm1.2.2.1.2
    have hw1 := rPw hm1
    have hh1 := rQh hm1
    refine xE2.imp (e_m_push hn' hn2 hw1 (by omega)) (fun v2 M2 h2 => ?_)
    rcases h2 with ⟨j2, hj3, hj4, rfl, rfl⟩ | ⟨hno2, rfl, rfl⟩
    · exact absurd ⟨j2, hj3, hj4⟩ hno
    · exact ⟨_, rfl, gI_self _ _ _ _, fun q => absurd q (by decide), IV_k hI (kIV_thr k1 1)⟩
theorem pr_rest {κ : xKK} {M : xM} (hl : κ.1.stackTraces = false) (hI : IV M) {i : Int32} : PRh κ mL_rest [(0, 8, 11, 13)] mX12_rest [.int i] M := by
  obtain ⟨⟨np, nr, ng, no, nu, hm, ho, hu⟩, hj, hs, hi9, ht9⟩ := id hI
  have hn := hm.2.1.1
  have hn2 := hm.1.1
  have hr := hm.2.2.1.1
  have hr2 := hm.1.2.1
  have hsh : ∀ i, i < np → 0 ≤ (cSh M 1 (6 + i)).toInt ∧ (cSh M 1 (6 + i)).toInt < 5 := fun i hi => r_sh hm hi
  refine xHv.imp (h_rest (t_rest hl hn hn2 hr hr2 hsh) (fun E M' q => q.1)) (fun v M1 h1 => ?_)
  intro d2 hd2
  rcases h1 with ⟨rfl, w, M0, ⟨b1, b2, rfl, hb⟩, rfl⟩ | ⟨rfl, -, hno, rfl⟩
  · have k1 : kIV M (sJ M0 181 0 (cAll M 1 np nr i)) := kIV_out (kIV_k (kFr_b hb)) _
    generalize hM1 : sJ M0 181 0 (cAll M 1 np nr i) = M1 at k1 ⊢
    have o1 : gJ M1 181 0 = cAll M 1 np nr i := by rw [← hM1]; exact gJ_self _ _ _ _
    have e67 : ∀ k, gI M1 167 k = gI M 167 k := fun k => k1.1 _ _ (by omega)
    have ej : gJ M1 166 18 = gJ M 166 18 := k1.2.2
    have hI1 := IV_k hI k1
    have hm1 : mR M1 1 M1 167 np nr ng := mR_g hm (fun x k a b => k1.1 _ _ (by omega)) e67
    have hn' := hm1.2.1.2
    have hr' := hm1.2.2.1.2
    have hw1 := rPw hm1
    have hh1 := rQh hm1
    refine xE2.imp (e_m_rest hn' hn2 hr' hr2 hw1 hh1 (by omega)) (fun v2 M2 h2 => ?_)
    rcases h2 with ⟨b3, b4, rfl, rfl⟩ | ⟨hno2, rfl, rfl⟩
    · refine ⟨_, rfl, gI_self _ _ _ _, fun _ => ?_, IV_k hI (kIV_thr k1 0)⟩
      rw [gJsI, o1, rAll_c e67 ej]
      exact q_All hm hj (by have := Int32.le_iff_toInt_le.mp b1; exact this) (by have := Int32.le_iff_toInt_le.mp b2; exact this)
    · exact absurd ⟨b1, b2⟩ hno2
  · have k1 : kIV M1 M1 := kIV_0
    have e67 : ∀ k, gI M1 167 k = gI M1 167 k := fun k => k1.1 _ _ (by omega)
    have ej : gJ M1 166 18 = gJ M1 166 18 := k1.2.2
    have hI1 := IV_k hI k1
    have hm1 : mR M1 1 M1 167 np nr ng := mR_g hm (fun x k a b => k1.1 _ _ (by omega)) e67
    have hn' := hm1.2.1.2
    have hr' := hm1.2.2.1.2
    have hw1 := rPw hm1
    have hh1 := rQh hm1
    refine xE2.imp (e_m_rest hn' hn2 hr' hr2 hw1 hh1 (by omega)) (fun v2 M2 h2 => ?_)
    rcases h2 with ⟨b3, b4, rfl, rfl⟩ | ⟨hno2, rfl, rfl⟩
    · exact absurd ⟨b3, b4⟩ hno
    · exact ⟨_, rfl, gI_self _ _ _ _, fun q => absurd q (by decide), IV_k hI (kIV_thr k1 1)⟩
theorem el_iff {M : xM} {j : Nat} {a : Int32} (h : shI M j) : (gI M (142 + 3 * j) 0 = 2 ∧ hsP M j a 1) ↔ (gI M 170 j = 2 ∧ 0 ≤ a ∧ a < gI M 172 j) := by
  obtain ⟨a1, -, ⟨z, z1, z2, z3⟩, -, -⟩ := h
  rw [a1.1, z3]
  have hz : (gI M (142 + 3 * j) 3).toInt = (z : Int) := by rw [z2, nI_ti (by omega)]
  have h1 : (1 : Int32).toInt = 1 := by decide
  have h2 : (nI z).toInt = (z : Int) := nI_ti (by omega)
  constructor
  · rintro ⟨b1, b2, -, b4⟩
    exact ⟨b1, b2, Int32.lt_iff_toInt_lt.mpr (by omega)⟩
  · rintro ⟨b1, b2, b3⟩
    have := Int32.lt_iff_toInt_lt.mp b3
    exact ⟨b1, b2, by decide, by omega⟩
theorem pr_element {κ : xKK} {M : xM} (hl : κ.1.stackTraces = false) (hI : IV M) {i a : Int32} : PRh κ mL_element [(0, 9, 12, 13), (0, 9, 16, 22)] mX12_element [.int i, .int a] M := by
  obtain ⟨⟨np, nr, ng, no, nu, hm, ho, hu⟩, hj, hs, hi9, ht9⟩ := id hI
  have hn := hm.2.1.1
  have hn2 := hm.1.1
  have hr := hm.2.2.1.1
  have hr2 := hm.1.2.1
  have hsh : ∀ i, i < np → 0 ≤ (cSh M 1 (6 + i)).toInt ∧ (cSh M 1 (6 + i)).toInt < 5 := fun i hi => r_sh hm hi
  have hz : ∀ j, j < 8 → ∃ z, z ≤ 120 ∧ gI M (142 + 3 * j) 3 = nI z := fun j hj => (hs j hj).2.2.1.elim (fun z q => ⟨z, q.1, q.2.1⟩)
  have hz2 : ∀ j, j < 8 → ∃ z, z ≤ 120 ∧ gI M 172 j = nI z := fun j hj => (hs j hj).2.2.1.elim (fun z q => ⟨z, q.1, q.2.2⟩)
  refine xHv.imp (h_element (t_element hl hz) (fun E M' q => q.1.elim (fun q => Or.inr q.1) (fun q => Or.inl q.1))) (fun v M1 h1 => ?_)
  intro d2 hd2
  rcases h1 with ⟨rfl, w, M0, ⟨j, hj1, hj2, hc, rfl, rfl⟩, rfl⟩ | ⟨rfl, h1, rfl⟩ | ⟨rfl, h1, rfl⟩
  · have k1 : kIV M0 (sJ M0 181 0 (gI M0 (144 + 3 * j) a.toNatClampNeg).toInt64) := kIV_out kIV_0 _
    generalize hM1 : sJ M0 181 0 (gI M0 (144 + 3 * j) a.toNatClampNeg).toInt64 = M1 at k1 ⊢
    have o1 : gJ M1 181 0 = (gI M0 (144 + 3 * j) a.toNatClampNeg).toInt64 := by rw [← hM1]; exact gJ_self _ _ _ _
    have e : ∀ x k, gI M1 x k = gI M0 x k := fun x k => by rw [← hM1]; rfl
    refine xE2.imp (e_m_element (M := M1) (fun j hj => by rw [e]; exact hz2 j hj) (by omega)) (fun v2 M2 h2 => ?_)
    have hc2 := (el_iff (hs j hj1)).mp hc
    simp only [e] at h2
    rcases h2 with ⟨j2, hj3, hj4, ⟨h3, rfl, rfl⟩ | ⟨h3, rfl, rfl⟩⟩ | ⟨hno2, rfl, rfl⟩
    · obtain rfl : j2 = j := nI_injb (by omega) (by omega) (hj2.symm.trans hj4)
      refine ⟨_, rfl, gI_self _ _ _ _, fun _ => ?_, IV_k hI (kIV_thr k1 0)⟩
      rw [gJsI, o1]
      have ha : a.toNatClampNeg < 120 := by
        obtain ⟨z, z1, z2⟩ := hz2 j2 hj1
        have := Int32.lt_iff_toInt_lt.mp hc2.2.2
        rw [z2, nI_ti (by omega)] at this
        have e : a.toNatClampNeg = a.toInt.toNat := rfl
        omega
      rw [(hs j2 hj1).2.2.2.1 _ ha]
    · obtain rfl : j2 = j := nI_injb (by omega) (by omega) (hj2.symm.trans hj4)
      exact absurd hc2 h3
    · exact absurd ⟨j, hj1, hj2⟩ hno2
  · have k1 : kIV M1 M1 := kIV_0
    have hno : ¬ ∃ j, j < 8 ∧ i = nI j := by
      rcases h1 with ⟨q, -⟩ | ⟨-, q⟩
      · exact absurd q (by decide)
      · exact q
    refine xE2.imp (e_m_element hz2 (by omega)) (fun v2 M2 h2 => ?_)
    rcases h2 with ⟨j2, hj3, hj4, -⟩ | ⟨hno2, rfl, rfl⟩
    · exact absurd ⟨j2, hj3, hj4⟩ hno
    · exact ⟨_, rfl, gI_self _ _ _ _, fun q => absurd q (by decide), IV_k hI (kIV_thr k1 1)⟩
  · have k1 : kIV M1 M1 := kIV_0
    obtain ⟨j, hj1, hj2, hno⟩ : ∃ j, j < 8 ∧ i = nI j ∧ ¬ (gI M1 (142 + 3 * j) 0 = 2 ∧ hsP M1 j a 1) := by
      rcases h1 with ⟨-, q⟩ | ⟨q, -⟩
      · exact q
      · exact absurd q (by decide)
    refine xE2.imp (e_m_element hz2 (by omega)) (fun v2 M2 h2 => ?_)
    rcases h2 with ⟨j2, hj3, hj4, ⟨h3, rfl, rfl⟩ | ⟨h3, rfl, rfl⟩⟩ | ⟨hno2, rfl, rfl⟩
    · obtain rfl : j2 = j := nI_injb (by omega) (by omega) (hj2.symm.trans hj4)
      exact absurd ((el_iff (hs j2 hj1)).mpr h3) hno
    · exact ⟨_, rfl, gI_self _ _ _ _, fun q => absurd q (by decide), IV_k hI (kIV_thr k1 2)⟩
    · exact absurd ⟨j, hj1, hj2⟩ hno2
