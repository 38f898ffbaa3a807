/-! ===== pairs of calls that only ask ===== -/
def PRi (κ : xKK) (f g : xMI) (as : List Value) (M : xM) : Prop := ∀ d, 190 ≤ d → xE2 κ f d (.ref 0 :: as) M (fun v M1 => ∃ w, v = some (.int w) ∧ ∀ d2, 190 ≤ d2 → xE2 κ g d2 (.ref 166 :: as) M1 (fun v2 M2 => v2 = some (.int w) ∧ IV M2))
def PRl (κ : xKK) (f g : xMI) (as : List Value) (M : xM) : Prop := ∀ d, 190 ≤ d → xE2 κ f d (.ref 0 :: as) M (fun v M1 => ∃ w, v = some (.long w) ∧ ∀ d2, 190 ≤ d2 → xE2 κ g d2 (.ref 166 :: as) M1 (fun v2 M2 => v2 = some (.long w) ∧ IV M2))
theorem pr_stand {κ : xKK} {M : xM} (hI : IV M) : PRi κ mX11_stand mX12_stand [] M := by
  intro d hd
  have hI9 := hI
  obtain ⟨⟨np, nr, ng, no, nu, hm, ho, hu⟩, hj, hs, hi9, ht9⟩ := hI
  have hn := hm.2.1.1
  have hn2 := hm.1.1
  have hr := hm.2.2.1.1
  have hr2 := hm.1.2.1
  have hsh : ∀ i, i < np → 0 ≤ (cSh M 1 (6 + i)).toInt ∧ (cSh M 1 (6 + i)).toInt < 5 := fun i hi => r_sh hm hi
  have hz : ∀ j, j < 8 → ∃ z, z ≤ 120 ∧ gI M (142 + 3 * j) 3 = nI z := fun j hj => (hs j hj).2.2.1.elim (fun z q => ⟨z, q.1, q.2.1⟩)
  refine xE2.imp (e_x_stand hn hn2 hr hr2 hsh (by omega)) (fun v M1 h1 => ?_)
  obtain ⟨rfl, hk⟩ := h1
  have k1 : kIV M M1 := kIV_k (kFr_b hk)
  have hI1 := IV_k hI9 k1
  have e67 : ∀ k, gI M1 167 k = gI M 167 k := fun k => k1.1 _ _ (by omega)
  have ej : gJ M1 166 18 = gJ M 166 18 := k1.2.2
  have hjk1 : gJ M1 166 18 = 0 := ej.trans hj
  have hm1 : mR M1 1 M1 167 np nr ng := mR_g hm (fun x k a b => k1.1 _ _ (by omega)) e67
  have ho1 : oR M1 71 M1 167 nr no := oR_g ho (fun x k a b => k1.1 _ _ (by omega)) e67
  have hu1 : ruR M1 55 M1 167 nu := ruR_g hu (fun x k a b => k1.1 _ _ (by omega)) e67
  have hs1 : ∀ j, j < 8 → shI M1 j := hI1.2.2.1
  have hz1 : ∀ j, j < 8 → ∃ z, z ≤ 120 ∧ gI M1 172 j = nI z := fun j hj => (hs1 j hj).2.2.1.elim (fun z q => ⟨z, q.1, q.2.2⟩)
  have hn' := hm1.2.1.2
  have hr' := hm1.2.2.1.2
  have hw1 := rPw hm1
  have hh1 := rQh hm1
  refine ⟨_, rfl, fun d2 hd2 => xE2.imp (e_m_stand hn' hn2 hr' hr2 hw1 hh1 (by omega)) (fun v2 M2 h2 => ?_)⟩
  obtain ⟨rfl, hk2⟩ := h2
  refine ⟨?_, IV_k hI1 (hk2 ▸ kIV_0)⟩
  rw [rSt_c e67 ej, show cSt M np nr = rSt M np nr from q_St hm hj (by omega)]
theorem pr_stands {κ : xKK} {M : xM} (hI : IV M) {i : Int32} : PRi κ mX11_stands mX12_stands [.int i] M := by
  intro d hd
  have hI9 := hI
  obtain ⟨⟨np, nr, ng, no, nu, hm, ho, hu⟩, hj, hs, hi9, ht9⟩ := hI
  have hn := hm.2.1.1
  have hn2 := hm.1.1
  have hr := hm.2.2.1.1
  have hr2 := hm.1.2.1
  have hsh : ∀ i, i < np → 0 ≤ (cSh M 1 (6 + i)).toInt ∧ (cSh M 1 (6 + i)).toInt < 5 := fun i hi => r_sh hm hi
  have hz : ∀ j, j < 8 → ∃ z, z ≤ 120 ∧ gI M (142 + 3 * j) 3 = nI z := fun j hj => (hs j hj).2.2.1.elim (fun z q => ⟨z, q.1, q.2.1⟩)
  refine xE2.imp (e_x_stands hn hn2 hr hr2 hsh (by omega)) (fun v M1 h1 => ?_)
  obtain ⟨rfl, hk⟩ := h1
  have k1 : kIV M M1 := kIV_k (kFr_b hk)
  have hI1 := IV_k hI9 k1
  have e67 : ∀ k, gI M1 167 k = gI M 167 k := fun k => k1.1 _ _ (by omega)
  have ej : gJ M1 166 18 = gJ M 166 18 := k1.2.2
  have hjk1 : gJ M1 166 18 = 0 := ej.trans hj
  have hm1 : mR M1 1 M1 167 np nr ng := mR_g hm (fun x k a b => k1.1 _ _ (by omega)) e67
  have ho1 : oR M1 71 M1 167 nr no := oR_g ho (fun x k a b => k1.1 _ _ (by omega)) e67
  have hu1 : ruR M1 55 M1 167 nu := ruR_g hu (fun x k a b => k1.1 _ _ (by omega)) e67
  have hs1 : ∀ j, j < 8 → shI M1 j := hI1.2.2.1
  have hz1 : ∀ j, j < 8 → ∃ z, z ≤ 120 ∧ gI M1 172 j = nI z := fun j hj => (hs1 j hj).2.2.1.elim (fun z q => ⟨z, q.1, q.2.2⟩)
  have hn' := hm1.2.1.2
  have hr' := hm1.2.2.1.2
  have hw1 := rPw hm1
  have hh1 := rQh hm1
  refine ⟨_, rfl, fun d2 hd2 => xE2.imp (e_m_stands hn' hn2 hr' hr2 hw1 hh1 (by omega)) (fun v2 M2 h2 => ?_)⟩
  obtain ⟨rfl, hk2⟩ := h2
  refine ⟨?_, IV_k hI1 (hk2 ▸ kIV_0)⟩
  rw [show rAll M1 np nr = rAll M np nr from funext (fun l => rAll_c e67 ej), q_sd hm hj]
theorem pr_loose {κ : xKK} {M : xM} (hI : IV M) : PRi κ mX11_loose mX12_loose [] M := by
  intro d hd
  have hI9 := hI
  obtain ⟨⟨np, nr, ng, no, nu, hm, ho, hu⟩, hj, hs, hi9, ht9⟩ := hI
  have hn := hm.2.1.1
  have hn2 := hm.1.1
  have hr := hm.2.2.1.1
  have hr2 := hm.1.2.1
  have hsh : ∀ i, i < np → 0 ≤ (cSh M 1 (6 + i)).toInt ∧ (cSh M 1 (6 + i)).toInt < 5 := fun i hi => r_sh hm hi
  have hz : ∀ j, j < 8 → ∃ z, z ≤ 120 ∧ gI M (142 + 3 * j) 3 = nI z := fun j hj => (hs j hj).2.2.1.elim (fun z q => ⟨z, q.1, q.2.1⟩)
  refine xE2.imp (e_x_loose hn hn2 hr hr2 hsh (by omega)) (fun v M1 h1 => ?_)
  obtain ⟨rfl, hk⟩ := h1
  have k1 : kIV M M1 := kIV_k (kFr_b hk)
  have hI1 := IV_k hI9 k1
  have e67 : ∀ k, gI M1 167 k = gI M 167 k := fun k => k1.1 _ _ (by omega)
  have ej : gJ M1 166 18 = gJ M 166 18 := k1.2.2
  have hjk1 : gJ M1 166 18 = 0 := ej.trans hj
  have hm1 : mR M1 1 M1 167 np nr ng := mR_g hm (fun x k a b => k1.1 _ _ (by omega)) e67
  have ho1 : oR M1 71 M1 167 nr no := oR_g ho (fun x k a b => k1.1 _ _ (by omega)) e67
  have hu1 : ruR M1 55 M1 167 nu := ruR_g hu (fun x k a b => k1.1 _ _ (by omega)) e67
  have hs1 : ∀ j, j < 8 → shI M1 j := hI1.2.2.1
  have hz1 : ∀ j, j < 8 → ∃ z, z ≤ 120 ∧ gI M1 172 j = nI z := fun j hj => (hs1 j hj).2.2.1.elim (fun z q => ⟨z, q.1, q.2.2⟩)
  have hn' := hm1.2.1.2
  have hr' := hm1.2.2.1.2
  have hw1 := rPw hm1
  have hh1 := rQh hm1
  refine ⟨_, rfl, fun d2 hd2 => xE2.imp (e_m_loose hn' hn2 hr' hr2 hw1 hh1 (by omega)) (fun v2 M2 h2 => ?_)⟩
  obtain ⟨rfl, hk2⟩ := h2
  refine ⟨?_, IV_k hI1 (hk2 ▸ kIV_0)⟩
  rw [rSt_c e67 ej, rLo_c e67, show cSt M np nr = rSt M np nr from q_St hm hj (by omega)]
  by_cases c : rSt M np nr = 1000
  · rw [if_pos c, if_pos c]
  · rw [if_neg c, if_neg c, cLo_q hm (l := rSt M np nr) (stN_bi (F := rAll M np nr) (by omega) c) nr (Nat.le_refl nr)]
theorem pr_pull {κ : xKK} {M : xM} (hI : IV M) {i : Int32} : PRi κ mX11_pull mX12_pull [.int i] M := by
  intro d hd
  have hI9 := hI
  obtain ⟨⟨np, nr, ng, no, nu, hm, ho, hu⟩, hj, hs, hi9, ht9⟩ := hI
  have hn := hm.2.1.1
  have hn2 := hm.1.1
  have hr := hm.2.2.1.1
  have hr2 := hm.1.2.1
  have hsh : ∀ i, i < np → 0 ≤ (cSh M 1 (6 + i)).toInt ∧ (cSh M 1 (6 + i)).toInt < 5 := fun i hi => r_sh hm hi
  have hz : ∀ j, j < 8 → ∃ z, z ≤ 120 ∧ gI M (142 + 3 * j) 3 = nI z := fun j hj => (hs j hj).2.2.1.elim (fun z q => ⟨z, q.1, q.2.1⟩)
  refine xE2.imp (e_x_pull hn hn2 hr hr2 hsh (by omega)) (fun v M1 h1 => ?_)
  obtain ⟨h1, hk⟩ := h1
  have k1 : kIV M M1 := kIV_k (kFr_b hk)
  have hI1 := IV_k hI9 k1
  have e67 : ∀ k, gI M1 167 k = gI M 167 k := fun k => k1.1 _ _ (by omega)
  have ej : gJ M1 166 18 = gJ M 166 18 := k1.2.2
  have hjk1 : gJ M1 166 18 = 0 := ej.trans hj
  have hm1 : mR M1 1 M1 167 np nr ng := mR_g hm (fun x k a b => k1.1 _ _ (by omega)) e67
  have ho1 : oR M1 71 M1 167 nr no := oR_g ho (fun x k a b => k1.1 _ _ (by omega)) e67
  have hu1 : ruR M1 55 M1 167 nu := ruR_g hu (fun x k a b => k1.1 _ _ (by omega)) e67
  have hs1 : ∀ j, j < 8 → shI M1 j := hI1.2.2.1
  have hz1 : ∀ j, j < 8 → ∃ z, z ≤ 120 ∧ gI M1 172 j = nI z := fun j hj => (hs1 j hj).2.2.1.elim (fun z q => ⟨z, q.1, q.2.2⟩)
  have hn' := hm1.2.1.2
  have hr' := hm1.2.2.1.2
  have hw1 := rPw hm1
  have hh1 := rQh hm1
  rcases h1 with ⟨j, hj1, hj2, rfl⟩ | ⟨hno, rfl⟩
  · refine ⟨_, rfl, fun d2 hd2 => xE2.imp (e_m_pull hn' hn2 hr' hr2 hw1 hh1 (by omega)) (fun v2 M2 h2 => ?_)⟩
    obtain ⟨h2, hk2⟩ := h2
    refine ⟨?_, IV_k hI1 (hk2 ▸ kIV_0)⟩
    rcases h2 with ⟨j2, hj3, hj4, rfl⟩ | ⟨hno2, rfl⟩
    · obtain rfl : j2 = j := nI_injb (by omega) (by omega) (hj2.symm.trans hj4)
      rw [rSt_c e67 ej, rP_c e67, show cSt M np nr = rSt M np nr from q_St hm hj (by omega)]
      by_cases c : rSt M np nr = 1000
      · rw [if_pos c, if_pos c]
      · rw [if_neg c, if_neg c, show cP M (16 + j2) (rSt M np nr) = rP M j2 (rSt M np nr) from q_P hm hj1 (stN_bi (F := rAll M np nr) (by omega) c)]
    · exact absurd ⟨j, hj1, hj2⟩ hno2
  · refine ⟨_, rfl, fun d2 hd2 => xE2.imp (e_m_pull hn' hn2 hr' hr2 hw1 hh1 (by omega)) (fun v2 M2 h2 => ?_)⟩
    obtain ⟨h2, hk2⟩ := h2
    refine ⟨?_, IV_k hI1 (hk2 ▸ kIV_0)⟩
    rcases h2 with ⟨j2, hj3, hj4, rfl⟩ | ⟨hno2, rfl⟩
    · exact absurd ⟨j2, hj3, hj4⟩ hno
    · rfl
theorem pr_piece {κ : xKK} {M : xM} (hI : IV M) {i w : Int32} : PRi κ mX11_piece mX12_piece [.int i, .int w] M := by
  intro d hd
  have hI9 := hI
  obtain ⟨⟨np, nr, ng, no, nu, hm, ho, hu⟩, hj, hs, hi9, ht9⟩ := hI
  have hn := hm.2.1.1
  have hn2 := hm.1.1
  have hr := hm.2.2.1.1
  have hr2 := hm.1.2.1
  have hsh : ∀ i, i < np → 0 ≤ (cSh M 1 (6 + i)).toInt ∧ (cSh M 1 (6 + i)).toInt < 5 := fun i hi => r_sh hm hi
  have hz : ∀ j, j < 8 → ∃ z, z ≤ 120 ∧ gI M (142 + 3 * j) 3 = nI z := fun j hj => (hs j hj).2.2.1.elim (fun z q => ⟨z, q.1, q.2.1⟩)
  refine xE2.imp (e_x_piece hn hn2 (by omega)) (fun v M1 h1 => ?_)
  obtain ⟨h1, hk⟩ := h1
  have k1 : kIV M M1 := hk ▸ kIV_0
  have hI1 := IV_k hI9 k1
  have e67 : ∀ k, gI M1 167 k = gI M 167 k := fun k => k1.1 _ _ (by omega)
  have ej : gJ M1 166 18 = gJ M 166 18 := k1.2.2
  have hjk1 : gJ M1 166 18 = 0 := ej.trans hj
  have hm1 : mR M1 1 M1 167 np nr ng := mR_g hm (fun x k a b => k1.1 _ _ (by omega)) e67
  have ho1 : oR M1 71 M1 167 nr no := oR_g ho (fun x k a b => k1.1 _ _ (by omega)) e67
  have hu1 : ruR M1 55 M1 167 nu := ruR_g hu (fun x k a b => k1.1 _ _ (by omega)) e67
  have hs1 : ∀ j, j < 8 → shI M1 j := hI1.2.2.1
  have hz1 : ∀ j, j < 8 → ∃ z, z ≤ 120 ∧ gI M1 172 j = nI z := fun j hj => (hs1 j hj).2.2.1.elim (fun z q => ⟨z, q.1, q.2.2⟩)
  have hn' := hm1.2.1.2
  have hr' := hm1.2.2.1.2
  have hw1 := rPw hm1
  have hh1 := rQh hm1
  rcases h1 with ⟨j, hj1, hj2, c1, c2, rfl⟩ | ⟨hno, rfl⟩
  · refine ⟨_, rfl, fun d2 hd2 => xE2.imp (e_m_piece hn' hn2 (by omega)) (fun v2 M2 h2 => ?_)⟩
    obtain ⟨h2, hk2⟩ := h2
    refine ⟨?_, IV_k hI1 (hk2 ▸ kIV_0)⟩
    rcases h2 with ⟨j2, hj3, hj4, c12, c22, rfl⟩ | ⟨hno2, rfl⟩
    · obtain rfl : j2 = j := nI_injb (by omega) (by omega) (hj2.symm.trans hj4)
      subst M1
      rw [q_Ab hm hj1 c1 c2]
    · exact absurd ⟨j, hj1, hj2, c1, c2⟩ hno2
  · refine ⟨_, rfl, fun d2 hd2 => xE2.imp (e_m_piece hn' hn2 (by omega)) (fun v2 M2 h2 => ?_)⟩
    obtain ⟨h2, hk2⟩ := h2
    refine ⟨?_, IV_k hI1 (hk2 ▸ kIV_0)⟩
    rcases h2 with ⟨j2, hj3, hj4, c12, c22, rfl⟩ | ⟨hno2, rfl⟩
    · exact absurd ⟨j2, hj3, hj4, c12, c22⟩ hno
    · rfl
theorem pr_rope {κ : xKK} {M : xM} (hI : IV M) {i w : Int32} : PRi κ mX11_rope mX12_rope [.int i, .int w] M := by
  intro d hd
  have hI9 := hI
  obtain ⟨⟨np, nr, ng, no, nu, hm, ho, hu⟩, hj, hs, hi9, ht9⟩ := hI
  have hn := hm.2.1.1
  have hn2 := hm.1.1
  have hr := hm.2.2.1.1
  have hr2 := hm.1.2.1
  have hsh : ∀ i, i < np → 0 ≤ (cSh M 1 (6 + i)).toInt ∧ (cSh M 1 (6 + i)).toInt < 5 := fun i hi => r_sh hm hi
  have hz : ∀ j, j < 8 → ∃ z, z ≤ 120 ∧ gI M (142 + 3 * j) 3 = nI z := fun j hj => (hs j hj).2.2.1.elim (fun z q => ⟨z, q.1, q.2.1⟩)
  refine xE2.imp (e_x_rope hr hr2 (by omega)) (fun v M1 h1 => ?_)
  obtain ⟨h1, hk⟩ := h1
  have k1 : kIV M M1 := hk ▸ kIV_0
  have hI1 := IV_k hI9 k1
  have e67 : ∀ k, gI M1 167 k = gI M 167 k := fun k => k1.1 _ _ (by omega)
  have ej : gJ M1 166 18 = gJ M 166 18 := k1.2.2
  have hjk1 : gJ M1 166 18 = 0 := ej.trans hj
  have hm1 : mR M1 1 M1 167 np nr ng := mR_g hm (fun x k a b => k1.1 _ _ (by omega)) e67
  have ho1 : oR M1 71 M1 167 nr no := oR_g ho (fun x k a b => k1.1 _ _ (by omega)) e67
  have hu1 : ruR M1 55 M1 167 nu := ruR_g hu (fun x k a b => k1.1 _ _ (by omega)) e67
  have hs1 : ∀ j, j < 8 → shI M1 j := hI1.2.2.1
  have hz1 : ∀ j, j < 8 → ∃ z, z ≤ 120 ∧ gI M1 172 j = nI z := fun j hj => (hs1 j hj).2.2.1.elim (fun z q => ⟨z, q.1, q.2.2⟩)
  have hn' := hm1.2.1.2
  have hr' := hm1.2.2.1.2
  have hw1 := rPw hm1
  have hh1 := rQh hm1
  rcases h1 with ⟨j, hj1, hj2, c1, c2, rfl⟩ | ⟨hno, rfl⟩
  · refine ⟨_, rfl, fun d2 hd2 => xE2.imp (e_m_rope hr' hr2 hh1 (by omega)) (fun v2 M2 h2 => ?_)⟩
    obtain ⟨h2, hk2⟩ := h2
    refine ⟨?_, IV_k hI1 (hk2 ▸ kIV_0)⟩
    rcases h2 with ⟨j2, hj3, hj4, c12, c22, rfl⟩ | ⟨hno2, rfl⟩
    · obtain rfl : j2 = j := nI_injb (by omega) (by omega) (hj2.symm.trans hj4)
      subst M1
      rw [q_Rb hm hj1 c1 c2]
    · exact absurd ⟨j, hj1, hj2, c1, c2⟩ hno2
  · refine ⟨_, rfl, fun d2 hd2 => xE2.imp (e_m_rope hr' hr2 hh1 (by omega)) (fun v2 M2 h2 => ?_)⟩
    obtain ⟨h2, hk2⟩ := h2
    refine ⟨?_, IV_k hI1 (hk2 ▸ kIV_0)⟩
    rcases h2 with ⟨j2, hj3, hj4, c12, c22, rfl⟩ | ⟨hno2, rfl⟩
    · exact absurd ⟨j2, hj3, hj4, c12, c22⟩ hno
    · rfl
theorem pr_count {κ : xKK} {M : xM} (hI : IV M) {x : Int32} : PRi κ mX11_count mX12_count [.int x] M := by
  intro d hd
  have hI9 := hI
  obtain ⟨⟨np, nr, ng, no, nu, hm, ho, hu⟩, hj, hs, hi9, ht9⟩ := hI
  have hn := hm.2.1.1
  have hn2 := hm.1.1
  have hr := hm.2.2.1.1
  have hr2 := hm.1.2.1
  have hsh : ∀ i, i < np → 0 ≤ (cSh M 1 (6 + i)).toInt ∧ (cSh M 1 (6 + i)).toInt < 5 := fun i hi => r_sh hm hi
  have hz : ∀ j, j < 8 → ∃ z, z ≤ 120 ∧ gI M (142 + 3 * j) 3 = nI z := fun j hj => (hs j hj).2.2.1.elim (fun z q => ⟨z, q.1, q.2.1⟩)
  refine xE2.imp (e_x_count hn hn2 (by omega)) (fun v M1 h1 => ?_)
  obtain ⟨rfl, hk⟩ := h1
  have k1 : kIV M M1 := hk ▸ kIV_0
  have hI1 := IV_k hI9 k1
  have e67 : ∀ k, gI M1 167 k = gI M 167 k := fun k => k1.1 _ _ (by omega)
  have ej : gJ M1 166 18 = gJ M 166 18 := k1.2.2
  have hjk1 : gJ M1 166 18 = 0 := ej.trans hj
  have hm1 : mR M1 1 M1 167 np nr ng := mR_g hm (fun x k a b => k1.1 _ _ (by omega)) e67
  have ho1 : oR M1 71 M1 167 nr no := oR_g ho (fun x k a b => k1.1 _ _ (by omega)) e67
  have hu1 : ruR M1 55 M1 167 nu := ruR_g hu (fun x k a b => k1.1 _ _ (by omega)) e67
  have hs1 : ∀ j, j < 8 → shI M1 j := hI1.2.2.1
  have hz1 : ∀ j, j < 8 → ∃ z, z ≤ 120 ∧ gI M1 172 j = nI z := fun j hj => (hs1 j hj).2.2.1.elim (fun z q => ⟨z, q.1, q.2.2⟩)
  have hn' := hm1.2.1.2
  have hr' := hm1.2.2.1.2
  have hw1 := rPw hm1
  have hh1 := rQh hm1
  refine ⟨_, rfl, fun d2 hd2 => xE2.imp (e_m_count hn' hn2 (by omega)) (fun v2 M2 h2 => ?_)⟩
  obtain ⟨rfl, hk2⟩ := h2
  refine ⟨?_, IV_k hI1 (hk2 ▸ kIV_0)⟩
  subst M1
  by_cases c : 0 ≤ x ∧ x ≤ 9999
  · rw [if_pos c, if_pos c, q_Cn hm ⟨by have := c.1; rw [Int32.le_iff_toInt_le] at this; exact this, lI (k := 9999) c.2 (by omega)⟩ np (Nat.le_refl np)]
  · rw [if_neg c, if_neg c]
theorem pr_tone {κ : xKK} {M : xM} (hI : IV M) {n : Int32} : PRi κ mX11_tone mX12_tone [.int n] M := by
  intro d hd
  have hI9 := hI
  obtain ⟨⟨np, nr, ng, no, nu, hm, ho, hu⟩, hj, hs, hi9, ht9⟩ := hI
  have hn := hm.2.1.1
  have hn2 := hm.1.1
  have hr := hm.2.2.1.1
  have hr2 := hm.1.2.1
  have hsh : ∀ i, i < np → 0 ≤ (cSh M 1 (6 + i)).toInt ∧ (cSh M 1 (6 + i)).toInt < 5 := fun i hi => r_sh hm hi
  have hz : ∀ j, j < 8 → ∃ z, z ≤ 120 ∧ gI M (142 + 3 * j) 3 = nI z := fun j hj => (hs j hj).2.2.1.elim (fun z q => ⟨z, q.1, q.2.1⟩)
  refine xE2.imp (e_x_tone hn hn2 (by omega)) (fun v M1 h1 => ?_)
  obtain ⟨rfl, hk⟩ := h1
  have k1 : kIV M M1 := hk ▸ kIV_0
  have hI1 := IV_k hI9 k1
  have e67 : ∀ k, gI M1 167 k = gI M 167 k := fun k => k1.1 _ _ (by omega)
  have ej : gJ M1 166 18 = gJ M 166 18 := k1.2.2
  have hjk1 : gJ M1 166 18 = 0 := ej.trans hj
  have hm1 : mR M1 1 M1 167 np nr ng := mR_g hm (fun x k a b => k1.1 _ _ (by omega)) e67
  have ho1 : oR M1 71 M1 167 nr no := oR_g ho (fun x k a b => k1.1 _ _ (by omega)) e67
  have hu1 : ruR M1 55 M1 167 nu := ruR_g hu (fun x k a b => k1.1 _ _ (by omega)) e67
  have hs1 : ∀ j, j < 8 → shI M1 j := hI1.2.2.1
  have hz1 : ∀ j, j < 8 → ∃ z, z ≤ 120 ∧ gI M1 172 j = nI z := fun j hj => (hs1 j hj).2.2.1.elim (fun z q => ⟨z, q.1, q.2.2⟩)
  have hn' := hm1.2.1.2
  have hr' := hm1.2.2.1.2
  have hw1 := rPw hm1
  have hh1 := rQh hm1
  refine ⟨_, rfl, fun d2 hd2 => xE2.imp (e_m_tone hn' hn2 (by omega)) (fun v2 M2 h2 => ?_)⟩
  obtain ⟨rfl, hk2⟩ := h2
  refine ⟨?_, IV_k hI1 (hk2 ▸ kIV_0)⟩
  subst M1
  rw [q_tn hm]
theorem pr_shedding {κ : xKK} {M : xM} (hI : IV M) {i w : Int32} : PRi κ mX11_shedding mX12_shedding [.int i, .int w] M := by
  intro d hd
  have hI9 := hI
  obtain ⟨⟨np, nr, ng, no, nu, hm, ho, hu⟩, hj, hs, hi9, ht9⟩ := hI
  have hn := hm.2.1.1
  have hn2 := hm.1.1
  have hr := hm.2.2.1.1
  have hr2 := hm.1.2.1
  have hsh : ∀ i, i < np → 0 ≤ (cSh M 1 (6 + i)).toInt ∧ (cSh M 1 (6 + i)).toInt < 5 := fun i hi => r_sh hm hi
  have hz : ∀ j, j < 8 → ∃ z, z ≤ 120 ∧ gI M (142 + 3 * j) 3 = nI z := fun j hj => (hs j hj).2.2.1.elim (fun z q => ⟨z, q.1, q.2.1⟩)
  refine xE2.imp (e_x_shedding hn hn2 (by omega)) (fun v M1 h1 => ?_)
  obtain ⟨h1, hk⟩ := h1
  have k1 : kIV M M1 := hk ▸ kIV_0
  have hI1 := IV_k hI9 k1
  have e67 : ∀ k, gI M1 167 k = gI M 167 k := fun k => k1.1 _ _ (by omega)
  have ej : gJ M1 166 18 = gJ M 166 18 := k1.2.2
  have hjk1 : gJ M1 166 18 = 0 := ej.trans hj
  have hm1 : mR M1 1 M1 167 np nr ng := mR_g hm (fun x k a b => k1.1 _ _ (by omega)) e67
  have ho1 : oR M1 71 M1 167 nr no := oR_g ho (fun x k a b => k1.1 _ _ (by omega)) e67
  have hu1 : ruR M1 55 M1 167 nu := ruR_g hu (fun x k a b => k1.1 _ _ (by omega)) e67
  have hs1 : ∀ j, j < 8 → shI M1 j := hI1.2.2.1
  have hz1 : ∀ j, j < 8 → ∃ z, z ≤ 120 ∧ gI M1 172 j = nI z := fun j hj => (hs1 j hj).2.2.1.elim (fun z q => ⟨z, q.1, q.2.2⟩)
  have hn' := hm1.2.1.2
  have hr' := hm1.2.2.1.2
  have hw1 := rPw hm1
  have hh1 := rQh hm1
  rcases h1 with ⟨j, hj1, hj2, c1, c2, rfl⟩ | ⟨hno, rfl⟩
  · refine ⟨_, rfl, fun d2 hd2 => xE2.imp (e_m_shedding hn' hn2 (by omega)) (fun v2 M2 h2 => ?_)⟩
    obtain ⟨h2, hk2⟩ := h2
    refine ⟨?_, IV_k hI1 (hk2 ▸ kIV_0)⟩
    rcases h2 with ⟨j2, hj3, hj4, c12, c22, rfl⟩ | ⟨hno2, rfl⟩
    · obtain rfl : j2 = j := nI_injb (by omega) (by omega) (hj2.symm.trans hj4)
      subst M1
      rw [q_S hm hj1]
    · exact absurd ⟨j, hj1, hj2, c1, c2⟩ hno2
  · refine ⟨_, rfl, fun d2 hd2 => xE2.imp (e_m_shedding hn' hn2 (by omega)) (fun v2 M2 h2 => ?_)⟩
    obtain ⟨h2, hk2⟩ := h2
    refine ⟨?_, IV_k hI1 (hk2 ▸ kIV_0)⟩
    rcases h2 with ⟨j2, hj3, hj4, c12, c22, rfl⟩ | ⟨hno2, rfl⟩
    · exact absurd ⟨j2, hj3, hj4, c12, c22⟩ hno
    · rfl
theorem pr_lock {κ : xKK} {M : xM} (hI : IV M) {i n b w : Int32} : PRi κ mX11_lock mX12_lock [.int i, .int n, .int b, .int w] M := by
  intro d hd
  have hI9 := hI
  obtain ⟨⟨np, nr, ng, no, nu, hm, ho, hu⟩, hj, hs, hi9, ht9⟩ := hI
  have hn := hm.2.1.1
  have hn2 := hm.1.1
  have hr := hm.2.2.1.1
  have hr2 := hm.1.2.1
  have hsh : ∀ i, i < np → 0 ≤ (cSh M 1 (6 + i)).toInt ∧ (cSh M 1 (6 + i)).toInt < 5 := fun i hi => r_sh hm hi
  have hz : ∀ j, j < 8 → ∃ z, z ≤ 120 ∧ gI M (142 + 3 * j) 3 = nI z := fun j hj => (hs j hj).2.2.1.elim (fun z q => ⟨z, q.1, q.2.1⟩)
  refine xE2.imp (e_x_lock hn hn2 (by omega)) (fun v M1 h1 => ?_)
  obtain ⟨h1, hk⟩ := h1
  have k1 : kIV M M1 := hk ▸ kIV_0
  have hI1 := IV_k hI9 k1
  have e67 : ∀ k, gI M1 167 k = gI M 167 k := fun k => k1.1 _ _ (by omega)
  have ej : gJ M1 166 18 = gJ M 166 18 := k1.2.2
  have hjk1 : gJ M1 166 18 = 0 := ej.trans hj
  have hm1 : mR M1 1 M1 167 np nr ng := mR_g hm (fun x k a b => k1.1 _ _ (by omega)) e67
  have ho1 : oR M1 71 M1 167 nr no := oR_g ho (fun x k a b => k1.1 _ _ (by omega)) e67
  have hu1 : ruR M1 55 M1 167 nu := ruR_g hu (fun x k a b => k1.1 _ _ (by omega)) e67
  have hs1 : ∀ j, j < 8 → shI M1 j := hI1.2.2.1
  have hz1 : ∀ j, j < 8 → ∃ z, z ≤ 120 ∧ gI M1 172 j = nI z := fun j hj => (hs1 j hj).2.2.1.elim (fun z q => ⟨z, q.1, q.2.2⟩)
  have hn' := hm1.2.1.2
  have hr' := hm1.2.2.1.2
  have hw1 := rPw hm1
  have hh1 := rQh hm1
  rcases h1 with ⟨j, hj1, hj2, c1, c2, c3, c4, c5, rfl⟩ | ⟨hno, rfl⟩
  · refine ⟨_, rfl, fun d2 hd2 => xE2.imp (e_m_lock hn' hn2 (by omega)) (fun v2 M2 h2 => ?_)⟩
    obtain ⟨h2, hk2⟩ := h2
    refine ⟨?_, IV_k hI1 (hk2 ▸ kIV_0)⟩
    rcases h2 with ⟨j2, hj3, hj4, c12, c22, c32, c42, c52, rfl⟩ | ⟨hno2, rfl⟩
    · obtain rfl : j2 = j := nI_injb (by omega) (by omega) (hj2.symm.trans hj4)
      subst M1
      rw [q_tn hm]
      by_cases c : tnA (fun x => rCn M np x np) n = -4
      · rw [if_pos c, if_pos c]
      · rw [if_neg c, if_neg c]
        rcases c5 with rfl | rfl
        · rw [if_pos rfl, lk_0 c3 100 (by omega) (fun t _ => q_S hm hj1 (nI t))]
        · rw [if_neg (by decide), lk_1 c3 100 (by omega) (fun t _ => q_S hm hj1 (nI t))]
    · exact absurd ⟨j, hj1, hj2, c1, c2, c3, c4, c5⟩ hno2
  · refine ⟨_, rfl, fun d2 hd2 => xE2.imp (e_m_lock hn' hn2 (by omega)) (fun v2 M2 h2 => ?_)⟩
    obtain ⟨h2, hk2⟩ := h2
    refine ⟨?_, IV_k hI1 (hk2 ▸ kIV_0)⟩
    rcases h2 with ⟨j2, hj3, hj4, c12, c22, c32, c42, c52, rfl⟩ | ⟨hno2, rfl⟩
    · exact absurd ⟨j2, hj3, hj4, c12, c22, c32, c42, c52⟩ hno
    · rfl
theorem pr_falls {κ : xKK} {M : xM} (hI : IV M) : PRi κ mX11_falls mX12_falls [] M := by
  intro d hd
  have hI9 := hI
  obtain ⟨⟨np, nr, ng, no, nu, hm, ho, hu⟩, hj, hs, hi9, ht9⟩ := hI
  have hn := hm.2.1.1
  have hn2 := hm.1.1
  have hr := hm.2.2.1.1
  have hr2 := hm.1.2.1
  have hsh : ∀ i, i < np → 0 ≤ (cSh M 1 (6 + i)).toInt ∧ (cSh M 1 (6 + i)).toInt < 5 := fun i hi => r_sh hm hi
  have hz : ∀ j, j < 8 → ∃ z, z ≤ 120 ∧ gI M (142 + 3 * j) 3 = nI z := fun j hj => (hs j hj).2.2.1.elim (fun z q => ⟨z, q.1, q.2.1⟩)
  refine xE2.imp (e_x_falls hn hn2 (by omega)) (fun v M1 h1 => ?_)
  obtain ⟨rfl, hk⟩ := h1
  have k1 : kIV M M1 := hk ▸ kIV_0
  have hI1 := IV_k hI9 k1
  have e67 : ∀ k, gI M1 167 k = gI M 167 k := fun k => k1.1 _ _ (by omega)
  have ej : gJ M1 166 18 = gJ M 166 18 := k1.2.2
  have hjk1 : gJ M1 166 18 = 0 := ej.trans hj
  have hm1 : mR M1 1 M1 167 np nr ng := mR_g hm (fun x k a b => k1.1 _ _ (by omega)) e67
  have ho1 : oR M1 71 M1 167 nr no := oR_g ho (fun x k a b => k1.1 _ _ (by omega)) e67
  have hu1 : ruR M1 55 M1 167 nu := ruR_g hu (fun x k a b => k1.1 _ _ (by omega)) e67
  have hs1 : ∀ j, j < 8 → shI M1 j := hI1.2.2.1
  have hz1 : ∀ j, j < 8 → ∃ z, z ≤ 120 ∧ gI M1 172 j = nI z := fun j hj => (hs1 j hj).2.2.1.elim (fun z q => ⟨z, q.1, q.2.2⟩)
  have hn' := hm1.2.1.2
  have hr' := hm1.2.2.1.2
  have hw1 := rPw hm1
  have hh1 := rQh hm1
  refine ⟨_, rfl, fun d2 hd2 => xE2.imp (e_m_falls hn' hn2 (by omega)) (fun v2 M2 h2 => ?_)⟩
  obtain ⟨rfl, hk2⟩ := h2
  refine ⟨?_, IV_k hI1 (hk2 ▸ kIV_0)⟩
  subst M1
  rw [q_Od hm np (Nat.le_refl np)]
theorem pr_told {κ : xKK} {M : xM} (hI : IV M) {w : Int32} : PRi κ mX11_told mX12_told [.int w] M := by
  intro d hd
  have hI9 := hI
  obtain ⟨⟨np, nr, ng, no, nu, hm, ho, hu⟩, hj, hs, hi9, ht9⟩ := hI
  have hn := hm.2.1.1
  have hn2 := hm.1.1
  have hr := hm.2.2.1.1
  have hr2 := hm.1.2.1
  have hsh : ∀ i, i < np → 0 ≤ (cSh M 1 (6 + i)).toInt ∧ (cSh M 1 (6 + i)).toInt < 5 := fun i hi => r_sh hm hi
  have hz : ∀ j, j < 8 → ∃ z, z ≤ 120 ∧ gI M (142 + 3 * j) 3 = nI z := fun j hj => (hs j hj).2.2.1.elim (fun z q => ⟨z, q.1, q.2.1⟩)
  refine xE2.imp (e_x_told hn hn2 hr hr2 hu.2.1.1 hu.1 (by omega)) (fun v M1 h1 => ?_)
  obtain ⟨rfl, hk⟩ := h1
  have k1 : kIV M M1 := hk ▸ kIV_0
  have hI1 := IV_k hI9 k1
  have e67 : ∀ k, gI M1 167 k = gI M 167 k := fun k => k1.1 _ _ (by omega)
  have ej : gJ M1 166 18 = gJ M 166 18 := k1.2.2
  have hjk1 : gJ M1 166 18 = 0 := ej.trans hj
  have hm1 : mR M1 1 M1 167 np nr ng := mR_g hm (fun x k a b => k1.1 _ _ (by omega)) e67
  have ho1 : oR M1 71 M1 167 nr no := oR_g ho (fun x k a b => k1.1 _ _ (by omega)) e67
  have hu1 : ruR M1 55 M1 167 nu := ruR_g hu (fun x k a b => k1.1 _ _ (by omega)) e67
  have hs1 : ∀ j, j < 8 → shI M1 j := hI1.2.2.1
  have hz1 : ∀ j, j < 8 → ∃ z, z ≤ 120 ∧ gI M1 172 j = nI z := fun j hj => (hs1 j hj).2.2.1.elim (fun z q => ⟨z, q.1, q.2.2⟩)
  have hn' := hm1.2.1.2
  have hr' := hm1.2.2.1.2
  have hw1 := rPw hm1
  have hh1 := rQh hm1
  refine ⟨_, rfl, fun d2 hd2 => xE2.imp (e_m_told hn' hn2 hr' hr2 hu1.2.1.2 hu.1 (by omega)) (fun v2 M2 h2 => ?_)⟩
  obtain ⟨rfl, hk2⟩ := h2
  refine ⟨?_, IV_k hI1 (hk2 ▸ kIV_0)⟩
  subst M1
  rw [q_Tl hm ho hu]
theorem pr_uneven {κ : xKK} {M : xM} (hI : IV M) : PRi κ mX11_uneven mX12_uneven [] M := by
  intro d hd
  have hI9 := hI
  obtain ⟨⟨np, nr, ng, no, nu, hm, ho, hu⟩, hj, hs, hi9, ht9⟩ := hI
  have hn := hm.2.1.1
  have hn2 := hm.1.1
  have hr := hm.2.2.1.1
  have hr2 := hm.1.2.1
  have hsh : ∀ i, i < np → 0 ≤ (cSh M 1 (6 + i)).toInt ∧ (cSh M 1 (6 + i)).toInt < 5 := fun i hi => r_sh hm hi
  have hz : ∀ j, j < 8 → ∃ z, z ≤ 120 ∧ gI M (142 + 3 * j) 3 = nI z := fun j hj => (hs j hj).2.2.1.elim (fun z q => ⟨z, q.1, q.2.1⟩)
  refine xE2.imp (e_x_uneven hm hj (by omega)) (fun v M1 h1 => ?_)
  obtain ⟨rfl, hk⟩ := h1
  have k1 : kIV M M1 := kIV_k hk
  have hI1 := IV_k hI9 k1
  have e67 : ∀ k, gI M1 167 k = gI M 167 k := fun k => k1.1 _ _ (by omega)
  have ej : gJ M1 166 18 = gJ M 166 18 := k1.2.2
  have hjk1 : gJ M1 166 18 = 0 := ej.trans hj
  have hm1 : mR M1 1 M1 167 np nr ng := mR_g hm (fun x k a b => k1.1 _ _ (by omega)) e67
  have ho1 : oR M1 71 M1 167 nr no := oR_g ho (fun x k a b => k1.1 _ _ (by omega)) e67
  have hu1 : ruR M1 55 M1 167 nu := ruR_g hu (fun x k a b => k1.1 _ _ (by omega)) e67
  have hs1 : ∀ j, j < 8 → shI M1 j := hI1.2.2.1
  have hz1 : ∀ j, j < 8 → ∃ z, z ≤ 120 ∧ gI M1 172 j = nI z := fun j hj => (hs1 j hj).2.2.1.elim (fun z q => ⟨z, q.1, q.2.2⟩)
  have hn' := hm1.2.1.2
  have hr' := hm1.2.2.1.2
  have hw1 := rPw hm1
  have hh1 := rQh hm1
  refine ⟨_, rfl, fun d2 hd2 => xE2.imp (e_m_uneven hm1 (by omega)) (fun v2 M2 h2 => ?_)⟩
  obtain ⟨rfl, hk2⟩ := h2
  refine ⟨?_, IV_k hI1 (kIV_r hk2)⟩
  rw [unV_c e67 ej]
theorem pr_after {κ : xKK} {M : xM} (hI : IV M) {i : Int32} : PRi κ mX11_after mX12_after [.int i] M := by
  intro d hd
  have hI9 := hI
  obtain ⟨⟨np, nr, ng, no, nu, hm, ho, hu⟩, hj, hs, hi9, ht9⟩ := hI
  have hn := hm.2.1.1
  have hn2 := hm.1.1
  have hr := hm.2.2.1.1
  have hr2 := hm.1.2.1
  have hsh : ∀ i, i < np → 0 ≤ (cSh M 1 (6 + i)).toInt ∧ (cSh M 1 (6 + i)).toInt < 5 := fun i hi => r_sh hm hi
  have hz : ∀ j, j < 8 → ∃ z, z ≤ 120 ∧ gI M (142 + 3 * j) 3 = nI z := fun j hj => (hs j hj).2.2.1.elim (fun z q => ⟨z, q.1, q.2.1⟩)
  refine xE2.imp (e_x_after hm hj (by omega)) (fun v M1 h1 => ?_)
  obtain ⟨h1, hk⟩ := h1
  have k1 : kIV M M1 := kIV_k hk
  have hI1 := IV_k hI9 k1
  have e67 : ∀ k, gI M1 167 k = gI M 167 k := fun k => k1.1 _ _ (by omega)
  have ej : gJ M1 166 18 = gJ M 166 18 := k1.2.2
  have hjk1 : gJ M1 166 18 = 0 := ej.trans hj
  have hm1 : mR M1 1 M1 167 np nr ng := mR_g hm (fun x k a b => k1.1 _ _ (by omega)) e67
  have ho1 : oR M1 71 M1 167 nr no := oR_g ho (fun x k a b => k1.1 _ _ (by omega)) e67
  have hu1 : ruR M1 55 M1 167 nu := ruR_g hu (fun x k a b => k1.1 _ _ (by omega)) e67
  have hs1 : ∀ j, j < 8 → shI M1 j := hI1.2.2.1
  have hz1 : ∀ j, j < 8 → ∃ z, z ≤ 120 ∧ gI M1 172 j = nI z := fun j hj => (hs1 j hj).2.2.1.elim (fun z q => ⟨z, q.1, q.2.2⟩)
  have hn' := hm1.2.1.2
  have hr' := hm1.2.2.1.2
  have hw1 := rPw hm1
  have hh1 := rQh hm1
  rcases h1 with ⟨j, hj1, hj2, rfl⟩ | ⟨hno, rfl⟩
  · refine ⟨_, rfl, fun d2 hd2 => xE2.imp (e_m_after hm1 hjk1 (by omega)) (fun v2 M2 h2 => ?_)⟩
    obtain ⟨h2, hk2⟩ := h2
    refine ⟨?_, IV_k hI1 (kIV_r hk2)⟩
    rcases h2 with ⟨j2, hj3, hj4, rfl⟩ | ⟨hno2, rfl⟩
    · obtain rfl : j2 = j := nI_injb (by omega) (by omega) (hj2.symm.trans hj4)
      rw [afV_c e67 ej]
    · exact absurd ⟨j, hj1, hj2⟩ hno2
  · refine ⟨_, rfl, fun d2 hd2 => xE2.imp (e_m_after hm1 hjk1 (by omega)) (fun v2 M2 h2 => ?_)⟩
    obtain ⟨h2, hk2⟩ := h2
    refine ⟨?_, IV_k hI1 (kIV_r hk2)⟩
    rcases h2 with ⟨j2, hj3, hj4, rfl⟩ | ⟨hno2, rfl⟩
    · exact absurd ⟨j2, hj3, hj4⟩ hno
    · rfl
theorem pr_readBack {κ : xKK} {M : xM} (hI : IV M) {i u b w : Int32} : PRi κ mX11_readBack mX12_readBack [.int i, .int u, .int b, .int w] M := by
  intro d hd
  have hI9 := hI
  obtain ⟨⟨np, nr, ng, no, nu, hm, ho, hu⟩, hj, hs, hi9, ht9⟩ := hI
  have hn := hm.2.1.1
  have hn2 := hm.1.1
  have hr := hm.2.2.1.1
  have hr2 := hm.1.2.1
  have hsh : ∀ i, i < np → 0 ≤ (cSh M 1 (6 + i)).toInt ∧ (cSh M 1 (6 + i)).toInt < 5 := fun i hi => r_sh hm hi
  have hz : ∀ j, j < 8 → ∃ z, z ≤ 120 ∧ gI M (142 + 3 * j) 3 = nI z := fun j hj => (hs j hj).2.2.1.elim (fun z q => ⟨z, q.1, q.2.1⟩)
  refine xE2.imp (e_x_readBack hm hj (by omega)) (fun v M1 h1 => ?_)
  obtain ⟨h1, hk⟩ := h1
  have k1 : kIV M M1 := kIV_k hk
  have hI1 := IV_k hI9 k1
  have e67 : ∀ k, gI M1 167 k = gI M 167 k := fun k => k1.1 _ _ (by omega)
  have ej : gJ M1 166 18 = gJ M 166 18 := k1.2.2
  have hjk1 : gJ M1 166 18 = 0 := ej.trans hj
  have hm1 : mR M1 1 M1 167 np nr ng := mR_g hm (fun x k a b => k1.1 _ _ (by omega)) e67
  have ho1 : oR M1 71 M1 167 nr no := oR_g ho (fun x k a b => k1.1 _ _ (by omega)) e67
  have hu1 : ruR M1 55 M1 167 nu := ruR_g hu (fun x k a b => k1.1 _ _ (by omega)) e67
  have hs1 : ∀ j, j < 8 → shI M1 j := hI1.2.2.1
  have hz1 : ∀ j, j < 8 → ∃ z, z ≤ 120 ∧ gI M1 172 j = nI z := fun j hj => (hs1 j hj).2.2.1.elim (fun z q => ⟨z, q.1, q.2.2⟩)
  have hn' := hm1.2.1.2
  have hr' := hm1.2.2.1.2
  have hw1 := rPw hm1
  have hh1 := rQh hm1
  rcases h1 with ⟨j, hj1, hj2, c1, rfl⟩ | ⟨hno, rfl⟩
  · refine ⟨_, rfl, fun d2 hd2 => xE2.imp (e_m_readBack hm1 (by omega)) (fun v2 M2 h2 => ?_)⟩
    obtain ⟨h2, hk2⟩ := h2
    refine ⟨?_, IV_k hI1 (kIV_r hk2)⟩
    rcases h2 with ⟨j2, hj3, hj4, c12, rfl⟩ | ⟨hno2, rfl⟩
    · obtain rfl : j2 = j := nI_injb (by omega) (by omega) (hj2.symm.trans hj4)
      rw [rbV_c e67 ej, rr_c e67]
    · exact absurd ⟨⟨j, hj1, hj2⟩, c1⟩ hno2
  · refine ⟨_, rfl, fun d2 hd2 => xE2.imp (e_m_readBack hm1 (by omega)) (fun v2 M2 h2 => ?_)⟩
    obtain ⟨h2, hk2⟩ := h2
    refine ⟨?_, IV_k hI1 (kIV_r hk2)⟩
    rcases h2 with ⟨j2, hj3, hj4, c12, rfl⟩ | ⟨hno2, rfl⟩
    · exact absurd ⟨⟨j2, hj3, hj4⟩, c12⟩ hno
    · rfl
theorem pr_breach {κ : xKK} {M : xM} (hI : IV M) {i h : Int32} : PRi κ mX11_breach mX12_breach [.int i, .int h] M := by
  intro d hd
  have hI9 := hI
  obtain ⟨⟨np, nr, ng, no, nu, hm, ho, hu⟩, hj, hs, hi9, ht9⟩ := hI
  have hn := hm.2.1.1
  have hn2 := hm.1.1
  have hr := hm.2.2.1.1
  have hr2 := hm.1.2.1
  have hsh : ∀ i, i < np → 0 ≤ (cSh M 1 (6 + i)).toInt ∧ (cSh M 1 (6 + i)).toInt < 5 := fun i hi => r_sh hm hi
  have hz : ∀ j, j < 8 → ∃ z, z ≤ 120 ∧ gI M (142 + 3 * j) 3 = nI z := fun j hj => (hs j hj).2.2.1.elim (fun z q => ⟨z, q.1, q.2.1⟩)
  refine xE2.imp (e_x_breach hm hj hu (by omega)) (fun v M1 h1 => ?_)
  obtain ⟨h1, hk⟩ := h1
  have k1 : kIV M M1 := kIV_k hk
  have hI1 := IV_k hI9 k1
  have e67 : ∀ k, gI M1 167 k = gI M 167 k := fun k => k1.1 _ _ (by omega)
  have ej : gJ M1 166 18 = gJ M 166 18 := k1.2.2
  have hjk1 : gJ M1 166 18 = 0 := ej.trans hj
  have hm1 : mR M1 1 M1 167 np nr ng := mR_g hm (fun x k a b => k1.1 _ _ (by omega)) e67
  have ho1 : oR M1 71 M1 167 nr no := oR_g ho (fun x k a b => k1.1 _ _ (by omega)) e67
  have hu1 : ruR M1 55 M1 167 nu := ruR_g hu (fun x k a b => k1.1 _ _ (by omega)) e67
  have hs1 : ∀ j, j < 8 → shI M1 j := hI1.2.2.1
  have hz1 : ∀ j, j < 8 → ∃ z, z ≤ 120 ∧ gI M1 172 j = nI z := fun j hj => (hs1 j hj).2.2.1.elim (fun z q => ⟨z, q.1, q.2.2⟩)
  have hn' := hm1.2.1.2
  have hr' := hm1.2.2.1.2
  have hw1 := rPw hm1
  have hh1 := rQh hm1
  rcases h1 with ⟨j, hj1, hj2, c1, rfl⟩ | ⟨hno, rfl⟩
  · refine ⟨_, rfl, fun d2 hd2 => xE2.imp (e_m_breach hm1 hjk1 hu1 (by omega)) (fun v2 M2 h2 => ?_)⟩
    obtain ⟨h2, hk2⟩ := h2
    refine ⟨?_, IV_k hI1 (kIV_r hk2)⟩
    rcases h2 with ⟨j2, hj3, hj4, c12, rfl⟩ | ⟨hno2, rfl⟩
    · obtain rfl : j2 = j := nI_injb (by omega) (by omega) (hj2.symm.trans hj4)
      rw [hlV_c e67, show fct M1 np nr j2 h = fct M np nr j2 h from funext (fct_c e67 ej)]
    · exact absurd ⟨⟨j, hj1, hj2⟩, c1⟩ hno2
  · refine ⟨_, rfl, fun d2 hd2 => xE2.imp (e_m_breach hm1 hjk1 hu1 (by omega)) (fun v2 M2 h2 => ?_)⟩
    obtain ⟨h2, hk2⟩ := h2
    refine ⟨?_, IV_k hI1 (kIV_r hk2)⟩
    rcases h2 with ⟨j2, hj3, hj4, c12, rfl⟩ | ⟨hno2, rfl⟩
    · exact absurd ⟨⟨j2, hj3, hj4⟩, c12⟩ hno
    · rfl
