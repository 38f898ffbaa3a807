/-! ===== the reference reads statements ===== -/
def itK (sd : Bool) : Nat → List Nat
  | 0 => []
  | 1 => [0]
  | k + 2 => itK sd (k + 1) ++ [32, if sd = true ∧ k = 0 then 1 else 0]
def tdF (sd : Bool) (s : tsT) (i : Nat) : Int32 := if sd = true then tlA (fun i => s.2.2.1.getD i 0) s.2.2.2 i else s.2.2.1.getD i 0
def lnK (sd : Bool) (k : Nat) : Nat := if sd = true ∧ 2 ≤ k then k - 1 else k
section RS
variable {T : Nat → Int32} {n : Nat} {sd : Bool}
theorem itK_pre {k : Nat} : ∀ {m : Nat}, k ≤ m → ∃ r, itK sd m = itK sd k ++ r
  | 0, h => by
    have : k = 0 := by omega
    subst this
    exact ⟨[], rfl⟩
  | 1, h => by
    by_cases c : k = 1
    · subst c; exact ⟨[], (List.append_nil _).symm⟩
    · have : k = 0 := by omega
      subst this
      exact ⟨[0], rfl⟩
  | m + 2, h => by
    by_cases c : k = m + 2
    · subst c; exact ⟨[], (List.append_nil _).symm⟩
    · obtain ⟨r, hr⟩ := itK_pre (k := k) (m := m + 1) (by omega)
      exact ⟨r ++ [32, if sd = true ∧ m = 0 then 1 else 0], by rw [itK, hr, List.append_assoc]⟩
theorem itK_le : ∀ k, ∀ i ∈ itK sd k, i < 128
  | 0 => fun _ h => absurd h List.not_mem_nil
  | 1 => fun i h => by
    have e : i = 0 := by simpa [itK] using h
    omega
  | k + 2 => fun i h => by
    rw [itK] at h
    rcases List.mem_append.mp h with h | h
    · exact itK_le (k + 1) i h
    · have e : i = 32 ∨ i = if sd = true ∧ k = 0 then 1 else 0 := by simpa using h
      by_cases c : sd = true ∧ k = 0
      · rw [if_pos c] at e; omega
      · rw [if_neg c] at e; omega
theorem itK_s {k : Nat} (hk : 1 ≤ k) : itK sd (k + 1) = itK sd k ++ [32, if sd = true ∧ k = 1 then 1 else 0] := by
  obtain ⟨m, rfl⟩ : ∃ m, k = m + 1 := ⟨k - 1, by omega⟩
  rw [itK]
  by_cases c : sd = true ∧ m = 0
  · rw [if_pos c, if_pos ⟨c.1, by omega⟩]
  · rw [if_neg c, if_neg (fun z => c ⟨z.1, by omega⟩)]
/-- a failure goes through to the end -/
theorem itK_f {k m : Nat} {pre : List Nat} {s s' : tsT} (h : ∃ r, itK sd m = (itK sd k ++ pre) ++ r) (h1 : rdS T n pre (rdS T n (itK sd k) s) = s') (h2 : s'.1 = false) : rdS T n (itK sd m) s = s' := by
  obtain ⟨r, hr⟩ := h
  rw [hr, rdS_app, rdS_app, h1, rdS_f h2]
theorem gD_l {l : List Int32} {V : Int32} {i : Nat} (h : i < l.length) : (l ++ [V]).getD i 0 = l.getD i 0 := by simp [List.getD_eq_getElem?_getD, List.getElem?_append_left h]
theorem gD_r {l : List Int32} {V : Int32} {i : Nat} (h : i = l.length) : (l ++ [V]).getD i 0 = V := by subst h; simp [List.getD_eq_getElem?_getD]
theorem td_o {l : List Int32} {V sv : Int32} {k q q2 i : Nat} (hl : l.length = lnK sd k) (hk : ¬ (sd = true ∧ k = 1)) (hi : i < k) : tdF sd (true, q2, l ++ [V], sv) i = tdF sd (true, q, l, sv) i := by
  unfold tdF lnK at *
  cases sd
  · rw [if_neg (by simp), if_neg (by simp)]
    rw [if_neg (by simp)] at hl
    exact gD_l (by omega)
  · rw [if_pos rfl, if_pos rfl]
    have hk : ¬ k = 1 := fun q => hk ⟨rfl, q⟩
    rw [if_pos ⟨rfl, by omega⟩] at hl
    unfold tlA
    dsimp only
    by_cases c0 : i = 0
    · rw [if_pos c0, if_pos c0]; exact gD_l (by omega)
    · rw [if_neg c0, if_neg c0]
      by_cases c1 : i = 1
      · rw [if_pos c1, if_pos c1]
      · rw [if_neg c1, if_neg c1]
        by_cases c2 : i < 5
        · rw [if_pos c2, if_pos c2]; exact gD_l (by omega)
        · rw [if_neg c2, if_neg c2]
theorem td_n {l : List Int32} {V sv : Int32} {k q2 : Nat} (hl : l.length = lnK sd k) (hk : ¬ (sd = true ∧ k = 1)) (h5 : k < 5) : tdF sd (true, q2, l ++ [V], sv) k = V := by
  unfold tdF lnK at *
  cases sd
  · rw [if_neg (by simp)]
    rw [if_neg (by simp)] at hl
    exact gD_r (by omega)
  · rw [if_pos rfl]
    have hk : ¬ k = 1 := fun q => hk ⟨rfl, q⟩
    unfold tlA
    dsimp only
    by_cases c0 : k = 0
    · rw [if_pos c0]
      rw [if_neg (by omega)] at hl
      exact gD_r (by omega)
    · rw [if_neg c0, if_neg hk, if_pos h5]
      rw [if_pos ⟨rfl, by omega⟩] at hl
      exact gD_r (by omega)
theorem lnK_n {l : List Int32} {V : Int32} {k : Nat} (hl : l.length = lnK sd k) (hk : ¬ (sd = true ∧ k = 1)) : (l ++ [V]).length = lnK sd (k + 1) := by
  have e1 : [V].length = 1 := rfl
  rw [List.length_append, hl, e1]
  unfold lnK
  by_cases c : sd = true
  · by_cases c2 : 2 ≤ k
    · rw [if_pos ⟨c, c2⟩, if_pos ⟨c, by omega⟩]; omega
    · have : ¬ k = 1 := fun q => hk ⟨c, q⟩
      rw [if_neg (by omega), if_neg (by omega)]
  · rw [if_neg (fun q => c q.1), if_neg (fun q => c q.1)]
end RS
theorem nI_nle0 {k : Nat} (h : 1 ≤ k ∧ k < 2147483648) : ¬ nI k ≤ 0 := fun q => by
  have := (nI_leI (a := k) (b := 0) (by omega) (by omega)).mp q
  omega
set_option maxRecDepth 4000 in
theorem e_readsNumbersU {κ : xKK} {d : Nat} {M : xM} {a b n p m : Nat} {T : Nat → Int32} {sv : Int32} (hT : rT M a b n T) (hp : gI M 166 12 = nI p) (hp2 : p ≤ n) (hm : m ≤ 5) (hd : 3 ≤ d) : xE2 κ mX12_readsNumbers d [.ref 166, .int (nI m), .int 0] M (fun v M' => v = some (.int (if (rdS T n (itK false m) (true, p, [], sv)).1 = true then 1 else 0)) ∧ gI M' 166 12 = nI (rdS T n (itK false m) (true, p, [], sv)).2.1 ∧ rdF M M' ∧ ((rdS T n (itK false m) (true, p, [], sv)).1 = true → ∀ i, i < m → gI M' 177 i = tdF false (rdS T n (itK false m) (true, p, [], sv)) i)) := by
  refine xE2_of ci_X12_readsNumbers cl_X12_readsNumbers cw_X12_readsNumbers rfl (L := [some (.ref 166), some (.int (nI m)), some (.int 0), none]) rfl ?_
  have hn9 := hT.2.2.2.2.1
  refine xG_run 2 rfl (by repeat' (first | exact trivial | assumption | exact xob_b rfl | exact xal_b rfl | (apply And.intro) | decide)) ?_
  try dsimp only [xsto1, xsto2, xkill, xget, xset, gd_0, gd_s]
  have lp := xG_upP (κ := κ) (m := mX12_readsNumbers) (r := (d, 0, 0)) (YS := xRet mX12_readsNumbers false (fun v M' n' => n' = 182 ∧ (v = some (.int (if (rdS T n (itK false m) (true, p, [], sv)).1 = true then 1 else 0)) ∧ gI M' 166 12 = nI (rdS T n (itK false m) (true, p, [], sv)).2.1 ∧ rdF M M' ∧ ((rdS T n (itK false m) (true, p, [], sv)).1 = true → ∀ i, i < m → gI M' 177 i = tdF false (rdS T n (itK false m) (true, p, [], sv)) i)))) (fun k X => ∃ (M2 : xM) (q : Nat) (l : List Int32) (sx : Int32), X = (2, [some (.ref 166), some (.int (nI m)), some (.int 0), some (.int (nI k))], [], M2, z2) ∧ rdS T n (itK false k) (true, p, [], sv) = (true, q, l, sx) ∧ gI M2 166 12 = nI q ∧ rdF M M2 ∧ q ≤ n ∧ l.length = lnK false k ∧ ∀ i, i < k → gI M2 177 i = tdF false (true, q, l, sx) i) m ?_ ?_ 0 (Nat.zero_le _)
  · exact lp _ ⟨M, p, [], sv, rfl, rfl, hp, rdF_r, hp2, rfl, fun i hi => absurd hi (Nat.not_lt_zero _)⟩
  · rintro k X hk ⟨M2, q, l, sx, rfl, hst, hp2, hF2, hqn, hl, htd⟩ ih
    have hT2 := rT_F hT hF2
    have hx : xar 177 0 182 (nI k) := xar_n rfl 6 rfl (by omega) (by omega)
    have hk1 : (nI k).toNatClampNeg = k := nI_cl (by omega)
    have hp15 : ∀ v, gI (sI (sI M2 166 12 (nI (q + 1))) 166 15 v) 166 12 = nI (q + 1) := fun v => (gI_ne (Or.inr (by decide))).trans (gI_self _ _ _ _)
    by_cases hk0 : k = 0
    · have hk19 : ¬ k = 1 := by omega
      subst hk0
      have hk0 : (0 : Nat) = 0 := rfl
      refine xG_run 2 rfl (by repeat' (first | exact trivial | assumption | exact xob_b rfl | exact xal_b rfl | (apply And.intro) | decide)) ?_
      try dsimp only [xsto1, xsto2, xkill, xget, xset, gd_0, gd_s]
      try rw [rn_v]
      try rw [hk1]
      refine xG_brF rfl (nI_ge hk (by omega)) ?_
      refine xG_run 1 rfl (by repeat' (first | exact trivial | assumption | exact xob_b rfl | exact xal_b rfl | (apply And.intro) | decide)) ?_
      try dsimp only [xsto1, xsto2, xkill, xget, xset, gd_0, gd_s]
      try rw [rn_v]
      try rw [hk1]
      refine xG_brT rfl (Int32.le_refl _) ?_
      refine xG_run 1 rfl (by repeat' (first | exact trivial | assumption | exact xob_b rfl | exact xal_b rfl | (apply And.intro) | decide)) ?_
      try dsimp only [xsto1, xsto2, xkill, xget, xset, gd_0, gd_s]
      try rw [rn_v]
      try rw [hk1]
      refine xG_brT rfl (rfl) ?_
      refine xG_run 1 rfl (by repeat' (first | exact trivial | assumption | exact xob_b rfl | exact xal_b rfl | (apply And.intro) | decide)) ?_
      try dsimp only [xsto1, xsto2, xkill, xget, xset, gd_0, gd_s]
      try rw [rn_v]
      try rw [hk1]
      refine xG_c2 0 rfl (by repeat' (first | exact trivial | assumption | exact xob_b rfl | exact xal_b rfl | (apply And.intro) | decide)) rfl rfl (by decide) cw_X12_readsNumber (d' := d - 1) (e_readsNumber (p := q) hT2 hp2 (by omega) (by omega)) (by omega) ?_
      rintro v M4 (⟨hnl, rfl, rfl⟩ | ⟨hnl, rfl, rfl⟩)
      · dsimp only [Option.toList, List.cons_append, List.nil_append]
        have hnv := nL_n (T := T) (n := n) (p := q) (by omega)
        refine xG_br rfl (fun h86 => ?_) (fun h86 => ?_)
        · first
            | (exfalso; first | exact absurd h86 (by decide) | exact h86 (by decide))
            | (refine xG_run 8 rfl (by repeat' (first | exact trivial | assumption | exact xob_b rfl | exact xal_b rfl | (apply And.intro) | decide)) ?_
               try dsimp only [xsto1, xsto2, xkill, xget, xset, gd_0, gd_s]
               try rw [rn_v]
               try rw [hk1]
               rw [nI_1]
               have hst2 : rdS T n (itK false (0 + 1)) (true, p, [], sv) = (true, q + nL T n (q), l ++ [nV T n (q)], sx) := by rw [show itK false (0 + 1) = itK false 0 ++ [0] from rfl, rdS_app, hst]; exact rd1_nt ⟨rfl, rfl⟩ hnl
               refine ih _ ⟨_, _, _, _, rfl, hst2, ?_, ?_, by omega, lnK_n hl (by simp [hk19]), fun i hi => ?_⟩
               · exact (gI_ne (Or.inl (by decide))).trans rn_p
               · exact rdF_t hF2 (rdF_t rdF_rn rdF_n)
               · rw [gIsI]
                 by_cases c : i = 0
                 · rw [if_pos ⟨rfl, c⟩, c]; exact (td_n hl (by simp [hk19]) (by omega)).symm
                 · rw [if_neg (fun z => c z.2), td_o (q := q) hl (by simp [hk19]) (by omega), ← htd i (by omega)]
                   exact (gI_ne (Or.inl (by decide))).trans (gI_ne (Or.inl (by decide))))
        · first
            | (exfalso; first | exact absurd h86 (by decide) | exact h86 (by decide))
            | (refine xG_run 1 rfl (by repeat' (first | exact trivial | assumption | exact xob_b rfl | exact xal_b rfl | (apply And.intro) | decide)) ?_
               try dsimp only [xsto1, xsto2, xkill, xget, xset, gd_0, gd_s]
               try rw [rn_v]
               try rw [hk1]
               refine r2_z rfl rfl (by first | decide | assumption) ?_
               first
                 | (have hfull := itK_f (T := T) (n := n) (sd := false) (k := 0) (m := m) (pre := [0]) (s := (true, p, [], sv)) (s' := (false, q, l, sx)) (by obtain ⟨r, hr⟩ := itK_pre (sd := false) (k := 0 + 1) (m := m) (by omega); exact ⟨r, by rw [hr]; rfl⟩) (by rw [hst]; exact rd1_nf hnl) rfl
                    rw [hfull]
                    exact ⟨rfl, hp2, hF2, fun z => by cases z⟩))
      · dsimp only [Option.toList, List.cons_append, List.nil_append]
        refine xG_br rfl (fun h86 => ?_) (fun h86 => ?_)
        · first
            | (exfalso; first | exact absurd h86 (by decide) | exact h86 (by decide))
            | (refine xG_run 8 rfl (by repeat' (first | exact trivial | assumption | exact xob_b rfl | exact xal_b rfl | (apply And.intro) | decide)) ?_
               try dsimp only [xsto1, xsto2, xkill, xget, xset, gd_0, gd_s]
               try rw [rn_v]
               try rw [hk1]
               rw [nI_1]
               have hst2 : rdS T n (itK false (0 + 1)) (true, p, [], sv) = (true, q + nL T n (q), l ++ [nV T n (q)], sx) := by rw [show itK false (0 + 1) = itK false 0 ++ [0] from rfl, rdS_app, hst]; exact rd1_nt ⟨rfl, rfl⟩ hnl
               refine ih _ ⟨_, _, _, _, rfl, hst2, ?_, ?_, by omega, lnK_n hl (by simp [hk19]), fun i hi => ?_⟩
               · exact (gI_ne (Or.inl (by decide))).trans rn_p
               · exact rdF_t hF2 (rdF_t rdF_rn rdF_n)
               · rw [gIsI]
                 by_cases c : i = 0
                 · rw [if_pos ⟨rfl, c⟩, c]; exact (td_n hl (by simp [hk19]) (by omega)).symm
                 · rw [if_neg (fun z => c z.2), td_o (q := q) hl (by simp [hk19]) (by omega), ← htd i (by omega)]
                   exact (gI_ne (Or.inl (by decide))).trans (gI_ne (Or.inl (by decide))))
        · first
            | (exfalso; first | exact absurd h86 (by decide) | exact h86 (by decide))
            | (refine xG_run 1 rfl (by repeat' (first | exact trivial | assumption | exact xob_b rfl | exact xal_b rfl | (apply And.intro) | decide)) ?_
               try dsimp only [xsto1, xsto2, xkill, xget, xset, gd_0, gd_s]
               try rw [rn_v]
               try rw [hk1]
               refine r2_z rfl rfl (by first | decide | assumption) ?_
               first
                 | (have hfull := itK_f (T := T) (n := n) (sd := false) (k := 0) (m := m) (pre := [0]) (s := (true, p, [], sv)) (s' := (false, q, l, sx)) (by obtain ⟨r, hr⟩ := itK_pre (sd := false) (k := 0 + 1) (m := m) (by omega); exact ⟨r, by rw [hr]; rfl⟩) (by rw [hst]; exact rd1_nf hnl) rfl
                    rw [hfull]
                    exact ⟨rfl, hp2, hF2, fun z => by cases z⟩))
    · have hk19 : ¬ (false = true ∧ k = 1) := by simp
      refine xG_run 2 rfl (by repeat' (first | exact trivial | assumption | exact xob_b rfl | exact xal_b rfl | (apply And.intro) | decide)) ?_
      try dsimp only [xsto1, xsto2, xkill, xget, xset, gd_0, gd_s]
      try rw [rn_v]
      try rw [hk1]
      refine xG_brF rfl (nI_ge hk (by omega)) ?_
      refine xG_run 1 rfl (by repeat' (first | exact trivial | assumption | exact xob_b rfl | exact xal_b rfl | (apply And.intro) | decide)) ?_
      try dsimp only [xsto1, xsto2, xkill, xget, xset, gd_0, gd_s]
      try rw [rn_v]
      try rw [hk1]
      refine xG_brF rfl (nI_nle0 (by omega)) ?_
      refine xG_run 2 rfl (by repeat' (first | exact trivial | assumption | exact xob_b rfl | exact xal_b rfl | (apply And.intro) | decide)) ?_
      try dsimp only [xsto1, xsto2, xkill, xget, xset, gd_0, gd_s]
      try rw [rn_v]
      try rw [hk1]
      refine xG_c2 1 rfl (by repeat' (first | exact trivial | assumption | exact xob_b rfl | exact xal_b rfl | (apply And.intro) | decide)) rfl rfl (by decide) cw_X12_takes (d' := d - 1) (e_takes (p := q) (c := 32) hT2 hp2 (by omega) (by omega)) (by omega) ?_
      rintro v M3 (⟨hc32, rfl, rfl⟩ | ⟨hc32, rfl, rfl⟩)
      · dsimp only [Option.toList, List.cons_append, List.nil_append]
        refine xG_br rfl (fun h17 => ?_) (fun h17 => ?_)
        · first
            | (exfalso; first | exact absurd h17 (by decide) | exact h17 (by decide))
            | (refine xG_run 1 rfl (by repeat' (first | exact trivial | assumption | exact xob_b rfl | exact xal_b rfl | (apply And.intro) | decide)) ?_
               try dsimp only [xsto1, xsto2, xkill, xget, xset, gd_0, gd_s]
               try rw [rn_v]
               try rw [hk1]
               refine xG_brT rfl (rfl) ?_
               refine xG_run 1 rfl (by repeat' (first | exact trivial | assumption | exact xob_b rfl | exact xal_b rfl | (apply And.intro) | decide)) ?_
               try dsimp only [xsto1, xsto2, xkill, xget, xset, gd_0, gd_s]
               try rw [rn_v]
               try rw [hk1]
               refine xG_c2 0 rfl (by repeat' (first | exact trivial | assumption | exact xob_b rfl | exact xal_b rfl | (apply And.intro) | decide)) rfl rfl (by decide) cw_X12_readsNumber (d' := d - 1) (e_readsNumber (p := q + 1) (rT_F hT2 (rdF_i (Or.inl rfl))) (gI_self _ _ _ _) (by omega) (by omega)) (by omega) ?_
               rintro v M4 (⟨hnl, rfl, rfl⟩ | ⟨hnl, rfl, rfl⟩)
               · dsimp only [Option.toList, List.cons_append, List.nil_append]
                 have hlt32 := chr_p hc32 (by decide)
                 have hnv := nL_n (T := T) (n := n) (p := q + 1) (by omega)
                 refine xG_br rfl (fun h86 => ?_) (fun h86 => ?_)
                 · first
                     | (exfalso; first | exact absurd h86 (by decide) | exact h86 (by decide))
                     | (refine xG_run 8 rfl (by repeat' (first | exact trivial | assumption | exact xob_b rfl | exact xal_b rfl | (apply And.intro) | decide)) ?_
                        try dsimp only [xsto1, xsto2, xkill, xget, xset, gd_0, gd_s]
                        try rw [rn_v]
                        try rw [hk1]
                        rw [nI_1]
                        have hst2 : rdS T n (itK false (k + 1)) (true, p, [], sv) = (true, q + 1 + nL T n (q + 1), l ++ [nV T n (q + 1)], sx) := by rw [itK_s (by omega), if_neg (by simp [hk19]), rdS_app, hst, rdS, rdS, rdS, rd1_ct (it := 32) (by decide) (by decide) hc32]; exact rd1_nt ⟨rfl, rfl⟩ hnl
                        refine ih _ ⟨_, _, _, _, rfl, hst2, ?_, ?_, by omega, lnK_n hl (by simp [hk19]), fun i hi => ?_⟩
                        · exact (gI_ne (Or.inl (by decide))).trans rn_p
                        · exact rdF_t hF2 (rdF_t (rdF_i (Or.inl rfl)) (rdF_t rdF_rn rdF_n))
                        · rw [gIsI]
                          by_cases c : i = k
                          · rw [if_pos ⟨rfl, c⟩, c]; exact (td_n hl (by simp [hk19]) (by omega)).symm
                          · rw [if_neg (fun z => c z.2), td_o (q := q) hl (by simp [hk19]) (by omega), ← htd i (by omega)]
                            exact (gI_ne (Or.inl (by decide))).trans ((gI_ne (Or.inl (by decide))).trans (gI_ne (Or.inl (by decide)))))
                 · first
                     | (exfalso; first | exact absurd h86 (by decide) | exact h86 (by decide))
                     | (refine xG_run 1 rfl (by repeat' (first | exact trivial | assumption | exact xob_b rfl | exact xal_b rfl | (apply And.intro) | decide)) ?_
                        try dsimp only [xsto1, xsto2, xkill, xget, xset, gd_0, gd_s]
                        try rw [rn_v]
                        try rw [hk1]
                        refine r2_z rfl rfl (by first | decide | assumption) ?_
                        first
                          | (have hfull := itK_f (T := T) (n := n) (sd := false) (k := k) (m := m) (pre := [32]) (s := (true, p, [], sv)) (s' := (false, q, l, sx)) (by obtain ⟨r, hr⟩ := itK_pre (sd := false) (k := k + 1) (m := m) (by omega); exact ⟨_, by rw [hr, itK_s (by omega), show ∀ x : Nat, [32, x] = [32] ++ [x] from fun _ => rfl, ← List.append_assoc, List.append_assoc]⟩) (by rw [hst]; exact rd1_cf (by decide) (by decide) hc32) rfl
                             rw [hfull]
                             exact ⟨rfl, hp2, hF2, fun z => by cases z⟩)
                          | (have hfull := itK_f (T := T) (n := n) (sd := false) (k := k) (m := m) (pre := [32, 0]) (s := (true, p, [], sv)) (s' := (false, q + 1, l, sx)) (by obtain ⟨r, hr⟩ := itK_pre (sd := false) (k := k + 1) (m := m) (by omega); exact ⟨r, by rw [hr]; rw [itK_s (by omega), if_neg (by simp [hk19])]⟩) (by rw [hst]; rw [rdS, rdS, rdS, rd1_ct (it := 32) (by decide) (by decide) hc32]; exact rd1_nf hnl) rfl
                             rw [hfull]
                             exact ⟨rfl, gI_self _ _ _ _, rdF_t hF2 (rdF_i (Or.inl rfl)), fun z => by cases z⟩))
               · dsimp only [Option.toList, List.cons_append, List.nil_append]
                 refine xG_br rfl (fun h86 => ?_) (fun h86 => ?_)
                 · first
                     | (exfalso; first | exact absurd h86 (by decide) | exact h86 (by decide))
                     | (refine xG_run 8 rfl (by repeat' (first | exact trivial | assumption | exact xob_b rfl | exact xal_b rfl | (apply And.intro) | decide)) ?_
                        try dsimp only [xsto1, xsto2, xkill, xget, xset, gd_0, gd_s]
                        try rw [rn_v]
                        try rw [hk1]
                        rw [nI_1]
                        have hst2 : rdS T n (itK false (k + 1)) (true, p, [], sv) = (true, q + 1 + nL T n (q + 1), l ++ [nV T n (q + 1)], sx) := by rw [itK_s (by omega), if_neg (by simp [hk19]), rdS_app, hst, rdS, rdS, rdS, rd1_ct (it := 32) (by decide) (by decide) hc32]; exact rd1_nt ⟨rfl, rfl⟩ hnl
                        refine ih _ ⟨_, _, _, _, rfl, hst2, ?_, ?_, by omega, lnK_n hl (by simp [hk19]), fun i hi => ?_⟩
                        · exact (gI_ne (Or.inl (by decide))).trans rn_p
                        · exact rdF_t hF2 (rdF_t (rdF_i (Or.inl rfl)) (rdF_t rdF_rn rdF_n))
                        · rw [gIsI]
                          by_cases c : i = k
                          · rw [if_pos ⟨rfl, c⟩, c]; exact (td_n hl (by simp [hk19]) (by omega)).symm
                          · rw [if_neg (fun z => c z.2), td_o (q := q) hl (by simp [hk19]) (by omega), ← htd i (by omega)]
                            exact (gI_ne (Or.inl (by decide))).trans ((gI_ne (Or.inl (by decide))).trans (gI_ne (Or.inl (by decide)))))
                 · first
                     | (exfalso; first | exact absurd h86 (by decide) | exact h86 (by decide))
                     | (refine xG_run 1 rfl (by repeat' (first | exact trivial | assumption | exact xob_b rfl | exact xal_b rfl | (apply And.intro) | decide)) ?_
                        try dsimp only [xsto1, xsto2, xkill, xget, xset, gd_0, gd_s]
                        try rw [rn_v]
                        try rw [hk1]
                        refine r2_z rfl rfl (by first | decide | assumption) ?_
                        first
                          | (have hfull := itK_f (T := T) (n := n) (sd := false) (k := k) (m := m) (pre := [32]) (s := (true, p, [], sv)) (s' := (false, q, l, sx)) (by obtain ⟨r, hr⟩ := itK_pre (sd := false) (k := k + 1) (m := m) (by omega); exact ⟨_, by rw [hr, itK_s (by omega), show ∀ x : Nat, [32, x] = [32] ++ [x] from fun _ => rfl, ← List.append_assoc, List.append_assoc]⟩) (by rw [hst]; exact rd1_cf (by decide) (by decide) hc32) rfl
                             rw [hfull]
                             exact ⟨rfl, hp2, hF2, fun z => by cases z⟩)
                          | (have hfull := itK_f (T := T) (n := n) (sd := false) (k := k) (m := m) (pre := [32, 0]) (s := (true, p, [], sv)) (s' := (false, q + 1, l, sx)) (by obtain ⟨r, hr⟩ := itK_pre (sd := false) (k := k + 1) (m := m) (by omega); exact ⟨r, by rw [hr]; rw [itK_s (by omega), if_neg (by simp [hk19])]⟩) (by rw [hst]; rw [rdS, rdS, rdS, rd1_ct (it := 32) (by decide) (by decide) hc32]; exact rd1_nf hnl) rfl
                             rw [hfull]
                             exact ⟨rfl, gI_self _ _ _ _, rdF_t hF2 (rdF_i (Or.inl rfl)), fun z => by cases z⟩)))
        · first
            | (exfalso; first | exact absurd h17 (by decide) | exact h17 (by decide))
            | (refine xG_run 1 rfl (by repeat' (first | exact trivial | assumption | exact xob_b rfl | exact xal_b rfl | (apply And.intro) | decide)) ?_
               try dsimp only [xsto1, xsto2, xkill, xget, xset, gd_0, gd_s]
               try rw [rn_v]
               try rw [hk1]
               refine r2_z rfl rfl (by first | decide | assumption) ?_
               first
                 | (have hfull := itK_f (T := T) (n := n) (sd := false) (k := k) (m := m) (pre := [32]) (s := (true, p, [], sv)) (s' := (false, q, l, sx)) (by obtain ⟨r, hr⟩ := itK_pre (sd := false) (k := k + 1) (m := m) (by omega); exact ⟨_, by rw [hr, itK_s (by omega), show ∀ x : Nat, [32, x] = [32] ++ [x] from fun _ => rfl, ← List.append_assoc, List.append_assoc]⟩) (by rw [hst]; exact rd1_cf (by decide) (by decide) hc32) rfl
                    rw [hfull]
                    exact ⟨rfl, hp2, hF2, fun z => by cases z⟩)
                 | (have hfull := itK_f (T := T) (n := n) (sd := false) (k := k) (m := m) (pre := [32, 0]) (s := (true, p, [], sv)) (s' := (false, q + 1, l, sx)) (by obtain ⟨r, hr⟩ := itK_pre (sd := false) (k := k + 1) (m := m) (by omega); exact ⟨r, by rw [hr]; rw [itK_s (by omega), if_neg (by simp [hk19])]⟩) (by rw [hst]; rw [rdS, rdS, rdS, rd1_ct (it := 32) (by decide) (by decide) hc32]; exact rd1_nf hnl) rfl
                    rw [hfull]
                    exact ⟨rfl, gI_self _ _ _ _, rdF_t hF2 (rdF_i (Or.inl rfl)), fun z => by cases z⟩))
      · dsimp only [Option.toList, List.cons_append, List.nil_append]
        refine xG_br rfl (fun h17 => ?_) (fun h17 => ?_)
        · first
            | (exfalso; first | exact absurd h17 (by decide) | exact h17 (by decide))
            | (refine xG_run 1 rfl (by repeat' (first | exact trivial | assumption | exact xob_b rfl | exact xal_b rfl | (apply And.intro) | decide)) ?_
               try dsimp only [xsto1, xsto2, xkill, xget, xset, gd_0, gd_s]
               try rw [rn_v]
               try rw [hk1]
               refine xG_brT rfl (rfl) ?_
               refine xG_run 1 rfl (by repeat' (first | exact trivial | assumption | exact xob_b rfl | exact xal_b rfl | (apply And.intro) | decide)) ?_
               try dsimp only [xsto1, xsto2, xkill, xget, xset, gd_0, gd_s]
               try rw [rn_v]
               try rw [hk1]
               refine xG_c2 0 rfl (by repeat' (first | exact trivial | assumption | exact xob_b rfl | exact xal_b rfl | (apply And.intro) | decide)) rfl rfl (by decide) cw_X12_readsNumber (d' := d - 1) (e_readsNumber (p := q + 1) (rT_F hT2 (rdF_i (Or.inl rfl))) (gI_self _ _ _ _) (by omega) (by omega)) (by omega) ?_
               rintro v M4 (⟨hnl, rfl, rfl⟩ | ⟨hnl, rfl, rfl⟩)
               · dsimp only [Option.toList, List.cons_append, List.nil_append]
                 have hlt32 := chr_p hc32 (by decide)
                 have hnv := nL_n (T := T) (n := n) (p := q + 1) (by omega)
                 refine xG_br rfl (fun h86 => ?_) (fun h86 => ?_)
                 · first
                     | (exfalso; first | exact absurd h86 (by decide) | exact h86 (by decide))
                     | (refine xG_run 8 rfl (by repeat' (first | exact trivial | assumption | exact xob_b rfl | exact xal_b rfl | (apply And.intro) | decide)) ?_
                        try dsimp only [xsto1, xsto2, xkill, xget, xset, gd_0, gd_s]
                        try rw [rn_v]
                        try rw [hk1]
                        rw [nI_1]
                        have hst2 : rdS T n (itK false (k + 1)) (true, p, [], sv) = (true, q + 1 + nL T n (q + 1), l ++ [nV T n (q + 1)], sx) := by rw [itK_s (by omega), if_neg (by simp [hk19]), rdS_app, hst, rdS, rdS, rdS, rd1_ct (it := 32) (by decide) (by decide) hc32]; exact rd1_nt ⟨rfl, rfl⟩ hnl
                        refine ih _ ⟨_, _, _, _, rfl, hst2, ?_, ?_, by omega, lnK_n hl (by simp [hk19]), fun i hi => ?_⟩
                        · exact (gI_ne (Or.inl (by decide))).trans rn_p
                        · exact rdF_t hF2 (rdF_t (rdF_i (Or.inl rfl)) (rdF_t rdF_rn rdF_n))
                        · rw [gIsI]
                          by_cases c : i = k
                          · rw [if_pos ⟨rfl, c⟩, c]; exact (td_n hl (by simp [hk19]) (by omega)).symm
                          · rw [if_neg (fun z => c z.2), td_o (q := q) hl (by simp [hk19]) (by omega), ← htd i (by omega)]
                            exact (gI_ne (Or.inl (by decide))).trans ((gI_ne (Or.inl (by decide))).trans (gI_ne (Or.inl (by decide)))))
                 · first
                     | (exfalso; first | exact absurd h86 (by decide) | exact h86 (by decide))
                     | (refine xG_run 1 rfl (by repeat' (first | exact trivial | assumption | exact xob_b rfl | exact xal_b rfl | (apply And.intro) | decide)) ?_
                        try dsimp only [xsto1, xsto2, xkill, xget, xset, gd_0, gd_s]
                        try rw [rn_v]
                        try rw [hk1]
                        refine r2_z rfl rfl (by first | decide | assumption) ?_
                        first
                          | (have hfull := itK_f (T := T) (n := n) (sd := false) (k := k) (m := m) (pre := [32]) (s := (true, p, [], sv)) (s' := (false, q, l, sx)) (by obtain ⟨r, hr⟩ := itK_pre (sd := false) (k := k + 1) (m := m) (by omega); exact ⟨_, by rw [hr, itK_s (by omega), show ∀ x : Nat, [32, x] = [32] ++ [x] from fun _ => rfl, ← List.append_assoc, List.append_assoc]⟩) (by rw [hst]; exact rd1_cf (by decide) (by decide) hc32) rfl
                             rw [hfull]
                             exact ⟨rfl, hp2, hF2, fun z => by cases z⟩)
                          | (have hfull := itK_f (T := T) (n := n) (sd := false) (k := k) (m := m) (pre := [32, 0]) (s := (true, p, [], sv)) (s' := (false, q + 1, l, sx)) (by obtain ⟨r, hr⟩ := itK_pre (sd := false) (k := k + 1) (m := m) (by omega); exact ⟨r, by rw [hr]; rw [itK_s (by omega), if_neg (by simp [hk19])]⟩) (by rw [hst]; rw [rdS, rdS, rdS, rd1_ct (it := 32) (by decide) (by decide) hc32]; exact rd1_nf hnl) rfl
                             rw [hfull]
                             exact ⟨rfl, gI_self _ _ _ _, rdF_t hF2 (rdF_i (Or.inl rfl)), fun z => by cases z⟩))
               · dsimp only [Option.toList, List.cons_append, List.nil_append]
                 refine xG_br rfl (fun h86 => ?_) (fun h86 => ?_)
                 · first
                     | (exfalso; first | exact absurd h86 (by decide) | exact h86 (by decide))
                     | (refine xG_run 8 rfl (by repeat' (first | exact trivial | assumption | exact xob_b rfl | exact xal_b rfl | (apply And.intro) | decide)) ?_
                        try dsimp only [xsto1, xsto2, xkill, xget, xset, gd_0, gd_s]
                        try rw [rn_v]
                        try rw [hk1]
                        rw [nI_1]
                        have hst2 : rdS T n (itK false (k + 1)) (true, p, [], sv) = (true, q + 1 + nL T n (q + 1), l ++ [nV T n (q + 1)], sx) := by rw [itK_s (by omega), if_neg (by simp [hk19]), rdS_app, hst, rdS, rdS, rdS, rd1_ct (it := 32) (by decide) (by decide) hc32]; exact rd1_nt ⟨rfl, rfl⟩ hnl
                        refine ih _ ⟨_, _, _, _, rfl, hst2, ?_, ?_, by omega, lnK_n hl (by simp [hk19]), fun i hi => ?_⟩
                        · exact (gI_ne (Or.inl (by decide))).trans rn_p
                        · exact rdF_t hF2 (rdF_t (rdF_i (Or.inl rfl)) (rdF_t rdF_rn rdF_n))
                        · rw [gIsI]
                          by_cases c : i = k
                          · rw [if_pos ⟨rfl, c⟩, c]; exact (td_n hl (by simp [hk19]) (by omega)).symm
                          · rw [if_neg (fun z => c z.2), td_o (q := q) hl (by simp [hk19]) (by omega), ← htd i (by omega)]
                            exact (gI_ne (Or.inl (by decide))).trans ((gI_ne (Or.inl (by decide))).trans (gI_ne (Or.inl (by decide)))))
                 · first
                     | (exfalso; first | exact absurd h86 (by decide) | exact h86 (by decide))
                     | (refine xG_run 1 rfl (by repeat' (first | exact trivial | assumption | exact xob_b rfl | exact xal_b rfl | (apply And.intro) | decide)) ?_
                        try dsimp only [xsto1, xsto2, xkill, xget, xset, gd_0, gd_s]
                        try rw [rn_v]
                        try rw [hk1]
                        refine r2_z rfl rfl (by first | decide | assumption) ?_
                        first
                          | (have hfull := itK_f (T := T) (n := n) (sd := false) (k := k) (m := m) (pre := [32]) (s := (true, p, [], sv)) (s' := (false, q, l, sx)) (by obtain ⟨r, hr⟩ := itK_pre (sd := false) (k := k + 1) (m := m) (by omega); exact ⟨_, by rw [hr, itK_s (by omega), show ∀ x : Nat, [32, x] = [32] ++ [x] from fun _ => rfl, ← List.append_assoc, List.append_assoc]⟩) (by rw [hst]; exact rd1_cf (by decide) (by decide) hc32) rfl
                             rw [hfull]
                             exact ⟨rfl, hp2, hF2, fun z => by cases z⟩)
                          | (have hfull := itK_f (T := T) (n := n) (sd := false) (k := k) (m := m) (pre := [32, 0]) (s := (true, p, [], sv)) (s' := (false, q + 1, l, sx)) (by obtain ⟨r, hr⟩ := itK_pre (sd := false) (k := k + 1) (m := m) (by omega); exact ⟨r, by rw [hr]; rw [itK_s (by omega), if_neg (by simp [hk19])]⟩) (by rw [hst]; rw [rdS, rdS, rdS, rd1_ct (it := 32) (by decide) (by decide) hc32]; exact rd1_nf hnl) rfl
                             rw [hfull]
                             exact ⟨rfl, gI_self _ _ _ _, rdF_t hF2 (rdF_i (Or.inl rfl)), fun z => by cases z⟩)))
        · first
            | (exfalso; first | exact absurd h17 (by decide) | exact h17 (by decide))
            | (refine xG_run 1 rfl (by repeat' (first | exact trivial | assumption | exact xob_b rfl | exact xal_b rfl | (apply And.intro) | decide)) ?_
               try dsimp only [xsto1, xsto2, xkill, xget, xset, gd_0, gd_s]
               try rw [rn_v]
               try rw [hk1]
               refine r2_z rfl rfl (by first | decide | assumption) ?_
               first
                 | (have hfull := itK_f (T := T) (n := n) (sd := false) (k := k) (m := m) (pre := [32]) (s := (true, p, [], sv)) (s' := (false, q, l, sx)) (by obtain ⟨r, hr⟩ := itK_pre (sd := false) (k := k + 1) (m := m) (by omega); exact ⟨_, by rw [hr, itK_s (by omega), show ∀ x : Nat, [32, x] = [32] ++ [x] from fun _ => rfl, ← List.append_assoc, List.append_assoc]⟩) (by rw [hst]; exact rd1_cf (by decide) (by decide) hc32) rfl
                    rw [hfull]
                    exact ⟨rfl, hp2, hF2, fun z => by cases z⟩)
                 | (have hfull := itK_f (T := T) (n := n) (sd := false) (k := k) (m := m) (pre := [32, 0]) (s := (true, p, [], sv)) (s' := (false, q + 1, l, sx)) (by obtain ⟨r, hr⟩ := itK_pre (sd := false) (k := k + 1) (m := m) (by omega); exact ⟨r, by rw [hr]; rw [itK_s (by omega), if_neg (by simp [hk19])]⟩) (by rw [hst]; rw [rdS, rdS, rdS, rd1_ct (it := 32) (by decide) (by decide) hc32]; exact rd1_nf hnl) rfl
                    rw [hfull]
                    exact ⟨rfl, gI_self _ _ _ _, rdF_t hF2 (rdF_i (Or.inl rfl)), fun z => by cases z⟩))
  · rintro X ⟨M2, q, l, sx, rfl, hst, hp2, hF2, hqn, hl, htd⟩
    refine xG_run 2 rfl (by repeat' (first | exact trivial | assumption | exact xob_b rfl | exact xal_b rfl | (apply And.intro) | decide)) ?_
    try dsimp only [xsto1, xsto2, xkill, xget, xset, gd_0, gd_s]
    refine xG_brT rfl (Int32.le_refl _) ?_
    refine xG_run 1 rfl (by repeat' (first | exact trivial | assumption | exact xob_b rfl | exact xal_b rfl | (apply And.intro) | decide)) ?_
    try dsimp only [xsto1, xsto2, xkill, xget, xset, gd_0, gd_s]
    refine r2_z rfl rfl (by first | decide | assumption) ?_
    rw [hst]
    exact ⟨rfl, hp2, hF2, fun _ => htd⟩
set_option maxRecDepth 4000 in
theorem e_readsNumbersS {κ : xKK} {d : Nat} {M : xM} {a b n p m : Nat} {T : Nat → Int32} {sv : Int32} (hT : rT M a b n T) (hp : gI M 166 12 = nI p) (hp2 : p ≤ n) (hm : m ≤ 5) (hd : 3 ≤ d) : xE2 κ mX12_readsNumbers d [.ref 166, .int (nI m), .int 1] M (fun v M' => v = some (.int (if (rdS T n (itK true m) (true, p, [], sv)).1 = true then 1 else 0)) ∧ gI M' 166 12 = nI (rdS T n (itK true m) (true, p, [], sv)).2.1 ∧ rdF M M' ∧ ((rdS T n (itK true m) (true, p, [], sv)).1 = true → ∀ i, i < m → gI M' 177 i = tdF true (rdS T n (itK true m) (true, p, [], sv)) i)) := by
  refine xE2_of ci_X12_readsNumbers cl_X12_readsNumbers cw_X12_readsNumbers rfl (L := [some (.ref 166), some (.int (nI m)), some (.int 1), none]) rfl ?_
  have hn9 := hT.2.2.2.2.1
  refine xG_run 2 rfl (by repeat' (first | exact trivial | assumption | exact xob_b rfl | exact xal_b rfl | (apply And.intro) | decide)) ?_
  try dsimp only [xsto1, xsto2, xkill, xget, xset, gd_0, gd_s]
  have lp := xG_upP (κ := κ) (m := mX12_readsNumbers) (r := (d, 0, 0)) (YS := xRet mX12_readsNumbers false (fun v M' n' => n' = 182 ∧ (v = some (.int (if (rdS T n (itK true m) (true, p, [], sv)).1 = true then 1 else 0)) ∧ gI M' 166 12 = nI (rdS T n (itK true m) (true, p, [], sv)).2.1 ∧ rdF M M' ∧ ((rdS T n (itK true m) (true, p, [], sv)).1 = true → ∀ i, i < m → gI M' 177 i = tdF true (rdS T n (itK true m) (true, p, [], sv)) i)))) (fun k X => ∃ (M2 : xM) (q : Nat) (l : List Int32) (sx : Int32), X = (2, [some (.ref 166), some (.int (nI m)), some (.int 1), some (.int (nI k))], [], M2, z2) ∧ rdS T n (itK true k) (true, p, [], sv) = (true, q, l, sx) ∧ gI M2 166 12 = nI q ∧ rdF M M2 ∧ q ≤ n ∧ l.length = lnK true k ∧ ∀ i, i < k → gI M2 177 i = tdF true (true, q, l, sx) i) m ?_ ?_ 0 (Nat.zero_le _)
  · exact lp _ ⟨M, p, [], sv, rfl, rfl, hp, rdF_r, hp2, rfl, fun i hi => absurd hi (Nat.not_lt_zero _)⟩
  · rintro k X hk ⟨M2, q, l, sx, rfl, hst, hp2, hF2, hqn, hl, htd⟩ ih
    have hT2 := rT_F hT hF2
    have hx : xar 177 0 182 (nI k) := xar_n rfl 6 rfl (by omega) (by omega)
    have hk1 : (nI k).toNatClampNeg = k := nI_cl (by omega)
    have hp15 : ∀ v, gI (sI (sI M2 166 12 (nI (q + 1))) 166 15 v) 166 12 = nI (q + 1) := fun v => (gI_ne (Or.inr (by decide))).trans (gI_self _ _ _ _)
    by_cases hk0 : k = 0
    · have hk19 : ¬ k = 1 := by omega
      subst hk0
      have hk0 : (0 : Nat) = 0 := rfl
      refine xG_run 2 rfl (by repeat' (first | exact trivial | assumption | exact xob_b rfl | exact xal_b rfl | (apply And.intro) | decide)) ?_
      try dsimp only [xsto1, xsto2, xkill, xget, xset, gd_0, gd_s]
      try rw [rn_v]
      try rw [hk1]
      refine xG_brF rfl (nI_ge hk (by omega)) ?_
      refine xG_run 1 rfl (by repeat' (first | exact trivial | assumption | exact xob_b rfl | exact xal_b rfl | (apply And.intro) | decide)) ?_
      try dsimp only [xsto1, xsto2, xkill, xget, xset, gd_0, gd_s]
      try rw [rn_v]
      try rw [hk1]
      refine xG_brT rfl (Int32.le_refl _) ?_
      refine xG_run 1 rfl (by repeat' (first | exact trivial | assumption | exact xob_b rfl | exact xal_b rfl | (apply And.intro) | decide)) ?_
      try dsimp only [xsto1, xsto2, xkill, xget, xset, gd_0, gd_s]
      try rw [rn_v]
      try rw [hk1]
      refine xG_brF rfl (by decide) ?_
      refine xG_run 2 rfl (by repeat' (first | exact trivial | assumption | exact xob_b rfl | exact xal_b rfl | (apply And.intro) | decide)) ?_
      try dsimp only [xsto1, xsto2, xkill, xget, xset, gd_0, gd_s]
      try rw [rn_v]
      try rw [hk1]
      refine xG_brT rfl (by show ¬ nI 0 = nI 1; decide) ?_
      refine xG_run 1 rfl (by repeat' (first | exact trivial | assumption | exact xob_b rfl | exact xal_b rfl | (apply And.intro) | decide)) ?_
      try dsimp only [xsto1, xsto2, xkill, xget, xset, gd_0, gd_s]
      try rw [rn_v]
      try rw [hk1]
      refine xG_c2 0 rfl (by repeat' (first | exact trivial | assumption | exact xob_b rfl | exact xal_b rfl | (apply And.intro) | decide)) rfl rfl (by decide) cw_X12_readsNumber (d' := d - 1) (e_readsNumber (p := q) hT2 hp2 (by omega) (by omega)) (by omega) ?_
      rintro v M4 (⟨hnl, rfl, rfl⟩ | ⟨hnl, rfl, rfl⟩)
      · dsimp only [Option.toList, List.cons_append, List.nil_append]
        have hnv := nL_n (T := T) (n := n) (p := q) (by omega)
        refine xG_br rfl (fun h86 => ?_) (fun h86 => ?_)
        · first
            | (exfalso; first | exact absurd h86 (by decide) | exact h86 (by decide))
            | (refine xG_run 8 rfl (by repeat' (first | exact trivial | assumption | exact xob_b rfl | exact xal_b rfl | (apply And.intro) | decide)) ?_
               try dsimp only [xsto1, xsto2, xkill, xget, xset, gd_0, gd_s]
               try rw [rn_v]
               try rw [hk1]
               rw [nI_1]
               have hst2 : rdS T n (itK true (0 + 1)) (true, p, [], sv) = (true, q + nL T n (q), l ++ [nV T n (q)], sx) := by rw [show itK true (0 + 1) = itK true 0 ++ [0] from rfl, rdS_app, hst]; exact rd1_nt ⟨rfl, rfl⟩ hnl
               refine ih _ ⟨_, _, _, _, rfl, hst2, ?_, ?_, by omega, lnK_n hl (by simp [hk19]), fun i hi => ?_⟩
               · exact (gI_ne (Or.inl (by decide))).trans rn_p
               · exact rdF_t hF2 (rdF_t rdF_rn rdF_n)
               · rw [gIsI]
                 by_cases c : i = 0
                 · rw [if_pos ⟨rfl, c⟩, c]; exact (td_n hl (by simp [hk19]) (by omega)).symm
                 · rw [if_neg (fun z => c z.2), td_o (q := q) hl (by simp [hk19]) (by omega), ← htd i (by omega)]
                   exact (gI_ne (Or.inl (by decide))).trans (gI_ne (Or.inl (by decide))))
        · first
            | (exfalso; first | exact absurd h86 (by decide) | exact h86 (by decide))
            | (refine xG_run 1 rfl (by repeat' (first | exact trivial | assumption | exact xob_b rfl | exact xal_b rfl | (apply And.intro) | decide)) ?_
               try dsimp only [xsto1, xsto2, xkill, xget, xset, gd_0, gd_s]
               try rw [rn_v]
               try rw [hk1]
               refine r2_z rfl rfl (by first | decide | assumption) ?_
               first
                 | (have hfull := itK_f (T := T) (n := n) (sd := true) (k := 0) (m := m) (pre := [0]) (s := (true, p, [], sv)) (s' := (false, q, l, sx)) (by obtain ⟨r, hr⟩ := itK_pre (sd := true) (k := 0 + 1) (m := m) (by omega); exact ⟨r, by rw [hr]; rfl⟩) (by rw [hst]; exact rd1_nf hnl) rfl
                    rw [hfull]
                    exact ⟨rfl, hp2, hF2, fun z => by cases z⟩))
      · dsimp only [Option.toList, List.cons_append, List.nil_append]
        refine xG_br rfl (fun h86 => ?_) (fun h86 => ?_)
        · first
            | (exfalso; first | exact absurd h86 (by decide) | exact h86 (by decide))
            | (refine xG_run 8 rfl (by repeat' (first | exact trivial | assumption | exact xob_b rfl | exact xal_b rfl | (apply And.intro) | decide)) ?_
               try dsimp only [xsto1, xsto2, xkill, xget, xset, gd_0, gd_s]
               try rw [rn_v]
               try rw [hk1]
               rw [nI_1]
               have hst2 : rdS T n (itK true (0 + 1)) (true, p, [], sv) = (true, q + nL T n (q), l ++ [nV T n (q)], sx) := by rw [show itK true (0 + 1) = itK true 0 ++ [0] from rfl, rdS_app, hst]; exact rd1_nt ⟨rfl, rfl⟩ hnl
               refine ih _ ⟨_, _, _, _, rfl, hst2, ?_, ?_, by omega, lnK_n hl (by simp [hk19]), fun i hi => ?_⟩
               · exact (gI_ne (Or.inl (by decide))).trans rn_p
               · exact rdF_t hF2 (rdF_t rdF_rn rdF_n)
               · rw [gIsI]
                 by_cases c : i = 0
                 · rw [if_pos ⟨rfl, c⟩, c]; exact (td_n hl (by simp [hk19]) (by omega)).symm
                 · rw [if_neg (fun z => c z.2), td_o (q := q) hl (by simp [hk19]) (by omega), ← htd i (by omega)]
                   exact (gI_ne (Or.inl (by decide))).trans (gI_ne (Or.inl (by decide))))
        · first
            | (exfalso; first | exact absurd h86 (by decide) | exact h86 (by decide))
            | (refine xG_run 1 rfl (by repeat' (first | exact trivial | assumption | exact xob_b rfl | exact xal_b rfl | (apply And.intro) | decide)) ?_
               try dsimp only [xsto1, xsto2, xkill, xget, xset, gd_0, gd_s]
               try rw [rn_v]
               try rw [hk1]
               refine r2_z rfl rfl (by first | decide | assumption) ?_
               first
                 | (have hfull := itK_f (T := T) (n := n) (sd := true) (k := 0) (m := m) (pre := [0]) (s := (true, p, [], sv)) (s' := (false, q, l, sx)) (by obtain ⟨r, hr⟩ := itK_pre (sd := true) (k := 0 + 1) (m := m) (by omega); exact ⟨r, by rw [hr]; rfl⟩) (by rw [hst]; exact rd1_nf hnl) rfl
                    rw [hfull]
                    exact ⟨rfl, hp2, hF2, fun z => by cases z⟩))
    · by_cases hk0 : k = 1
      · refine xG_run 2 rfl (by repeat' (first | exact trivial | assumption | exact xob_b rfl | exact xal_b rfl | (apply And.intro) | decide)) ?_
        try dsimp only [xsto1, xsto2, xkill, xget, xset, gd_0, gd_s]
        try rw [hp15]
        try rw [nI_1]
        try rw [hk1]
        refine xG_brF rfl (nI_ge hk (by omega)) ?_
        refine xG_run 1 rfl (by repeat' (first | exact trivial | assumption | exact xob_b rfl | exact xal_b rfl | (apply And.intro) | decide)) ?_
        try dsimp only [xsto1, xsto2, xkill, xget, xset, gd_0, gd_s]
        try rw [hp15]
        try rw [nI_1]
        try rw [hk1]
        refine xG_brF rfl (nI_nle0 (by omega)) ?_
        refine xG_run 2 rfl (by repeat' (first | exact trivial | assumption | exact xob_b rfl | exact xal_b rfl | (apply And.intro) | decide)) ?_
        try dsimp only [xsto1, xsto2, xkill, xget, xset, gd_0, gd_s]
        try rw [hp15]
        try rw [nI_1]
        try rw [hk1]
        refine xG_c2 1 rfl (by repeat' (first | exact trivial | assumption | exact xob_b rfl | exact xal_b rfl | (apply And.intro) | decide)) rfl rfl (by decide) cw_X12_takes (d' := d - 1) (e_takes (p := q) (c := 32) hT2 hp2 (by omega) (by omega)) (by omega) ?_
        rintro v M3 (⟨hc32, rfl, rfl⟩ | ⟨hc32, rfl, rfl⟩)
        · dsimp only [Option.toList, List.cons_append, List.nil_append]
          refine xG_br rfl (fun h17 => ?_) (fun h17 => ?_)
          · first
              | (exfalso; first | exact absurd h17 (by decide) | exact h17 (by decide))
              | (refine xG_run 1 rfl (by repeat' (first | exact trivial | assumption | exact xob_b rfl | exact xal_b rfl | (apply And.intro) | decide)) ?_
                 try dsimp only [xsto1, xsto2, xkill, xget, xset, gd_0, gd_s]
                 try rw [hp15]
                 try rw [nI_1]
                 try rw [hk1]
                 refine xG_brF rfl (by decide) ?_
                 refine xG_run 2 rfl (by repeat' (first | exact trivial | assumption | exact xob_b rfl | exact xal_b rfl | (apply And.intro) | decide)) ?_
                 try dsimp only [xsto1, xsto2, xkill, xget, xset, gd_0, gd_s]
                 try rw [hp15]
                 try rw [nI_1]
                 try rw [hk1]
                 refine xG_brF rfl (fun z => z (by rw [hk0]; rfl)) ?_
                 refine xG_run 2 rfl (by repeat' (first | exact trivial | assumption | exact xob_b rfl | exact xal_b rfl | (apply And.intro) | decide)) ?_
                 try dsimp only [xsto1, xsto2, xkill, xget, xset, gd_0, gd_s]
                 try rw [hp15]
                 try rw [nI_1]
                 try rw [hk1]
                 refine xG_c2 0 rfl (by repeat' (first | exact trivial | assumption | exact xob_b rfl | exact xal_b rfl | (apply And.intro) | decide)) rfl rfl (by decide) cw_X12_sign (d' := d - 1) (e_sign (p := q + 1) (rT_F hT2 (rdF_i (Or.inl rfl))) (gI_self _ _ _ _) (by omega)) (by omega) ?_
                 rintro v M' ⟨rfl, hM⟩
                 subst M'
                 dsimp only [Option.toList, List.cons_append, List.nil_append]
                 refine xG_run 1 rfl (by repeat' (first | exact trivial | assumption | exact xob_b rfl | exact xal_b rfl | (apply And.intro) | decide)) ?_
                 try dsimp only [xsto1, xsto2, xkill, xget, xset, gd_0, gd_s]
                 try rw [hp15]
                 try rw [nI_1]
                 try rw [hk1]
                 refine xG_br rfl (fun h38 => ?_) (fun h38 => ?_)
                 · refine xG_run 3 rfl (by repeat' (first | exact trivial | assumption | exact xob_b rfl | exact xal_b rfl | (apply And.intro) | decide)) ?_
                   try dsimp only [xsto1, xsto2, xkill, xget, xset, gd_0, gd_s]
                   try rw [hp15]
                   try rw [nI_1]
                   try rw [hk1]
                   refine xG_c2 0 rfl (by repeat' (first | exact trivial | assumption | exact xob_b rfl | exact xal_b rfl | (apply And.intro) | decide)) rfl rfl (by decide) cw_X12_sign (d' := d - 1) (e_sign (p := q + 1) (rT_F hT2 (rdF_t (rdF_i (Or.inl rfl)) (rdF_i (Or.inr rfl)))) (hp15 _) (by omega)) (by omega) ?_
                   rintro v M' ⟨rfl, hM⟩
                   subst M'
                   dsimp only [Option.toList, List.cons_append, List.nil_append]
                   refine xG_run 1 rfl (by repeat' (first | exact trivial | assumption | exact xob_b rfl | exact xal_b rfl | (apply And.intro) | decide)) ?_
                   try dsimp only [xsto1, xsto2, xkill, xget, xset, gd_0, gd_s]
                   try rw [hp15]
                   try rw [nI_1]
                   try rw [hk1]
                   refine xG_br rfl (fun h55 => ?_) (fun h55 => ?_)
                   · first
                       | (exfalso; first | exact h38 h55 | exact h55 (Decidable.not_not.mp h38) | exact absurd h55 h38)
                       | (refine xG_run 4 rfl (by repeat' (first | exact trivial | assumption | exact xob_b rfl | exact xal_b rfl | (apply And.intro) | decide)) ?_
                          try dsimp only [xsto1, xsto2, xkill, xget, xset, gd_0, gd_s]
                          try rw [hp15]
                          try rw [nI_1]
                          try rw [hk1]
                          try rw [hp15]
                          refine xG_run 8 rfl (by repeat' (first | exact trivial | assumption | exact xob_b rfl | exact xal_b rfl | (apply And.intro) | decide)) ?_
                          try dsimp only [xsto1, xsto2, xkill, xget, xset, gd_0, gd_s]
                          try rw [hp15]
                          try rw [nI_1]
                          try rw [hk1]
                          refine xG_run 3 rfl (by repeat' (first | exact trivial | assumption | exact xob_b rfl | exact xal_b rfl | (apply And.intro) | decide)) ?_
                          try dsimp only [xsto1, xsto2, xkill, xget, xset, gd_0, gd_s]
                          try rw [hp15]
                          try rw [nI_1]
                          try rw [hk1]
                          try rw [nI_1]
                          first
                            | (have hst2 : rdS T n (itK true (k + 1)) (true, p, [], sv) = (true, q + 1 + 1, l, 1) := by rw [itK_s (by omega), if_pos ⟨rfl, hk0⟩, rdS_app, hst, rdS, rdS, rdS, rd1_ct (it := 32) (by decide) (by decide) hc32]; exact rd1_se h55
                               refine ih _ ⟨_, _, _, _, rfl, hst2, ?_, ?_, by have := chr_p (by first | exact h55 | exact h64) (by decide); omega, by subst hk0; exact hl, fun i hi => ?_⟩
                               · exact (gI_ne (Or.inl (by decide))).trans (gI_self _ _ _ _)
                               · exact rdF_t hF2 (rdF_t (rdF_i (Or.inl rfl)) (rdF_t (rdF_i (Or.inr rfl)) (rdF_t (rdF_i (Or.inl rfl)) rdF_n)))
                               · rw [gIsI]
                                 by_cases c : i = k
                                 · rw [if_pos ⟨rfl, c⟩, c, hk0]; first | rfl | (simp (disch := omega) only [g_ne, g_eq]; rfl)
                                 · have e0 : i = 0 := by omega
                                   rw [if_neg (fun z => c z.2), e0]
                                   have e9 := htd 0 (by omega)
                                   simp (disch := omega) only [g_ne]
                                   exact e9)
                            | (have hst2 : rdS T n (itK true (k + 1)) (true, p, [], sv) = (true, q + 1 + 1, l, -1) := by rw [itK_s (by omega), if_pos ⟨rfl, hk0⟩, rdS_app, hst, rdS, rdS, rdS, rd1_ct (it := 32) (by decide) (by decide) hc32]; exact rd1_sw h55 h64
                               refine ih _ ⟨_, _, _, _, rfl, hst2, ?_, ?_, by have := chr_p (by first | exact h55 | exact h64) (by decide); omega, by subst hk0; exact hl, fun i hi => ?_⟩
                               · exact (gI_ne (Or.inl (by decide))).trans (gI_self _ _ _ _)
                               · exact rdF_t hF2 (rdF_t (rdF_i (Or.inl rfl)) (rdF_t (rdF_i (Or.inr rfl)) (rdF_t (rdF_i (Or.inl rfl)) rdF_n)))
                               · rw [gIsI]
                                 by_cases c : i = k
                                 · rw [if_pos ⟨rfl, c⟩, c, hk0]; first | rfl | (simp (disch := omega) only [g_ne, g_eq]; rfl)
                                 · have e0 : i = 0 := by omega
                                   rw [if_neg (fun z => c z.2), e0]
                                   have e9 := htd 0 (by omega)
                                   simp (disch := omega) only [g_ne]
                                   exact e9))
                   · first
                       | (exfalso; first | exact h38 h55 | exact h55 (Decidable.not_not.mp h38) | exact absurd h55 h38)
                       | (refine xG_run 1 rfl (by repeat' (first | exact trivial | assumption | exact xob_b rfl | exact xal_b rfl | (apply And.intro) | decide)) ?_
                          try dsimp only [xsto1, xsto2, xkill, xget, xset, gd_0, gd_s]
                          try rw [hp15]
                          try rw [nI_1]
                          try rw [hk1]
                          refine xG_c2 0 rfl (by repeat' (first | exact trivial | assumption | exact xob_b rfl | exact xal_b rfl | (apply And.intro) | decide)) rfl rfl (by decide) cw_X12_sign (d' := d - 1) (e_sign (p := q + 1) (rT_F hT2 (rdF_t (rdF_i (Or.inl rfl)) (rdF_i (Or.inr rfl)))) (hp15 _) (by omega)) (by omega) ?_
                          rintro v M' ⟨rfl, hM⟩
                          subst M'
                          dsimp only [Option.toList, List.cons_append, List.nil_append]
                          refine xG_run 1 rfl (by repeat' (first | exact trivial | assumption | exact xob_b rfl | exact xal_b rfl | (apply And.intro) | decide)) ?_
                          try dsimp only [xsto1, xsto2, xkill, xget, xset, gd_0, gd_s]
                          try rw [hp15]
                          try rw [nI_1]
                          try rw [hk1]
                          refine xG_br rfl (fun h64 => ?_) (fun h64 => ?_)
                          · refine xG_run 4 rfl (by repeat' (first | exact trivial | assumption | exact xob_b rfl | exact xal_b rfl | (apply And.intro) | decide)) ?_
                            try dsimp only [xsto1, xsto2, xkill, xget, xset, gd_0, gd_s]
                            try rw [hp15]
                            try rw [nI_1]
                            try rw [hk1]
                            try rw [hp15]
                            refine xG_run 8 rfl (by repeat' (first | exact trivial | assumption | exact xob_b rfl | exact xal_b rfl | (apply And.intro) | decide)) ?_
                            try dsimp only [xsto1, xsto2, xkill, xget, xset, gd_0, gd_s]
                            try rw [hp15]
                            try rw [nI_1]
                            try rw [hk1]
                            refine xG_run 3 rfl (by repeat' (first | exact trivial | assumption | exact xob_b rfl | exact xal_b rfl | (apply And.intro) | decide)) ?_
                            try dsimp only [xsto1, xsto2, xkill, xget, xset, gd_0, gd_s]
                            try rw [hp15]
                            try rw [nI_1]
                            try rw [hk1]
                            try rw [nI_1]
                            first
                              | (have hst2 : rdS T n (itK true (k + 1)) (true, p, [], sv) = (true, q + 1 + 1, l, 1) := by rw [itK_s (by omega), if_pos ⟨rfl, hk0⟩, rdS_app, hst, rdS, rdS, rdS, rd1_ct (it := 32) (by decide) (by decide) hc32]; exact rd1_se h55
                                 refine ih _ ⟨_, _, _, _, rfl, hst2, ?_, ?_, by have := chr_p (by first | exact h55 | exact h64) (by decide); omega, by subst hk0; exact hl, fun i hi => ?_⟩
                                 · exact (gI_ne (Or.inl (by decide))).trans (gI_self _ _ _ _)
                                 · exact rdF_t hF2 (rdF_t (rdF_i (Or.inl rfl)) (rdF_t (rdF_i (Or.inr rfl)) (rdF_t (rdF_i (Or.inl rfl)) rdF_n)))
                                 · rw [gIsI]
                                   by_cases c : i = k
                                   · rw [if_pos ⟨rfl, c⟩, c, hk0]; first | rfl | (simp (disch := omega) only [g_ne, g_eq]; rfl)
                                   · have e0 : i = 0 := by omega
                                     rw [if_neg (fun z => c z.2), e0]
                                     have e9 := htd 0 (by omega)
                                     simp (disch := omega) only [g_ne]
                                     exact e9)
                              | (have hst2 : rdS T n (itK true (k + 1)) (true, p, [], sv) = (true, q + 1 + 1, l, -1) := by rw [itK_s (by omega), if_pos ⟨rfl, hk0⟩, rdS_app, hst, rdS, rdS, rdS, rd1_ct (it := 32) (by decide) (by decide) hc32]; exact rd1_sw h55 h64
                                 refine ih _ ⟨_, _, _, _, rfl, hst2, ?_, ?_, by have := chr_p (by first | exact h55 | exact h64) (by decide); omega, by subst hk0; exact hl, fun i hi => ?_⟩
                                 · exact (gI_ne (Or.inl (by decide))).trans (gI_self _ _ _ _)
                                 · exact rdF_t hF2 (rdF_t (rdF_i (Or.inl rfl)) (rdF_t (rdF_i (Or.inr rfl)) (rdF_t (rdF_i (Or.inl rfl)) rdF_n)))
                                 · rw [gIsI]
                                   by_cases c : i = k
                                   · rw [if_pos ⟨rfl, c⟩, c, hk0]; first | rfl | (simp (disch := omega) only [g_ne, g_eq]; rfl)
                                   · have e0 : i = 0 := by omega
                                     rw [if_neg (fun z => c z.2), e0]
                                     have e9 := htd 0 (by omega)
                                     simp (disch := omega) only [g_ne]
                                     exact e9)
                          · refine xG_run 1 rfl (by repeat' (first | exact trivial | assumption | exact xob_b rfl | exact xal_b rfl | (apply And.intro) | decide)) ?_
                            try dsimp only [xsto1, xsto2, xkill, xget, xset, gd_0, gd_s]
                            try rw [hp15]
                            try rw [nI_1]
                            try rw [hk1]
                            refine r2_z rfl rfl (by first | decide | assumption) ?_
                            first
                              | (have hfull := itK_f (T := T) (n := n) (sd := true) (k := k) (m := m) (pre := [32]) (s := (true, p, [], sv)) (s' := (false, q, l, sx)) (by obtain ⟨r, hr⟩ := itK_pre (sd := true) (k := k + 1) (m := m) (by omega); exact ⟨_, by rw [hr, itK_s (by omega), show ∀ x : Nat, [32, x] = [32] ++ [x] from fun _ => rfl, ← List.append_assoc, List.append_assoc]⟩) (by rw [hst]; exact rd1_cf (by decide) (by decide) hc32) rfl
                                 rw [hfull]
                                 exact ⟨rfl, hp2, hF2, fun z => by cases z⟩)
                              | (have hfull := itK_f (T := T) (n := n) (sd := true) (k := k) (m := m) (pre := [32, 1]) (s := (true, p, [], sv)) (s' := (false, q + 1, l, sx)) (by obtain ⟨r, hr⟩ := itK_pre (sd := true) (k := k + 1) (m := m) (by omega); exact ⟨r, by rw [hr, itK_s (by omega), if_pos ⟨rfl, hk0⟩]⟩) (by rw [hst]; rw [rdS, rdS, rdS, rd1_ct (it := 32) (by decide) (by decide) hc32]; exact rd1_sf (by first | exact h55 | exact h38) h64) rfl
                                 rw [hfull]
                                 exact ⟨rfl, hp15 _, rdF_t hF2 (rdF_t (rdF_i (Or.inl rfl)) (rdF_i (Or.inr rfl))), fun z => by cases z⟩))
                 · refine xG_run 4 rfl (by repeat' (first | exact trivial | assumption | exact xob_b rfl | exact xal_b rfl | (apply And.intro) | decide)) ?_
                   try dsimp only [xsto1, xsto2, xkill, xget, xset, gd_0, gd_s]
                   try rw [hp15]
                   try rw [nI_1]
                   try rw [hk1]
                   refine xG_c2 0 rfl (by repeat' (first | exact trivial | assumption | exact xob_b rfl | exact xal_b rfl | (apply And.intro) | decide)) rfl rfl (by decide) cw_X12_sign (d' := d - 1) (e_sign (p := q + 1) (rT_F hT2 (rdF_t (rdF_i (Or.inl rfl)) (rdF_i (Or.inr rfl)))) (hp15 _) (by omega)) (by omega) ?_
                   rintro v M' ⟨rfl, hM⟩
                   subst M'
                   dsimp only [Option.toList, List.cons_append, List.nil_append]
                   refine xG_run 1 rfl (by repeat' (first | exact trivial | assumption | exact xob_b rfl | exact xal_b rfl | (apply And.intro) | decide)) ?_
                   try dsimp only [xsto1, xsto2, xkill, xget, xset, gd_0, gd_s]
                   try rw [hp15]
                   try rw [nI_1]
                   try rw [hk1]
                   refine xG_br rfl (fun h55 => ?_) (fun h55 => ?_)
                   · first
                       | (exfalso; first | exact h38 h55 | exact h55 (Decidable.not_not.mp h38) | exact absurd h55 h38)
                       | (refine xG_run 4 rfl (by repeat' (first | exact trivial | assumption | exact xob_b rfl | exact xal_b rfl | (apply And.intro) | decide)) ?_
                          try dsimp only [xsto1, xsto2, xkill, xget, xset, gd_0, gd_s]
                          try rw [hp15]
                          try rw [nI_1]
                          try rw [hk1]
                          try rw [hp15]
                          refine xG_run 8 rfl (by repeat' (first | exact trivial | assumption | exact xob_b rfl | exact xal_b rfl | (apply And.intro) | decide)) ?_
                          try dsimp only [xsto1, xsto2, xkill, xget, xset, gd_0, gd_s]
                          try rw [hp15]
                          try rw [nI_1]
                          try rw [hk1]
                          refine xG_run 3 rfl (by repeat' (first | exact trivial | assumption | exact xob_b rfl | exact xal_b rfl | (apply And.intro) | decide)) ?_
                          try dsimp only [xsto1, xsto2, xkill, xget, xset, gd_0, gd_s]
                          try rw [hp15]
                          try rw [nI_1]
                          try rw [hk1]
                          try rw [nI_1]
                          first
                            | (have hst2 : rdS T n (itK true (k + 1)) (true, p, [], sv) = (true, q + 1 + 1, l, 1) := by rw [itK_s (by omega), if_pos ⟨rfl, hk0⟩, rdS_app, hst, rdS, rdS, rdS, rd1_ct (it := 32) (by decide) (by decide) hc32]; exact rd1_se h55
                               refine ih _ ⟨_, _, _, _, rfl, hst2, ?_, ?_, by have := chr_p (by first | exact h55 | exact h64) (by decide); omega, by subst hk0; exact hl, fun i hi => ?_⟩
                               · exact (gI_ne (Or.inl (by decide))).trans (gI_self _ _ _ _)
                               · exact rdF_t hF2 (rdF_t (rdF_i (Or.inl rfl)) (rdF_t (rdF_i (Or.inr rfl)) (rdF_t (rdF_i (Or.inl rfl)) rdF_n)))
                               · rw [gIsI]
                                 by_cases c : i = k
                                 · rw [if_pos ⟨rfl, c⟩, c, hk0]; first | rfl | (simp (disch := omega) only [g_ne, g_eq]; rfl)
                                 · have e0 : i = 0 := by omega
                                   rw [if_neg (fun z => c z.2), e0]
                                   have e9 := htd 0 (by omega)
                                   simp (disch := omega) only [g_ne]
                                   exact e9)
                            | (have hst2 : rdS T n (itK true (k + 1)) (true, p, [], sv) = (true, q + 1 + 1, l, -1) := by rw [itK_s (by omega), if_pos ⟨rfl, hk0⟩, rdS_app, hst, rdS, rdS, rdS, rd1_ct (it := 32) (by decide) (by decide) hc32]; exact rd1_sw h55 h64
                               refine ih _ ⟨_, _, _, _, rfl, hst2, ?_, ?_, by have := chr_p (by first | exact h55 | exact h64) (by decide); omega, by subst hk0; exact hl, fun i hi => ?_⟩
                               · exact (gI_ne (Or.inl (by decide))).trans (gI_self _ _ _ _)
                               · exact rdF_t hF2 (rdF_t (rdF_i (Or.inl rfl)) (rdF_t (rdF_i (Or.inr rfl)) (rdF_t (rdF_i (Or.inl rfl)) rdF_n)))
                               · rw [gIsI]
                                 by_cases c : i = k
                                 · rw [if_pos ⟨rfl, c⟩, c, hk0]; first | rfl | (simp (disch := omega) only [g_ne, g_eq]; rfl)
                                 · have e0 : i = 0 := by omega
                                   rw [if_neg (fun z => c z.2), e0]
                                   have e9 := htd 0 (by omega)
                                   simp (disch := omega) only [g_ne]
                                   exact e9))
                   · first
                       | (exfalso; first | exact h38 h55 | exact h55 (Decidable.not_not.mp h38) | exact absurd h55 h38)
                       | (refine xG_run 1 rfl (by repeat' (first | exact trivial | assumption | exact xob_b rfl | exact xal_b rfl | (apply And.intro) | decide)) ?_
                          try dsimp only [xsto1, xsto2, xkill, xget, xset, gd_0, gd_s]
                          try rw [hp15]
                          try rw [nI_1]
                          try rw [hk1]
                          refine xG_c2 0 rfl (by repeat' (first | exact trivial | assumption | exact xob_b rfl | exact xal_b rfl | (apply And.intro) | decide)) rfl rfl (by decide) cw_X12_sign (d' := d - 1) (e_sign (p := q + 1) (rT_F hT2 (rdF_t (rdF_i (Or.inl rfl)) (rdF_i (Or.inr rfl)))) (hp15 _) (by omega)) (by omega) ?_
                          rintro v M' ⟨rfl, hM⟩
                          subst M'
                          dsimp only [Option.toList, List.cons_append, List.nil_append]
                          refine xG_run 1 rfl (by repeat' (first | exact trivial | assumption | exact xob_b rfl | exact xal_b rfl | (apply And.intro) | decide)) ?_
                          try dsimp only [xsto1, xsto2, xkill, xget, xset, gd_0, gd_s]
                          try rw [hp15]
                          try rw [nI_1]
                          try rw [hk1]
                          refine xG_br rfl (fun h64 => ?_) (fun h64 => ?_)
                          · refine xG_run 4 rfl (by repeat' (first | exact trivial | assumption | exact xob_b rfl | exact xal_b rfl | (apply And.intro) | decide)) ?_
                            try dsimp only [xsto1, xsto2, xkill, xget, xset, gd_0, gd_s]
                            try rw [hp15]
                            try rw [nI_1]
                            try rw [hk1]
                            try rw [hp15]
                            refine xG_run 8 rfl (by repeat' (first | exact trivial | assumption | exact xob_b rfl | exact xal_b rfl | (apply And.intro) | decide)) ?_
                            try dsimp only [xsto1, xsto2, xkill, xget, xset, gd_0, gd_s]
                            try rw [hp15]
                            try rw [nI_1]
                            try rw [hk1]
                            refine xG_run 3 rfl (by repeat' (first | exact trivial | assumption | exact xob_b rfl | exact xal_b rfl | (apply And.intro) | decide)) ?_
                            try dsimp only [xsto1, xsto2, xkill, xget, xset, gd_0, gd_s]
                            try rw [hp15]
                            try rw [nI_1]
                            try rw [hk1]
                            try rw [nI_1]
                            first
                              | (have hst2 : rdS T n (itK true (k + 1)) (true, p, [], sv) = (true, q + 1 + 1, l, 1) := by rw [itK_s (by omega), if_pos ⟨rfl, hk0⟩, rdS_app, hst, rdS, rdS, rdS, rd1_ct (it := 32) (by decide) (by decide) hc32]; exact rd1_se h55
                                 refine ih _ ⟨_, _, _, _, rfl, hst2, ?_, ?_, by have := chr_p (by first | exact h55 | exact h64) (by decide); omega, by subst hk0; exact hl, fun i hi => ?_⟩
                                 · exact (gI_ne (Or.inl (by decide))).trans (gI_self _ _ _ _)
                                 · exact rdF_t hF2 (rdF_t (rdF_i (Or.inl rfl)) (rdF_t (rdF_i (Or.inr rfl)) (rdF_t (rdF_i (Or.inl rfl)) rdF_n)))
                                 · rw [gIsI]
                                   by_cases c : i = k
                                   · rw [if_pos ⟨rfl, c⟩, c, hk0]; first | rfl | (simp (disch := omega) only [g_ne, g_eq]; rfl)
                                   · have e0 : i = 0 := by omega
                                     rw [if_neg (fun z => c z.2), e0]
                                     have e9 := htd 0 (by omega)
                                     simp (disch := omega) only [g_ne]
                                     exact e9)
                              | (have hst2 : rdS T n (itK true (k + 1)) (true, p, [], sv) = (true, q + 1 + 1, l, -1) := by rw [itK_s (by omega), if_pos ⟨rfl, hk0⟩, rdS_app, hst, rdS, rdS, rdS, rd1_ct (it := 32) (by decide) (by decide) hc32]; exact rd1_sw h55 h64
                                 refine ih _ ⟨_, _, _, _, rfl, hst2, ?_, ?_, by have := chr_p (by first | exact h55 | exact h64) (by decide); omega, by subst hk0; exact hl, fun i hi => ?_⟩
                                 · exact (gI_ne (Or.inl (by decide))).trans (gI_self _ _ _ _)
                                 · exact rdF_t hF2 (rdF_t (rdF_i (Or.inl rfl)) (rdF_t (rdF_i (Or.inr rfl)) (rdF_t (rdF_i (Or.inl rfl)) rdF_n)))
                                 · rw [gIsI]
                                   by_cases c : i = k
                                   · rw [if_pos ⟨rfl, c⟩, c, hk0]; first | rfl | (simp (disch := omega) only [g_ne, g_eq]; rfl)
                                   · have e0 : i = 0 := by omega
                                     rw [if_neg (fun z => c z.2), e0]
                                     have e9 := htd 0 (by omega)
                                     simp (disch := omega) only [g_ne]
                                     exact e9)
                          · refine xG_run 1 rfl (by repeat' (first | exact trivial | assumption | exact xob_b rfl | exact xal_b rfl | (apply And.intro) | decide)) ?_
                            try dsimp only [xsto1, xsto2, xkill, xget, xset, gd_0, gd_s]
                            try rw [hp15]
                            try rw [nI_1]
                            try rw [hk1]
                            refine r2_z rfl rfl (by first | decide | assumption) ?_
                            first
                              | (have hfull := itK_f (T := T) (n := n) (sd := true) (k := k) (m := m) (pre := [32]) (s := (true, p, [], sv)) (s' := (false, q, l, sx)) (by obtain ⟨r, hr⟩ := itK_pre (sd := true) (k := k + 1) (m := m) (by omega); exact ⟨_, by rw [hr, itK_s (by omega), show ∀ x : Nat, [32, x] = [32] ++ [x] from fun _ => rfl, ← List.append_assoc, List.append_assoc]⟩) (by rw [hst]; exact rd1_cf (by decide) (by decide) hc32) rfl
                                 rw [hfull]
                                 exact ⟨rfl, hp2, hF2, fun z => by cases z⟩)
                              | (have hfull := itK_f (T := T) (n := n) (sd := true) (k := k) (m := m) (pre := [32, 1]) (s := (true, p, [], sv)) (s' := (false, q + 1, l, sx)) (by obtain ⟨r, hr⟩ := itK_pre (sd := true) (k := k + 1) (m := m) (by omega); exact ⟨r, by rw [hr, itK_s (by omega), if_pos ⟨rfl, hk0⟩]⟩) (by rw [hst]; rw [rdS, rdS, rdS, rd1_ct (it := 32) (by decide) (by decide) hc32]; exact rd1_sf (by first | exact h55 | exact h38) h64) rfl
                                 rw [hfull]
                                 exact ⟨rfl, hp15 _, rdF_t hF2 (rdF_t (rdF_i (Or.inl rfl)) (rdF_i (Or.inr rfl))), fun z => by cases z⟩)))
          · first
              | (exfalso; first | exact absurd h17 (by decide) | exact h17 (by decide))
              | (refine xG_run 1 rfl (by repeat' (first | exact trivial | assumption | exact xob_b rfl | exact xal_b rfl | (apply And.intro) | decide)) ?_
                 try dsimp only [xsto1, xsto2, xkill, xget, xset, gd_0, gd_s]
                 try rw [hp15]
                 try rw [nI_1]
                 try rw [hk1]
                 refine r2_z rfl rfl (by first | decide | assumption) ?_
                 first
                   | (have hfull := itK_f (T := T) (n := n) (sd := true) (k := k) (m := m) (pre := [32]) (s := (true, p, [], sv)) (s' := (false, q, l, sx)) (by obtain ⟨r, hr⟩ := itK_pre (sd := true) (k := k + 1) (m := m) (by omega); exact ⟨_, by rw [hr, itK_s (by omega), show ∀ x : Nat, [32, x] = [32] ++ [x] from fun _ => rfl, ← List.append_assoc, List.append_assoc]⟩) (by rw [hst]; exact rd1_cf (by decide) (by decide) hc32) rfl
                      rw [hfull]
                      exact ⟨rfl, hp2, hF2, fun z => by cases z⟩)
                   | (have hfull := itK_f (T := T) (n := n) (sd := true) (k := k) (m := m) (pre := [32, 1]) (s := (true, p, [], sv)) (s' := (false, q + 1, l, sx)) (by obtain ⟨r, hr⟩ := itK_pre (sd := true) (k := k + 1) (m := m) (by omega); exact ⟨r, by rw [hr, itK_s (by omega), if_pos ⟨rfl, hk0⟩]⟩) (by rw [hst]; rw [rdS, rdS, rdS, rd1_ct (it := 32) (by decide) (by decide) hc32]; exact rd1_sf (by first | exact h55 | exact h38) h64) rfl
                      rw [hfull]
                      exact ⟨rfl, hp15 _, rdF_t hF2 (rdF_t (rdF_i (Or.inl rfl)) (rdF_i (Or.inr rfl))), fun z => by cases z⟩))
        · dsimp only [Option.toList, List.cons_append, List.nil_append]
          refine xG_br rfl (fun h17 => ?_) (fun h17 => ?_)
          · first
              | (exfalso; first | exact absurd h17 (by decide) | exact h17 (by decide))
              | (refine xG_run 1 rfl (by repeat' (first | exact trivial | assumption | exact xob_b rfl | exact xal_b rfl | (apply And.intro) | decide)) ?_
                 try dsimp only [xsto1, xsto2, xkill, xget, xset, gd_0, gd_s]
                 try rw [hp15]
                 try rw [nI_1]
                 try rw [hk1]
                 refine xG_brF rfl (by decide) ?_
                 refine xG_run 2 rfl (by repeat' (first | exact trivial | assumption | exact xob_b rfl | exact xal_b rfl | (apply And.intro) | decide)) ?_
                 try dsimp only [xsto1, xsto2, xkill, xget, xset, gd_0, gd_s]
                 try rw [hp15]
                 try rw [nI_1]
                 try rw [hk1]
                 refine xG_brF rfl (fun z => z (by rw [hk0]; rfl)) ?_
                 refine xG_run 2 rfl (by repeat' (first | exact trivial | assumption | exact xob_b rfl | exact xal_b rfl | (apply And.intro) | decide)) ?_
                 try dsimp only [xsto1, xsto2, xkill, xget, xset, gd_0, gd_s]
                 try rw [hp15]
                 try rw [nI_1]
                 try rw [hk1]
                 refine xG_c2 0 rfl (by repeat' (first | exact trivial | assumption | exact xob_b rfl | exact xal_b rfl | (apply And.intro) | decide)) rfl rfl (by decide) cw_X12_sign (d' := d - 1) (e_sign (p := q + 1) (rT_F hT2 (rdF_i (Or.inl rfl))) (gI_self _ _ _ _) (by omega)) (by omega) ?_
                 rintro v M' ⟨rfl, hM⟩
                 subst M'
                 dsimp only [Option.toList, List.cons_append, List.nil_append]
                 refine xG_run 1 rfl (by repeat' (first | exact trivial | assumption | exact xob_b rfl | exact xal_b rfl | (apply And.intro) | decide)) ?_
                 try dsimp only [xsto1, xsto2, xkill, xget, xset, gd_0, gd_s]
                 try rw [hp15]
                 try rw [nI_1]
                 try rw [hk1]
                 refine xG_br rfl (fun h38 => ?_) (fun h38 => ?_)
                 · refine xG_run 3 rfl (by repeat' (first | exact trivial | assumption | exact xob_b rfl | exact xal_b rfl | (apply And.intro) | decide)) ?_
                   try dsimp only [xsto1, xsto2, xkill, xget, xset, gd_0, gd_s]
                   try rw [hp15]
                   try rw [nI_1]
                   try rw [hk1]
                   refine xG_c2 0 rfl (by repeat' (first | exact trivial | assumption | exact xob_b rfl | exact xal_b rfl | (apply And.intro) | decide)) rfl rfl (by decide) cw_X12_sign (d' := d - 1) (e_sign (p := q + 1) (rT_F hT2 (rdF_t (rdF_i (Or.inl rfl)) (rdF_i (Or.inr rfl)))) (hp15 _) (by omega)) (by omega) ?_
                   rintro v M' ⟨rfl, hM⟩
                   subst M'
                   dsimp only [Option.toList, List.cons_append, List.nil_append]
                   refine xG_run 1 rfl (by repeat' (first | exact trivial | assumption | exact xob_b rfl | exact xal_b rfl | (apply And.intro) | decide)) ?_
                   try dsimp only [xsto1, xsto2, xkill, xget, xset, gd_0, gd_s]
                   try rw [hp15]
                   try rw [nI_1]
                   try rw [hk1]
                   refine xG_br rfl (fun h55 => ?_) (fun h55 => ?_)
                   · first
                       | (exfalso; first | exact h38 h55 | exact h55 (Decidable.not_not.mp h38) | exact absurd h55 h38)
                       | (refine xG_run 4 rfl (by repeat' (first | exact trivial | assumption | exact xob_b rfl | exact xal_b rfl | (apply And.intro) | decide)) ?_
                          try dsimp only [xsto1, xsto2, xkill, xget, xset, gd_0, gd_s]
                          try rw [hp15]
                          try rw [nI_1]
                          try rw [hk1]
                          try rw [hp15]
                          refine xG_run 8 rfl (by repeat' (first | exact trivial | assumption | exact xob_b rfl | exact xal_b rfl | (apply And.intro) | decide)) ?_
                          try dsimp only [xsto1, xsto2, xkill, xget, xset, gd_0, gd_s]
                          try rw [hp15]
                          try rw [nI_1]
                          try rw [hk1]
                          refine xG_run 3 rfl (by repeat' (first | exact trivial | assumption | exact xob_b rfl | exact xal_b rfl | (apply And.intro) | decide)) ?_
                          try dsimp only [xsto1, xsto2, xkill, xget, xset, gd_0, gd_s]
                          try rw [hp15]
                          try rw [nI_1]
                          try rw [hk1]
                          try rw [nI_1]
                          first
                            | (have hst2 : rdS T n (itK true (k + 1)) (true, p, [], sv) = (true, q + 1 + 1, l, 1) := by rw [itK_s (by omega), if_pos ⟨rfl, hk0⟩, rdS_app, hst, rdS, rdS, rdS, rd1_ct (it := 32) (by decide) (by decide) hc32]; exact rd1_se h55
                               refine ih _ ⟨_, _, _, _, rfl, hst2, ?_, ?_, by have := chr_p (by first | exact h55 | exact h64) (by decide); omega, by subst hk0; exact hl, fun i hi => ?_⟩
                               · exact (gI_ne (Or.inl (by decide))).trans (gI_self _ _ _ _)
                               · exact rdF_t hF2 (rdF_t (rdF_i (Or.inl rfl)) (rdF_t (rdF_i (Or.inr rfl)) (rdF_t (rdF_i (Or.inl rfl)) rdF_n)))
                               · rw [gIsI]
                                 by_cases c : i = k
                                 · rw [if_pos ⟨rfl, c⟩, c, hk0]; first | rfl | (simp (disch := omega) only [g_ne, g_eq]; rfl)
                                 · have e0 : i = 0 := by omega
                                   rw [if_neg (fun z => c z.2), e0]
                                   have e9 := htd 0 (by omega)
                                   simp (disch := omega) only [g_ne]
                                   exact e9)
                            | (have hst2 : rdS T n (itK true (k + 1)) (true, p, [], sv) = (true, q + 1 + 1, l, -1) := by rw [itK_s (by omega), if_pos ⟨rfl, hk0⟩, rdS_app, hst, rdS, rdS, rdS, rd1_ct (it := 32) (by decide) (by decide) hc32]; exact rd1_sw h55 h64
                               refine ih _ ⟨_, _, _, _, rfl, hst2, ?_, ?_, by have := chr_p (by first | exact h55 | exact h64) (by decide); omega, by subst hk0; exact hl, fun i hi => ?_⟩
                               · exact (gI_ne (Or.inl (by decide))).trans (gI_self _ _ _ _)
                               · exact rdF_t hF2 (rdF_t (rdF_i (Or.inl rfl)) (rdF_t (rdF_i (Or.inr rfl)) (rdF_t (rdF_i (Or.inl rfl)) rdF_n)))
                               · rw [gIsI]
                                 by_cases c : i = k
                                 · rw [if_pos ⟨rfl, c⟩, c, hk0]; first | rfl | (simp (disch := omega) only [g_ne, g_eq]; rfl)
                                 · have e0 : i = 0 := by omega
                                   rw [if_neg (fun z => c z.2), e0]
                                   have e9 := htd 0 (by omega)
                                   simp (disch := omega) only [g_ne]
                                   exact e9))
                   · first
                       | (exfalso; first | exact h38 h55 | exact h55 (Decidable.not_not.mp h38) | exact absurd h55 h38)
                       | (refine xG_run 1 rfl (by repeat' (first | exact trivial | assumption | exact xob_b rfl | exact xal_b rfl | (apply And.intro) | decide)) ?_
                          try dsimp only [xsto1, xsto2, xkill, xget, xset, gd_0, gd_s]
                          try rw [hp15]
                          try rw [nI_1]
                          try rw [hk1]
                          refine xG_c2 0 rfl (by repeat' (first | exact trivial | assumption | exact xob_b rfl | exact xal_b rfl | (apply And.intro) | decide)) rfl rfl (by decide) cw_X12_sign (d' := d - 1) (e_sign (p := q + 1) (rT_F hT2 (rdF_t (rdF_i (Or.inl rfl)) (rdF_i (Or.inr rfl)))) (hp15 _) (by omega)) (by omega) ?_
                          rintro v M' ⟨rfl, hM⟩
                          subst M'
                          dsimp only [Option.toList, List.cons_append, List.nil_append]
                          refine xG_run 1 rfl (by repeat' (first | exact trivial | assumption | exact xob_b rfl | exact xal_b rfl | (apply And.intro) | decide)) ?_
                          try dsimp only [xsto1, xsto2, xkill, xget, xset, gd_0, gd_s]
                          try rw [hp15]
                          try rw [nI_1]
                          try rw [hk1]
                          refine xG_br rfl (fun h64 => ?_) (fun h64 => ?_)
                          · refine xG_run 4 rfl (by repeat' (first | exact trivial | assumption | exact xob_b rfl | exact xal_b rfl | (apply And.intro) | decide)) ?_
                            try dsimp only [xsto1, xsto2, xkill, xget, xset, gd_0, gd_s]
                            try rw [hp15]
                            try rw [nI_1]
                            try rw [hk1]
                            try rw [hp15]
                            refine xG_run 8 rfl (by repeat' (first | exact trivial | assumption | exact xob_b rfl | exact xal_b rfl | (apply And.intro) | decide)) ?_
                            try dsimp only [xsto1, xsto2, xkill, xget, xset, gd_0, gd_s]
                            try rw [hp15]
                            try rw [nI_1]
                            try rw [hk1]
                            refine xG_run 3 rfl (by repeat' (first | exact trivial | assumption | exact xob_b rfl | exact xal_b rfl | (apply And.intro) | decide)) ?_
                            try dsimp only [xsto1, xsto2, xkill, xget, xset, gd_0, gd_s]
                            try rw [hp15]
                            try rw [nI_1]
                            try rw [hk1]
                            try rw [nI_1]
                            first
                              | (have hst2 : rdS T n (itK true (k + 1)) (true, p, [], sv) = (true, q + 1 + 1, l, 1) := by rw [itK_s (by omega), if_pos ⟨rfl, hk0⟩, rdS_app, hst, rdS, rdS, rdS, rd1_ct (it := 32) (by decide) (by decide) hc32]; exact rd1_se h55
                                 refine ih _ ⟨_, _, _, _, rfl, hst2, ?_, ?_, by have := chr_p (by first | exact h55 | exact h64) (by decide); omega, by subst hk0; exact hl, fun i hi => ?_⟩
                                 · exact (gI_ne (Or.inl (by decide))).trans (gI_self _ _ _ _)
                                 · exact rdF_t hF2 (rdF_t (rdF_i (Or.inl rfl)) (rdF_t (rdF_i (Or.inr rfl)) (rdF_t (rdF_i (Or.inl rfl)) rdF_n)))
                                 · rw [gIsI]
                                   by_cases c : i = k
                                   · rw [if_pos ⟨rfl, c⟩, c, hk0]; first | rfl | (simp (disch := omega) only [g_ne, g_eq]; rfl)
                                   · have e0 : i = 0 := by omega
                                     rw [if_neg (fun z => c z.2), e0]
                                     have e9 := htd 0 (by omega)
                                     simp (disch := omega) only [g_ne]
                                     exact e9)
                              | (have hst2 : rdS T n (itK true (k + 1)) (true, p, [], sv) = (true, q + 1 + 1, l, -1) := by rw [itK_s (by omega), if_pos ⟨rfl, hk0⟩, rdS_app, hst, rdS, rdS, rdS, rd1_ct (it := 32) (by decide) (by decide) hc32]; exact rd1_sw h55 h64
                                 refine ih _ ⟨_, _, _, _, rfl, hst2, ?_, ?_, by have := chr_p (by first | exact h55 | exact h64) (by decide); omega, by subst hk0; exact hl, fun i hi => ?_⟩
                                 · exact (gI_ne (Or.inl (by decide))).trans (gI_self _ _ _ _)
                                 · exact rdF_t hF2 (rdF_t (rdF_i (Or.inl rfl)) (rdF_t (rdF_i (Or.inr rfl)) (rdF_t (rdF_i (Or.inl rfl)) rdF_n)))
                                 · rw [gIsI]
                                   by_cases c : i = k
                                   · rw [if_pos ⟨rfl, c⟩, c, hk0]; first | rfl | (simp (disch := omega) only [g_ne, g_eq]; rfl)
                                   · have e0 : i = 0 := by omega
                                     rw [if_neg (fun z => c z.2), e0]
                                     have e9 := htd 0 (by omega)
                                     simp (disch := omega) only [g_ne]
                                     exact e9)
                          · refine xG_run 1 rfl (by repeat' (first | exact trivial | assumption | exact xob_b rfl | exact xal_b rfl | (apply And.intro) | decide)) ?_
                            try dsimp only [xsto1, xsto2, xkill, xget, xset, gd_0, gd_s]
                            try rw [hp15]
                            try rw [nI_1]
                            try rw [hk1]
                            refine r2_z rfl rfl (by first | decide | assumption) ?_
                            first
                              | (have hfull := itK_f (T := T) (n := n) (sd := true) (k := k) (m := m) (pre := [32]) (s := (true, p, [], sv)) (s' := (false, q, l, sx)) (by obtain ⟨r, hr⟩ := itK_pre (sd := true) (k := k + 1) (m := m) (by omega); exact ⟨_, by rw [hr, itK_s (by omega), show ∀ x : Nat, [32, x] = [32] ++ [x] from fun _ => rfl, ← List.append_assoc, List.append_assoc]⟩) (by rw [hst]; exact rd1_cf (by decide) (by decide) hc32) rfl
                                 rw [hfull]
                                 exact ⟨rfl, hp2, hF2, fun z => by cases z⟩)
                              | (have hfull := itK_f (T := T) (n := n) (sd := true) (k := k) (m := m) (pre := [32, 1]) (s := (true, p, [], sv)) (s' := (false, q + 1, l, sx)) (by obtain ⟨r, hr⟩ := itK_pre (sd := true) (k := k + 1) (m := m) (by omega); exact ⟨r, by rw [hr, itK_s (by omega), if_pos ⟨rfl, hk0⟩]⟩) (by rw [hst]; rw [rdS, rdS, rdS, rd1_ct (it := 32) (by decide) (by decide) hc32]; exact rd1_sf (by first | exact h55 | exact h38) h64) rfl
                                 rw [hfull]
                                 exact ⟨rfl, hp15 _, rdF_t hF2 (rdF_t (rdF_i (Or.inl rfl)) (rdF_i (Or.inr rfl))), fun z => by cases z⟩))
                 · refine xG_run 4 rfl (by repeat' (first | exact trivial | assumption | exact xob_b rfl | exact xal_b rfl | (apply And.intro) | decide)) ?_
                   try dsimp only [xsto1, xsto2, xkill, xget, xset, gd_0, gd_s]
                   try rw [hp15]
                   try rw [nI_1]
                   try rw [hk1]
                   refine xG_c2 0 rfl (by repeat' (first | exact trivial | assumption | exact xob_b rfl | exact xal_b rfl | (apply And.intro) | decide)) rfl rfl (by decide) cw_X12_sign (d' := d - 1) (e_sign (p := q + 1) (rT_F hT2 (rdF_t (rdF_i (Or.inl rfl)) (rdF_i (Or.inr rfl)))) (hp15 _) (by omega)) (by omega) ?_
                   rintro v M' ⟨rfl, hM⟩
                   subst M'
                   dsimp only [Option.toList, List.cons_append, List.nil_append]
                   refine xG_run 1 rfl (by repeat' (first | exact trivial | assumption | exact xob_b rfl | exact xal_b rfl | (apply And.intro) | decide)) ?_
                   try dsimp only [xsto1, xsto2, xkill, xget, xset, gd_0, gd_s]
                   try rw [hp15]
                   try rw [nI_1]
                   try rw [hk1]
                   refine xG_br rfl (fun h55 => ?_) (fun h55 => ?_)
                   · first
                       | (exfalso; first | exact h38 h55 | exact h55 (Decidable.not_not.mp h38) | exact absurd h55 h38)
                       | (refine xG_run 4 rfl (by repeat' (first | exact trivial | assumption | exact xob_b rfl | exact xal_b rfl | (apply And.intro) | decide)) ?_
                          try dsimp only [xsto1, xsto2, xkill, xget, xset, gd_0, gd_s]
                          try rw [hp15]
                          try rw [nI_1]
                          try rw [hk1]
                          try rw [hp15]
                          refine xG_run 8 rfl (by repeat' (first | exact trivial | assumption | exact xob_b rfl | exact xal_b rfl | (apply And.intro) | decide)) ?_
                          try dsimp only [xsto1, xsto2, xkill, xget, xset, gd_0, gd_s]
                          try rw [hp15]
                          try rw [nI_1]
                          try rw [hk1]
                          refine xG_run 3 rfl (by repeat' (first | exact trivial | assumption | exact xob_b rfl | exact xal_b rfl | (apply And.intro) | decide)) ?_
                          try dsimp only [xsto1, xsto2, xkill, xget, xset, gd_0, gd_s]
                          try rw [hp15]
                          try rw [nI_1]
                          try rw [hk1]
                          try rw [nI_1]
                          first
                            | (have hst2 : rdS T n (itK true (k + 1)) (true, p, [], sv) = (true, q + 1 + 1, l, 1) := by rw [itK_s (by omega), if_pos ⟨rfl, hk0⟩, rdS_app, hst, rdS, rdS, rdS, rd1_ct (it := 32) (by decide) (by decide) hc32]; exact rd1_se h55
                               refine ih _ ⟨_, _, _, _, rfl, hst2, ?_, ?_, by have := chr_p (by first | exact h55 | exact h64) (by decide); omega, by subst hk0; exact hl, fun i hi => ?_⟩
                               · exact (gI_ne (Or.inl (by decide))).trans (gI_self _ _ _ _)
                               · exact rdF_t hF2 (rdF_t (rdF_i (Or.inl rfl)) (rdF_t (rdF_i (Or.inr rfl)) (rdF_t (rdF_i (Or.inl rfl)) rdF_n)))
                               · rw [gIsI]
                                 by_cases c : i = k
                                 · rw [if_pos ⟨rfl, c⟩, c, hk0]; first | rfl | (simp (disch := omega) only [g_ne, g_eq]; rfl)
                                 · have e0 : i = 0 := by omega
                                   rw [if_neg (fun z => c z.2), e0]
                                   have e9 := htd 0 (by omega)
                                   simp (disch := omega) only [g_ne]
                                   exact e9)
                            | (have hst2 : rdS T n (itK true (k + 1)) (true, p, [], sv) = (true, q + 1 + 1, l, -1) := by rw [itK_s (by omega), if_pos ⟨rfl, hk0⟩, rdS_app, hst, rdS, rdS, rdS, rd1_ct (it := 32) (by decide) (by decide) hc32]; exact rd1_sw h55 h64
                               refine ih _ ⟨_, _, _, _, rfl, hst2, ?_, ?_, by have := chr_p (by first | exact h55 | exact h64) (by decide); omega, by subst hk0; exact hl, fun i hi => ?_⟩
                               · exact (gI_ne (Or.inl (by decide))).trans (gI_self _ _ _ _)
                               · exact rdF_t hF2 (rdF_t (rdF_i (Or.inl rfl)) (rdF_t (rdF_i (Or.inr rfl)) (rdF_t (rdF_i (Or.inl rfl)) rdF_n)))
                               · rw [gIsI]
                                 by_cases c : i = k
                                 · rw [if_pos ⟨rfl, c⟩, c, hk0]; first | rfl | (simp (disch := omega) only [g_ne, g_eq]; rfl)
                                 · have e0 : i = 0 := by omega
                                   rw [if_neg (fun z => c z.2), e0]
                                   have e9 := htd 0 (by omega)
                                   simp (disch := omega) only [g_ne]
                                   exact e9))
                   · first
                       | (exfalso; first | exact h38 h55 | exact h55 (Decidable.not_not.mp h38) | exact absurd h55 h38)
                       | (refine xG_run 1 rfl (by repeat' (first | exact trivial | assumption | exact xob_b rfl | exact xal_b rfl | (apply And.intro) | decide)) ?_
                          try dsimp only [xsto1, xsto2, xkill, xget, xset, gd_0, gd_s]
                          try rw [hp15]
                          try rw [nI_1]
                          try rw [hk1]
                          refine xG_c2 0 rfl (by repeat' (first | exact trivial | assumption | exact xob_b rfl | exact xal_b rfl | (apply And.intro) | decide)) rfl rfl (by decide) cw_X12_sign (d' := d - 1) (e_sign (p := q + 1) (rT_F hT2 (rdF_t (rdF_i (Or.inl rfl)) (rdF_i (Or.inr rfl)))) (hp15 _) (by omega)) (by omega) ?_
                          rintro v M' ⟨rfl, hM⟩
                          subst M'
                          dsimp only [Option.toList, List.cons_append, List.nil_append]
                          refine xG_run 1 rfl (by repeat' (first | exact trivial | assumption | exact xob_b rfl | exact xal_b rfl | (apply And.intro) | decide)) ?_
                          try dsimp only [xsto1, xsto2, xkill, xget, xset, gd_0, gd_s]
                          try rw [hp15]
                          try rw [nI_1]
                          try rw [hk1]
                          refine xG_br rfl (fun h64 => ?_) (fun h64 => ?_)
                          · refine xG_run 4 rfl (by repeat' (first | exact trivial | assumption | exact xob_b rfl | exact xal_b rfl | (apply And.intro) | decide)) ?_
                            try dsimp only [xsto1, xsto2, xkill, xget, xset, gd_0, gd_s]
                            try rw [hp15]
                            try rw [nI_1]
                            try rw [hk1]
                            try rw [hp15]
                            refine xG_run 8 rfl (by repeat' (first | exact trivial | assumption | exact xob_b rfl | exact xal_b rfl | (apply And.intro) | decide)) ?_
                            try dsimp only [xsto1, xsto2, xkill, xget, xset, gd_0, gd_s]
                            try rw [hp15]
                            try rw [nI_1]
                            try rw [hk1]
                            refine xG_run 3 rfl (by repeat' (first | exact trivial | assumption | exact xob_b rfl | exact xal_b rfl | (apply And.intro) | decide)) ?_
                            try dsimp only [xsto1, xsto2, xkill, xget, xset, gd_0, gd_s]
                            try rw [hp15]
                            try rw [nI_1]
                            try rw [hk1]
                            try rw [nI_1]
                            first
                              | (have hst2 : rdS T n (itK true (k + 1)) (true, p, [], sv) = (true, q + 1 + 1, l, 1) := by rw [itK_s (by omega), if_pos ⟨rfl, hk0⟩, rdS_app, hst, rdS, rdS, rdS, rd1_ct (it := 32) (by decide) (by decide) hc32]; exact rd1_se h55
                                 refine ih _ ⟨_, _, _, _, rfl, hst2, ?_, ?_, by have := chr_p (by first | exact h55 | exact h64) (by decide); omega, by subst hk0; exact hl, fun i hi => ?_⟩
                                 · exact (gI_ne (Or.inl (by decide))).trans (gI_self _ _ _ _)
                                 · exact rdF_t hF2 (rdF_t (rdF_i (Or.inl rfl)) (rdF_t (rdF_i (Or.inr rfl)) (rdF_t (rdF_i (Or.inl rfl)) rdF_n)))
                                 · rw [gIsI]
                                   by_cases c : i = k
                                   · rw [if_pos ⟨rfl, c⟩, c, hk0]; first | rfl | (simp (disch := omega) only [g_ne, g_eq]; rfl)
                                   · have e0 : i = 0 := by omega
                                     rw [if_neg (fun z => c z.2), e0]
                                     have e9 := htd 0 (by omega)
                                     simp (disch := omega) only [g_ne]
                                     exact e9)
                              | (have hst2 : rdS T n (itK true (k + 1)) (true, p, [], sv) = (true, q + 1 + 1, l, -1) := by rw [itK_s (by omega), if_pos ⟨rfl, hk0⟩, rdS_app, hst, rdS, rdS, rdS, rd1_ct (it := 32) (by decide) (by decide) hc32]; exact rd1_sw h55 h64
                                 refine ih _ ⟨_, _, _, _, rfl, hst2, ?_, ?_, by have := chr_p (by first | exact h55 | exact h64) (by decide); omega, by subst hk0; exact hl, fun i hi => ?_⟩
                                 · exact (gI_ne (Or.inl (by decide))).trans (gI_self _ _ _ _)
                                 · exact rdF_t hF2 (rdF_t (rdF_i (Or.inl rfl)) (rdF_t (rdF_i (Or.inr rfl)) (rdF_t (rdF_i (Or.inl rfl)) rdF_n)))
                                 · rw [gIsI]
                                   by_cases c : i = k
                                   · rw [if_pos ⟨rfl, c⟩, c, hk0]; first | rfl | (simp (disch := omega) only [g_ne, g_eq]; rfl)
                                   · have e0 : i = 0 := by omega
                                     rw [if_neg (fun z => c z.2), e0]
                                     have e9 := htd 0 (by omega)
                                     simp (disch := omega) only [g_ne]
                                     exact e9)
                          · refine xG_run 1 rfl (by repeat' (first | exact trivial | assumption | exact xob_b rfl | exact xal_b rfl | (apply And.intro) | decide)) ?_
                            try dsimp only [xsto1, xsto2, xkill, xget, xset, gd_0, gd_s]
                            try rw [hp15]
                            try rw [nI_1]
                            try rw [hk1]
                            refine r2_z rfl rfl (by first | decide | assumption) ?_
                            first
                              | (have hfull := itK_f (T := T) (n := n) (sd := true) (k := k) (m := m) (pre := [32]) (s := (true, p, [], sv)) (s' := (false, q, l, sx)) (by obtain ⟨r, hr⟩ := itK_pre (sd := true) (k := k + 1) (m := m) (by omega); exact ⟨_, by rw [hr, itK_s (by omega), show ∀ x : Nat, [32, x] = [32] ++ [x] from fun _ => rfl, ← List.append_assoc, List.append_assoc]⟩) (by rw [hst]; exact rd1_cf (by decide) (by decide) hc32) rfl
                                 rw [hfull]
                                 exact ⟨rfl, hp2, hF2, fun z => by cases z⟩)
                              | (have hfull := itK_f (T := T) (n := n) (sd := true) (k := k) (m := m) (pre := [32, 1]) (s := (true, p, [], sv)) (s' := (false, q + 1, l, sx)) (by obtain ⟨r, hr⟩ := itK_pre (sd := true) (k := k + 1) (m := m) (by omega); exact ⟨r, by rw [hr, itK_s (by omega), if_pos ⟨rfl, hk0⟩]⟩) (by rw [hst]; rw [rdS, rdS, rdS, rd1_ct (it := 32) (by decide) (by decide) hc32]; exact rd1_sf (by first | exact h55 | exact h38) h64) rfl
                                 rw [hfull]
                                 exact ⟨rfl, hp15 _, rdF_t hF2 (rdF_t (rdF_i (Or.inl rfl)) (rdF_i (Or.inr rfl))), fun z => by cases z⟩)))
          · first
              | (exfalso; first | exact absurd h17 (by decide) | exact h17 (by decide))
              | (refine xG_run 1 rfl (by repeat' (first | exact trivial | assumption | exact xob_b rfl | exact xal_b rfl | (apply And.intro) | decide)) ?_
                 try dsimp only [xsto1, xsto2, xkill, xget, xset, gd_0, gd_s]
                 try rw [hp15]
                 try rw [nI_1]
                 try rw [hk1]
                 refine r2_z rfl rfl (by first | decide | assumption) ?_
                 first
                   | (have hfull := itK_f (T := T) (n := n) (sd := true) (k := k) (m := m) (pre := [32]) (s := (true, p, [], sv)) (s' := (false, q, l, sx)) (by obtain ⟨r, hr⟩ := itK_pre (sd := true) (k := k + 1) (m := m) (by omega); exact ⟨_, by rw [hr, itK_s (by omega), show ∀ x : Nat, [32, x] = [32] ++ [x] from fun _ => rfl, ← List.append_assoc, List.append_assoc]⟩) (by rw [hst]; exact rd1_cf (by decide) (by decide) hc32) rfl
                      rw [hfull]
                      exact ⟨rfl, hp2, hF2, fun z => by cases z⟩)
                   | (have hfull := itK_f (T := T) (n := n) (sd := true) (k := k) (m := m) (pre := [32, 1]) (s := (true, p, [], sv)) (s' := (false, q + 1, l, sx)) (by obtain ⟨r, hr⟩ := itK_pre (sd := true) (k := k + 1) (m := m) (by omega); exact ⟨r, by rw [hr, itK_s (by omega), if_pos ⟨rfl, hk0⟩]⟩) (by rw [hst]; rw [rdS, rdS, rdS, rd1_ct (it := 32) (by decide) (by decide) hc32]; exact rd1_sf (by first | exact h55 | exact h38) h64) rfl
                      rw [hfull]
                      exact ⟨rfl, hp15 _, rdF_t hF2 (rdF_t (rdF_i (Or.inl rfl)) (rdF_i (Or.inr rfl))), fun z => by cases z⟩))
      · have hk19 : ¬ k = 1 := hk0
        refine xG_run 2 rfl (by repeat' (first | exact trivial | assumption | exact xob_b rfl | exact xal_b rfl | (apply And.intro) | decide)) ?_
        try dsimp only [xsto1, xsto2, xkill, xget, xset, gd_0, gd_s]
        try rw [rn_v]
        try rw [hk1]
        refine xG_brF rfl (nI_ge hk (by omega)) ?_
        refine xG_run 1 rfl (by repeat' (first | exact trivial | assumption | exact xob_b rfl | exact xal_b rfl | (apply And.intro) | decide)) ?_
        try dsimp only [xsto1, xsto2, xkill, xget, xset, gd_0, gd_s]
        try rw [rn_v]
        try rw [hk1]
        refine xG_brF rfl (nI_nle0 (by omega)) ?_
        refine xG_run 2 rfl (by repeat' (first | exact trivial | assumption | exact xob_b rfl | exact xal_b rfl | (apply And.intro) | decide)) ?_
        try dsimp only [xsto1, xsto2, xkill, xget, xset, gd_0, gd_s]
        try rw [rn_v]
        try rw [hk1]
        refine xG_c2 1 rfl (by repeat' (first | exact trivial | assumption | exact xob_b rfl | exact xal_b rfl | (apply And.intro) | decide)) rfl rfl (by decide) cw_X12_takes (d' := d - 1) (e_takes (p := q) (c := 32) hT2 hp2 (by omega) (by omega)) (by omega) ?_
        rintro v M3 (⟨hc32, rfl, rfl⟩ | ⟨hc32, rfl, rfl⟩)
        · dsimp only [Option.toList, List.cons_append, List.nil_append]
          refine xG_br rfl (fun h17 => ?_) (fun h17 => ?_)
          · first
              | (exfalso; first | exact absurd h17 (by decide) | exact h17 (by decide))
              | (refine xG_run 1 rfl (by repeat' (first | exact trivial | assumption | exact xob_b rfl | exact xal_b rfl | (apply And.intro) | decide)) ?_
                 try dsimp only [xsto1, xsto2, xkill, xget, xset, gd_0, gd_s]
                 try rw [rn_v]
                 try rw [hk1]
                 refine xG_brF rfl (by decide) ?_
                 refine xG_run 2 rfl (by repeat' (first | exact trivial | assumption | exact xob_b rfl | exact xal_b rfl | (apply And.intro) | decide)) ?_
                 try dsimp only [xsto1, xsto2, xkill, xget, xset, gd_0, gd_s]
                 try rw [rn_v]
                 try rw [hk1]
                 refine xG_brT rfl (fun z => hk19 ((nI_eq (a := k) (b := 1) (by omega) (by omega)).mp z)) ?_
                 refine xG_run 1 rfl (by repeat' (first | exact trivial | assumption | exact xob_b rfl | exact xal_b rfl | (apply And.intro) | decide)) ?_
                 try dsimp only [xsto1, xsto2, xkill, xget, xset, gd_0, gd_s]
                 try rw [rn_v]
                 try rw [hk1]
                 refine xG_c2 0 rfl (by repeat' (first | exact trivial | assumption | exact xob_b rfl | exact xal_b rfl | (apply And.intro) | decide)) rfl rfl (by decide) cw_X12_readsNumber (d' := d - 1) (e_readsNumber (p := q + 1) (rT_F hT2 (rdF_i (Or.inl rfl))) (gI_self _ _ _ _) (by omega) (by omega)) (by omega) ?_
                 rintro v M4 (⟨hnl, rfl, rfl⟩ | ⟨hnl, rfl, rfl⟩)
                 · dsimp only [Option.toList, List.cons_append, List.nil_append]
                   have hlt32 := chr_p hc32 (by decide)
                   have hnv := nL_n (T := T) (n := n) (p := q + 1) (by omega)
                   refine xG_br rfl (fun h86 => ?_) (fun h86 => ?_)
                   · first
                       | (exfalso; first | exact absurd h86 (by decide) | exact h86 (by decide))
                       | (refine xG_run 8 rfl (by repeat' (first | exact trivial | assumption | exact xob_b rfl | exact xal_b rfl | (apply And.intro) | decide)) ?_
                          try dsimp only [xsto1, xsto2, xkill, xget, xset, gd_0, gd_s]
                          try rw [rn_v]
                          try rw [hk1]
                          rw [nI_1]
                          have hst2 : rdS T n (itK true (k + 1)) (true, p, [], sv) = (true, q + 1 + nL T n (q + 1), l ++ [nV T n (q + 1)], sx) := by rw [itK_s (by omega), if_neg (by simp [hk19]), rdS_app, hst, rdS, rdS, rdS, rd1_ct (it := 32) (by decide) (by decide) hc32]; exact rd1_nt ⟨rfl, rfl⟩ hnl
                          refine ih _ ⟨_, _, _, _, rfl, hst2, ?_, ?_, by omega, lnK_n hl (by simp [hk19]), fun i hi => ?_⟩
                          · exact (gI_ne (Or.inl (by decide))).trans rn_p
                          · exact rdF_t hF2 (rdF_t (rdF_i (Or.inl rfl)) (rdF_t rdF_rn rdF_n))
                          · rw [gIsI]
                            by_cases c : i = k
                            · rw [if_pos ⟨rfl, c⟩, c]; exact (td_n hl (by simp [hk19]) (by omega)).symm
                            · rw [if_neg (fun z => c z.2), td_o (q := q) hl (by simp [hk19]) (by omega), ← htd i (by omega)]
                              exact (gI_ne (Or.inl (by decide))).trans ((gI_ne (Or.inl (by decide))).trans (gI_ne (Or.inl (by decide)))))
                   · first
                       | (exfalso; first | exact absurd h86 (by decide) | exact h86 (by decide))
                       | (refine xG_run 1 rfl (by repeat' (first | exact trivial | assumption | exact xob_b rfl | exact xal_b rfl | (apply And.intro) | decide)) ?_
                          try dsimp only [xsto1, xsto2, xkill, xget, xset, gd_0, gd_s]
                          try rw [rn_v]
                          try rw [hk1]
                          refine r2_z rfl rfl (by first | decide | assumption) ?_
                          first
                            | (have hfull := itK_f (T := T) (n := n) (sd := true) (k := k) (m := m) (pre := [32]) (s := (true, p, [], sv)) (s' := (false, q, l, sx)) (by obtain ⟨r, hr⟩ := itK_pre (sd := true) (k := k + 1) (m := m) (by omega); exact ⟨_, by rw [hr, itK_s (by omega), show ∀ x : Nat, [32, x] = [32] ++ [x] from fun _ => rfl, ← List.append_assoc, List.append_assoc]⟩) (by rw [hst]; exact rd1_cf (by decide) (by decide) hc32) rfl
                               rw [hfull]
                               exact ⟨rfl, hp2, hF2, fun z => by cases z⟩)
                            | (have hfull := itK_f (T := T) (n := n) (sd := true) (k := k) (m := m) (pre := [32, 0]) (s := (true, p, [], sv)) (s' := (false, q + 1, l, sx)) (by obtain ⟨r, hr⟩ := itK_pre (sd := true) (k := k + 1) (m := m) (by omega); exact ⟨r, by rw [hr]; rw [itK_s (by omega), if_neg (by simp [hk19])]⟩) (by rw [hst]; rw [rdS, rdS, rdS, rd1_ct (it := 32) (by decide) (by decide) hc32]; exact rd1_nf hnl) rfl
                               rw [hfull]
                               exact ⟨rfl, gI_self _ _ _ _, rdF_t hF2 (rdF_i (Or.inl rfl)), fun z => by cases z⟩))
                 · dsimp only [Option.toList, List.cons_append, List.nil_append]
                   refine xG_br rfl (fun h86 => ?_) (fun h86 => ?_)
                   · first
                       | (exfalso; first | exact absurd h86 (by decide) | exact h86 (by decide))
                       | (refine xG_run 8 rfl (by repeat' (first | exact trivial | assumption | exact xob_b rfl | exact xal_b rfl | (apply And.intro) | decide)) ?_
                          try dsimp only [xsto1, xsto2, xkill, xget, xset, gd_0, gd_s]
                          try rw [rn_v]
                          try rw [hk1]
                          rw [nI_1]
                          have hst2 : rdS T n (itK true (k + 1)) (true, p, [], sv) = (true, q + 1 + nL T n (q + 1), l ++ [nV T n (q + 1)], sx) := by rw [itK_s (by omega), if_neg (by simp [hk19]), rdS_app, hst, rdS, rdS, rdS, rd1_ct (it := 32) (by decide) (by decide) hc32]; exact rd1_nt ⟨rfl, rfl⟩ hnl
                          refine ih _ ⟨_, _, _, _, rfl, hst2, ?_, ?_, by omega, lnK_n hl (by simp [hk19]), fun i hi => ?_⟩
                          · exact (gI_ne (Or.inl (by decide))).trans rn_p
                          · exact rdF_t hF2 (rdF_t (rdF_i (Or.inl rfl)) (rdF_t rdF_rn rdF_n))
                          · rw [gIsI]
                            by_cases c : i = k
                            · rw [if_pos ⟨rfl, c⟩, c]; exact (td_n hl (by simp [hk19]) (by omega)).symm
                            · rw [if_neg (fun z => c z.2), td_o (q := q) hl (by simp [hk19]) (by omega), ← htd i (by omega)]
                              exact (gI_ne (Or.inl (by decide))).trans ((gI_ne (Or.inl (by decide))).trans (gI_ne (Or.inl (by decide)))))
                   · first
                       | (exfalso; first | exact absurd h86 (by decide) | exact h86 (by decide))
                       | (refine xG_run 1 rfl (by repeat' (first | exact trivial | assumption | exact xob_b rfl | exact xal_b rfl | (apply And.intro) | decide)) ?_
                          try dsimp only [xsto1, xsto2, xkill, xget, xset, gd_0, gd_s]
                          try rw [rn_v]
                          try rw [hk1]
                          refine r2_z rfl rfl (by first | decide | assumption) ?_
                          first
                            | (have hfull := itK_f (T := T) (n := n) (sd := true) (k := k) (m := m) (pre := [32]) (s := (true, p, [], sv)) (s' := (false, q, l, sx)) (by obtain ⟨r, hr⟩ := itK_pre (sd := true) (k := k + 1) (m := m) (by omega); exact ⟨_, by rw [hr, itK_s (by omega), show ∀ x : Nat, [32, x] = [32] ++ [x] from fun _ => rfl, ← List.append_assoc, List.append_assoc]⟩) (by rw [hst]; exact rd1_cf (by decide) (by decide) hc32) rfl
                               rw [hfull]
                               exact ⟨rfl, hp2, hF2, fun z => by cases z⟩)
                            | (have hfull := itK_f (T := T) (n := n) (sd := true) (k := k) (m := m) (pre := [32, 0]) (s := (true, p, [], sv)) (s' := (false, q + 1, l, sx)) (by obtain ⟨r, hr⟩ := itK_pre (sd := true) (k := k + 1) (m := m) (by omega); exact ⟨r, by rw [hr]; rw [itK_s (by omega), if_neg (by simp [hk19])]⟩) (by rw [hst]; rw [rdS, rdS, rdS, rd1_ct (it := 32) (by decide) (by decide) hc32]; exact rd1_nf hnl) rfl
                               rw [hfull]
                               exact ⟨rfl, gI_self _ _ _ _, rdF_t hF2 (rdF_i (Or.inl rfl)), fun z => by cases z⟩)))
          · first
              | (exfalso; first | exact absurd h17 (by decide) | exact h17 (by decide))
              | (refine xG_run 1 rfl (by repeat' (first | exact trivial | assumption | exact xob_b rfl | exact xal_b rfl | (apply And.intro) | decide)) ?_
                 try dsimp only [xsto1, xsto2, xkill, xget, xset, gd_0, gd_s]
                 try rw [rn_v]
                 try rw [hk1]
                 refine r2_z rfl rfl (by first | decide | assumption) ?_
                 first
                   | (have hfull := itK_f (T := T) (n := n) (sd := true) (k := k) (m := m) (pre := [32]) (s := (true, p, [], sv)) (s' := (false, q, l, sx)) (by obtain ⟨r, hr⟩ := itK_pre (sd := true) (k := k + 1) (m := m) (by omega); exact ⟨_, by rw [hr, itK_s (by omega), show ∀ x : Nat, [32, x] = [32] ++ [x] from fun _ => rfl, ← List.append_assoc, List.append_assoc]⟩) (by rw [hst]; exact rd1_cf (by decide) (by decide) hc32) rfl
                      rw [hfull]
                      exact ⟨rfl, hp2, hF2, fun z => by cases z⟩)
                   | (have hfull := itK_f (T := T) (n := n) (sd := true) (k := k) (m := m) (pre := [32, 0]) (s := (true, p, [], sv)) (s' := (false, q + 1, l, sx)) (by obtain ⟨r, hr⟩ := itK_pre (sd := true) (k := k + 1) (m := m) (by omega); exact ⟨r, by rw [hr]; rw [itK_s (by omega), if_neg (by simp [hk19])]⟩) (by rw [hst]; rw [rdS, rdS, rdS, rd1_ct (it := 32) (by decide) (by decide) hc32]; exact rd1_nf hnl) rfl
                      rw [hfull]
                      exact ⟨rfl, gI_self _ _ _ _, rdF_t hF2 (rdF_i (Or.inl rfl)), fun z => by cases z⟩))
        · dsimp only [Option.toList, List.cons_append, List.nil_append]
          refine xG_br rfl (fun h17 => ?_) (fun h17 => ?_)
          · first
              | (exfalso; first | exact absurd h17 (by decide) | exact h17 (by decide))
              | (refine xG_run 1 rfl (by repeat' (first | exact trivial | assumption | exact xob_b rfl | exact xal_b rfl | (apply And.intro) | decide)) ?_
                 try dsimp only [xsto1, xsto2, xkill, xget, xset, gd_0, gd_s]
                 try rw [rn_v]
                 try rw [hk1]
                 refine xG_brF rfl (by decide) ?_
                 refine xG_run 2 rfl (by repeat' (first | exact trivial | assumption | exact xob_b rfl | exact xal_b rfl | (apply And.intro) | decide)) ?_
                 try dsimp only [xsto1, xsto2, xkill, xget, xset, gd_0, gd_s]
                 try rw [rn_v]
                 try rw [hk1]
                 refine xG_brT rfl (fun z => hk19 ((nI_eq (a := k) (b := 1) (by omega) (by omega)).mp z)) ?_
                 refine xG_run 1 rfl (by repeat' (first | exact trivial | assumption | exact xob_b rfl | exact xal_b rfl | (apply And.intro) | decide)) ?_
                 try dsimp only [xsto1, xsto2, xkill, xget, xset, gd_0, gd_s]
                 try rw [rn_v]
                 try rw [hk1]
                 refine xG_c2 0 rfl (by repeat' (first | exact trivial | assumption | exact xob_b rfl | exact xal_b rfl | (apply And.intro) | decide)) rfl rfl (by decide) cw_X12_readsNumber (d' := d - 1) (e_readsNumber (p := q + 1) (rT_F hT2 (rdF_i (Or.inl rfl))) (gI_self _ _ _ _) (by omega) (by omega)) (by omega) ?_
                 rintro v M4 (⟨hnl, rfl, rfl⟩ | ⟨hnl, rfl, rfl⟩)
                 · dsimp only [Option.toList, List.cons_append, List.nil_append]
                   have hlt32 := chr_p hc32 (by decide)
                   have hnv := nL_n (T := T) (n := n) (p := q + 1) (by omega)
                   refine xG_br rfl (fun h86 => ?_) (fun h86 => ?_)
                   · first
                       | (exfalso; first | exact absurd h86 (by decide) | exact h86 (by decide))
                       | (refine xG_run 8 rfl (by repeat' (first | exact trivial | assumption | exact xob_b rfl | exact xal_b rfl | (apply And.intro) | decide)) ?_
                          try dsimp only [xsto1, xsto2, xkill, xget, xset, gd_0, gd_s]
                          try rw [rn_v]
                          try rw [hk1]
                          rw [nI_1]
                          have hst2 : rdS T n (itK true (k + 1)) (true, p, [], sv) = (true, q + 1 + nL T n (q + 1), l ++ [nV T n (q + 1)], sx) := by rw [itK_s (by omega), if_neg (by simp [hk19]), rdS_app, hst, rdS, rdS, rdS, rd1_ct (it := 32) (by decide) (by decide) hc32]; exact rd1_nt ⟨rfl, rfl⟩ hnl
                          refine ih _ ⟨_, _, _, _, rfl, hst2, ?_, ?_, by omega, lnK_n hl (by simp [hk19]), fun i hi => ?_⟩
                          · exact (gI_ne (Or.inl (by decide))).trans rn_p
                          · exact rdF_t hF2 (rdF_t (rdF_i (Or.inl rfl)) (rdF_t rdF_rn rdF_n))
                          · rw [gIsI]
                            by_cases c : i = k
                            · rw [if_pos ⟨rfl, c⟩, c]; exact (td_n hl (by simp [hk19]) (by omega)).symm
                            · rw [if_neg (fun z => c z.2), td_o (q := q) hl (by simp [hk19]) (by omega), ← htd i (by omega)]
                              exact (gI_ne (Or.inl (by decide))).trans ((gI_ne (Or.inl (by decide))).trans (gI_ne (Or.inl (by decide)))))
                   · first
                       | (exfalso; first | exact absurd h86 (by decide) | exact h86 (by decide))
                       | (refine xG_run 1 rfl (by repeat' (first | exact trivial | assumption | exact xob_b rfl | exact xal_b rfl | (apply And.intro) | decide)) ?_
                          try dsimp only [xsto1, xsto2, xkill, xget, xset, gd_0, gd_s]
                          try rw [rn_v]
                          try rw [hk1]
                          refine r2_z rfl rfl (by first | decide | assumption) ?_
                          first
                            | (have hfull := itK_f (T := T) (n := n) (sd := true) (k := k) (m := m) (pre := [32]) (s := (true, p, [], sv)) (s' := (false, q, l, sx)) (by obtain ⟨r, hr⟩ := itK_pre (sd := true) (k := k + 1) (m := m) (by omega); exact ⟨_, by rw [hr, itK_s (by omega), show ∀ x : Nat, [32, x] = [32] ++ [x] from fun _ => rfl, ← List.append_assoc, List.append_assoc]⟩) (by rw [hst]; exact rd1_cf (by decide) (by decide) hc32) rfl
                               rw [hfull]
                               exact ⟨rfl, hp2, hF2, fun z => by cases z⟩)
                            | (have hfull := itK_f (T := T) (n := n) (sd := true) (k := k) (m := m) (pre := [32, 0]) (s := (true, p, [], sv)) (s' := (false, q + 1, l, sx)) (by obtain ⟨r, hr⟩ := itK_pre (sd := true) (k := k + 1) (m := m) (by omega); exact ⟨r, by rw [hr]; rw [itK_s (by omega), if_neg (by simp [hk19])]⟩) (by rw [hst]; rw [rdS, rdS, rdS, rd1_ct (it := 32) (by decide) (by decide) hc32]; exact rd1_nf hnl) rfl
                               rw [hfull]
                               exact ⟨rfl, gI_self _ _ _ _, rdF_t hF2 (rdF_i (Or.inl rfl)), fun z => by cases z⟩))
                 · dsimp only [Option.toList, List.cons_append, List.nil_append]
                   refine xG_br rfl (fun h86 => ?_) (fun h86 => ?_)
                   · first
                       | (exfalso; first | exact absurd h86 (by decide) | exact h86 (by decide))
                       | (refine xG_run 8 rfl (by repeat' (first | exact trivial | assumption | exact xob_b rfl | exact xal_b rfl | (apply And.intro) | decide)) ?_
                          try dsimp only [xsto1, xsto2, xkill, xget, xset, gd_0, gd_s]
                          try rw [rn_v]
                          try rw [hk1]
                          rw [nI_1]
                          have hst2 : rdS T n (itK true (k + 1)) (true, p, [], sv) = (true, q + 1 + nL T n (q + 1), l ++ [nV T n (q + 1)], sx) := by rw [itK_s (by omega), if_neg (by simp [hk19]), rdS_app, hst, rdS, rdS, rdS, rd1_ct (it := 32) (by decide) (by decide) hc32]; exact rd1_nt ⟨rfl, rfl⟩ hnl
                          refine ih _ ⟨_, _, _, _, rfl, hst2, ?_, ?_, by omega, lnK_n hl (by simp [hk19]), fun i hi => ?_⟩
                          · exact (gI_ne (Or.inl (by decide))).trans rn_p
                          · exact rdF_t hF2 (rdF_t (rdF_i (Or.inl rfl)) (rdF_t rdF_rn rdF_n))
                          · rw [gIsI]
                            by_cases c : i = k
                            · rw [if_pos ⟨rfl, c⟩, c]; exact (td_n hl (by simp [hk19]) (by omega)).symm
                            · rw [if_neg (fun z => c z.2), td_o (q := q) hl (by simp [hk19]) (by omega), ← htd i (by omega)]
                              exact (gI_ne (Or.inl (by decide))).trans ((gI_ne (Or.inl (by decide))).trans (gI_ne (Or.inl (by decide)))))
                   · first
                       | (exfalso; first | exact absurd h86 (by decide) | exact h86 (by decide))
                       | (refine xG_run 1 rfl (by repeat' (first | exact trivial | assumption | exact xob_b rfl | exact xal_b rfl | (apply And.intro) | decide)) ?_
                          try dsimp only [xsto1, xsto2, xkill, xget, xset, gd_0, gd_s]
                          try rw [rn_v]
                          try rw [hk1]
                          refine r2_z rfl rfl (by first | decide | assumption) ?_
                          first
                            | (have hfull := itK_f (T := T) (n := n) (sd := true) (k := k) (m := m) (pre := [32]) (s := (true, p, [], sv)) (s' := (false, q, l, sx)) (by obtain ⟨r, hr⟩ := itK_pre (sd := true) (k := k + 1) (m := m) (by omega); exact ⟨_, by rw [hr, itK_s (by omega), show ∀ x : Nat, [32, x] = [32] ++ [x] from fun _ => rfl, ← List.append_assoc, List.append_assoc]⟩) (by rw [hst]; exact rd1_cf (by decide) (by decide) hc32) rfl
                               rw [hfull]
                               exact ⟨rfl, hp2, hF2, fun z => by cases z⟩)
                            | (have hfull := itK_f (T := T) (n := n) (sd := true) (k := k) (m := m) (pre := [32, 0]) (s := (true, p, [], sv)) (s' := (false, q + 1, l, sx)) (by obtain ⟨r, hr⟩ := itK_pre (sd := true) (k := k + 1) (m := m) (by omega); exact ⟨r, by rw [hr]; rw [itK_s (by omega), if_neg (by simp [hk19])]⟩) (by rw [hst]; rw [rdS, rdS, rdS, rd1_ct (it := 32) (by decide) (by decide) hc32]; exact rd1_nf hnl) rfl
                               rw [hfull]
                               exact ⟨rfl, gI_self _ _ _ _, rdF_t hF2 (rdF_i (Or.inl rfl)), fun z => by cases z⟩)))
          · first
              | (exfalso; first | exact absurd h17 (by decide) | exact h17 (by decide))
              | (refine xG_run 1 rfl (by repeat' (first | exact trivial | assumption | exact xob_b rfl | exact xal_b rfl | (apply And.intro) | decide)) ?_
                 try dsimp only [xsto1, xsto2, xkill, xget, xset, gd_0, gd_s]
                 try rw [rn_v]
                 try rw [hk1]
                 refine r2_z rfl rfl (by first | decide | assumption) ?_
                 first
                   | (have hfull := itK_f (T := T) (n := n) (sd := true) (k := k) (m := m) (pre := [32]) (s := (true, p, [], sv)) (s' := (false, q, l, sx)) (by obtain ⟨r, hr⟩ := itK_pre (sd := true) (k := k + 1) (m := m) (by omega); exact ⟨_, by rw [hr, itK_s (by omega), show ∀ x : Nat, [32, x] = [32] ++ [x] from fun _ => rfl, ← List.append_assoc, List.append_assoc]⟩) (by rw [hst]; exact rd1_cf (by decide) (by decide) hc32) rfl
                      rw [hfull]
                      exact ⟨rfl, hp2, hF2, fun z => by cases z⟩)
                   | (have hfull := itK_f (T := T) (n := n) (sd := true) (k := k) (m := m) (pre := [32, 0]) (s := (true, p, [], sv)) (s' := (false, q + 1, l, sx)) (by obtain ⟨r, hr⟩ := itK_pre (sd := true) (k := k + 1) (m := m) (by omega); exact ⟨r, by rw [hr]; rw [itK_s (by omega), if_neg (by simp [hk19])]⟩) (by rw [hst]; rw [rdS, rdS, rdS, rd1_ct (it := 32) (by decide) (by decide) hc32]; exact rd1_nf hnl) rfl
                      rw [hfull]
                      exact ⟨rfl, gI_self _ _ _ _, rdF_t hF2 (rdF_i (Or.inl rfl)), fun z => by cases z⟩))
  · rintro X ⟨M2, q, l, sx, rfl, hst, hp2, hF2, hqn, hl, htd⟩
    refine xG_run 2 rfl (by repeat' (first | exact trivial | assumption | exact xob_b rfl | exact xal_b rfl | (apply And.intro) | decide)) ?_
    try dsimp only [xsto1, xsto2, xkill, xget, xset, gd_0, gd_s]
    refine xG_brT rfl (Int32.le_refl _) ?_
    refine xG_run 1 rfl (by repeat' (first | exact trivial | assumption | exact xob_b rfl | exact xal_b rfl | (apply And.intro) | decide)) ?_
    try dsimp only [xsto1, xsto2, xkill, xget, xset, gd_0, gd_s]
    refine r2_z rfl rfl (by first | decide | assumption) ?_
    rw [hst]
    exact ⟨rfl, hp2, hF2, fun _ => htd⟩
