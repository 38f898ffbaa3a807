/-! ===== the reference reads rules: sums, rules ===== -/
set_option maxRecDepth 4000 in
theorem e_rreadsSum {κ : xKK} {d : Nat} {M : xM} {a b n p : Nat} {T : Nat → Int32} {φ : Nat → Int32} (hT : rT M a b n T) (hp : gI M 166 12 = nI p) (hpn : p ≤ n) (hd : 4 ≤ d) : xE2 κ mX12_readsSum d [.ref 166] M (fun v M' => v = some (.int (bl2 (suX T n φ p).1)) ∧ gI M' 166 12 = nI (suX T n φ p).2.1 ∧ gI M' 166 24 = gI M 166 24 ∧ rdP M M') := by
  refine xE2_of ci_X12_readsSum cl_X12_readsSum cw_X12_readsSum rfl (L := [some (.ref 166)]) rfl ?_
  have hn9 := hT.2.2.2.2.1
  have SL : ∀ (r q : Nat) (ac : Int32) (M2 : xM), n - q = r → q ≤ n → rdP M M2 → gI M2 166 12 = nI q → gI M2 166 24 = gI M 166 24 → (suX T n φ p) = smX T n φ ac q → xG κ mX12_readsSum (d, 0, 0) (9, [some (.ref 166)], [], M2, z2) (xRet mX12_readsSum false (fun v M' n' => n' = 182 ∧ (v = some (.int (bl2 (suX T n φ p).1)) ∧ gI M' 166 12 = nI (suX T n φ p).2.1 ∧ gI M' 166 24 = gI M 166 24 ∧ rdP M M'))) := by
    intro r
    induction r using Nat.strongRecOn with
    | ind r IH =>
      rintro q ac M2 rfl hq hFq m3 m24 hE
      refine xG_run 2 rfl (by repeat' (first | exact trivial | assumption | exact xob_b rfl | exact xal_b rfl | (apply And.intro) | decide)) ?_
      try dsimp only [xsto1, xsto2, xkill, xget, xset, gd_0, gd_s]
      refine xG_c2 1 rfl (by repeat' (first | exact trivial | assumption | exact xob_b rfl | exact xal_b rfl | (apply And.intro) | decide)) rfl rfl (by decide) cw_X12_takes (d' := d - 1) (e_takes (c := 43) (rT_P hT hFq) m3 (by omega) (by omega)) (by omega) ?_
      rintro v M9 (⟨hc43, rfl, hM9⟩ | ⟨hc43, rfl, hM9⟩)
      all_goals subst M9
      · dsimp only [Option.toList, List.cons_append, List.nil_append]
        have hpm : chr T n q = 43 ∨ chr T n q = 45 := Or.inl hc43
        have hTq := rT_P (rT_P hT hFq) (rdP_i (M := M2) (k := 12) (v := nI (q + 1)) (Or.inl rfl))
        have hqn : q < n := pm_lt hpm
        refine xG_brT rfl (by decide) ?_
        refine xG_run 1 rfl (by repeat' (first | exact trivial | assumption | exact xob_b rfl | exact xal_b rfl | (apply And.intro) | decide)) ?_
        try dsimp only [xsto1, xsto2, xkill, xget, xset, gd_0, gd_s]
        refine xG_c2 0 rfl (by repeat' (first | exact trivial | assumption | exact xob_b rfl | exact xal_b rfl | (apply And.intro) | decide)) rfl rfl (by decide) cw_X12_readsAtom (d' := d - 1) (e_rreadsAtom (φ := φ) (p := q + 1) hTq (gI_self _ _ _ _) (by omega) (by omega)) (by omega) ?_
        rintro v M3 ⟨rfl, k3, k24, hF3⟩
        obtain ⟨y1, y2, y3⟩ := atX_b (T := T) (n := n) (φ := φ) (p := q + 1) (by omega)
        rcases Bool.eq_false_or_eq_true (atX T n φ (q + 1)).1 with hok | hok
        all_goals rw [hok]
        · dsimp only [Option.toList, List.cons_append, List.nil_append]
          refine xG_brT rfl (by decide) ?_
          refine IH (n - (atX T n φ (q + 1)).2.1) (by have := y3 hok; omega) _ _ M3 rfl y2 (rdP_t hFq (rdP_t (rdP_i (Or.inl rfl)) hF3)) k3 (k24.trans ((gI_ne (by omega)).trans m24)) (hE.trans ((smX_eq hq).trans ((if_pos hpm).trans (if_pos hok))))
        · dsimp only [Option.toList, List.cons_append, List.nil_append]
          refine xG_brF rfl (fun z => z rfl) ?_
          refine xG_run 1 rfl (by repeat' (first | exact trivial | assumption | exact xob_b rfl | exact xal_b rfl | (apply And.intro) | decide)) ?_
          try dsimp only [xsto1, xsto2, xkill, xget, xset, gd_0, gd_s]
          refine r2_z rfl rfl (by first | decide | assumption) ?_
          have e := hE.trans ((smX_eq hq).trans ((if_pos hpm).trans (if_neg (by rw [hok]; decide))))
          rw [e]
          exact ⟨rfl, k3, k24.trans ((gI_ne (by omega)).trans m24), rdP_t hFq (rdP_t (rdP_i (Or.inl rfl)) hF3)⟩
      · dsimp only [Option.toList, List.cons_append, List.nil_append]
        refine xG_brF rfl (fun z => z rfl) ?_
        refine xG_run 2 rfl (by repeat' (first | exact trivial | assumption | exact xob_b rfl | exact xal_b rfl | (apply And.intro) | decide)) ?_
        try dsimp only [xsto1, xsto2, xkill, xget, xset, gd_0, gd_s]
        refine xG_c2 1 rfl (by repeat' (first | exact trivial | assumption | exact xob_b rfl | exact xal_b rfl | (apply And.intro) | decide)) rfl rfl (by decide) cw_X12_takes (d' := d - 1) (e_takes (c := 45) (rT_P hT hFq) m3 (by omega) (by omega)) (by omega) ?_
        rintro v M9 (⟨hc45, rfl, hM9⟩ | ⟨hc45, rfl, hM9⟩)
        all_goals subst M9
        · dsimp only [Option.toList, List.cons_append, List.nil_append]
          have hpm : chr T n q = 43 ∨ chr T n q = 45 := Or.inr hc45
          have hTq := rT_P (rT_P hT hFq) (rdP_i (M := M2) (k := 12) (v := nI (q + 1)) (Or.inl rfl))
          have hqn : q < n := pm_lt hpm
          refine xG_brF rfl (by decide) ?_
          refine xG_run 1 rfl (by repeat' (first | exact trivial | assumption | exact xob_b rfl | exact xal_b rfl | (apply And.intro) | decide)) ?_
          try dsimp only [xsto1, xsto2, xkill, xget, xset, gd_0, gd_s]
          refine xG_c2 0 rfl (by repeat' (first | exact trivial | assumption | exact xob_b rfl | exact xal_b rfl | (apply And.intro) | decide)) rfl rfl (by decide) cw_X12_readsAtom (d' := d - 1) (e_rreadsAtom (φ := φ) (p := q + 1) hTq (gI_self _ _ _ _) (by omega) (by omega)) (by omega) ?_
          rintro v M3 ⟨rfl, k3, k24, hF3⟩
          obtain ⟨y1, y2, y3⟩ := atX_b (T := T) (n := n) (φ := φ) (p := q + 1) (by omega)
          rcases Bool.eq_false_or_eq_true (atX T n φ (q + 1)).1 with hok | hok
          all_goals rw [hok]
          · dsimp only [Option.toList, List.cons_append, List.nil_append]
            refine xG_brT rfl (by decide) ?_
            refine IH (n - (atX T n φ (q + 1)).2.1) (by have := y3 hok; omega) _ _ M3 rfl y2 (rdP_t hFq (rdP_t (rdP_i (Or.inl rfl)) hF3)) k3 (k24.trans ((gI_ne (by omega)).trans m24)) (hE.trans ((smX_eq hq).trans ((if_pos hpm).trans (if_pos hok))))
          · dsimp only [Option.toList, List.cons_append, List.nil_append]
            refine xG_brF rfl (fun z => z rfl) ?_
            refine xG_run 1 rfl (by repeat' (first | exact trivial | assumption | exact xob_b rfl | exact xal_b rfl | (apply And.intro) | decide)) ?_
            try dsimp only [xsto1, xsto2, xkill, xget, xset, gd_0, gd_s]
            refine r2_z rfl rfl (by first | decide | assumption) ?_
            have e := hE.trans ((smX_eq hq).trans ((if_pos hpm).trans (if_neg (by rw [hok]; decide))))
            rw [e]
            exact ⟨rfl, k3, k24.trans ((gI_ne (by omega)).trans m24), rdP_t hFq (rdP_t (rdP_i (Or.inl rfl)) hF3)⟩
        · dsimp only [Option.toList, List.cons_append, List.nil_append]
          refine xG_brT rfl (rfl) ?_
          refine xG_run 1 rfl (by repeat' (first | exact trivial | assumption | exact xob_b rfl | exact xal_b rfl | (apply And.intro) | decide)) ?_
          try dsimp only [xsto1, xsto2, xkill, xget, xset, gd_0, gd_s]
          refine r2_z rfl rfl (by first | decide | assumption) ?_
          have e := hE.trans ((smX_eq hq).trans (if_neg (fun z => z.elim hc43 hc45)))
          rw [e]
          exact ⟨rfl, m3, m24, hFq⟩
  refine xG_run 1 rfl (by repeat' (first | exact trivial | assumption | exact xob_b rfl | exact xal_b rfl | (apply And.intro) | decide)) ?_
  try dsimp only [xsto1, xsto2, xkill, xget, xset, gd_0, gd_s]
  refine xG_c2 0 rfl (by repeat' (first | exact trivial | assumption | exact xob_b rfl | exact xal_b rfl | (apply And.intro) | decide)) rfl rfl (by decide) cw_X12_readsAtom (d' := d - 1) (e_rreadsAtom (φ := φ) (p := p) hT hp (by omega) (by omega)) (by omega) ?_
  rintro v M3 ⟨rfl, k3, k24, hF3⟩
  obtain ⟨y1, y2, y3⟩ := atX_b (T := T) (n := n) (φ := φ) (p := p) (by omega)
  rcases Bool.eq_false_or_eq_true (atX T n φ (p)).1 with hok | hok
  all_goals rw [hok]
  · dsimp only [Option.toList, List.cons_append, List.nil_append]
    refine xG_brT rfl (by decide) ?_
    exact SL _ _ _ M3 rfl y2 hF3 k3 k24 (if_pos hok)
  · dsimp only [Option.toList, List.cons_append, List.nil_append]
    refine xG_brF rfl (fun z => z rfl) ?_
    refine xG_run 1 rfl (by repeat' (first | exact trivial | assumption | exact xob_b rfl | exact xal_b rfl | (apply And.intro) | decide)) ?_
    try dsimp only [xsto1, xsto2, xkill, xget, xset, gd_0, gd_s]
    refine r2_z rfl rfl (by first | decide | assumption) ?_
    rw [show (suX T n φ p) = (false, (atX T n φ p).2.1, 0) from if_neg (by rw [hok]; decide)]
    exact ⟨rfl, k3, k24, hF3⟩
