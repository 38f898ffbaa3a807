/-! ===== the reference's statements; it makes pieces and ropes ===== -/
section SP
variable {T : Nat → Int32} {n p : Nat} {s : tsT}
theorem stS_p (c : chr T n p = 112) (h : rdS T n (itK false 5) (true, p + 1, [], 0) = s) : stS T n p 0 = rd1 T n 59 s := by
  unfold stS
  rw [if_pos c, rdS_app, ← h]
  rfl
theorem stS_r (c : chr T n p = 114) (h : rdS T n (itK true 5) (true, p + 1, [], 0) = s) : stS T n p 0 = rd1 T n 59 s := by
  unfold stS
  rw [if_neg (by rw [c]; decide), if_pos c, rdS_app, ← h]
  rfl
theorem stS_f (c : chr T n p = 102) (h : rdS T n (itK false 1) (true, p + 1, [], 0) = s) : stS T n p 0 = rd1 T n 59 s := by
  unfold stS
  rw [if_neg (by rw [c]; decide), if_neg (by rw [c]; decide), if_pos c, rdS_app, ← h]
  rfl
theorem stS_n (c : ¬ chr T n p = 112) (c2 : ¬ chr T n p = 114) (c3 : ¬ chr T n p = 102) : stS T n p 0 = (false, p, [], 0) := by
  unfold stS
  rw [if_neg c, if_neg c2, if_neg c3]
end SP
def rpO (M : xM) (j : Nat) : xM := sI (sI (sI (sP M 166 16 (some 173)) 166 13 (nI (120 * j))) 166 14 (gI M 172 j)) 166 12 0
set_option maxRecDepth 4000 in
theorem e_readsStatement {κ : xKK} {d : Nat} {M : xM} {a b n p : Nat} {T : Nat → Int32} (hT : rT M a b n T) (hp : gI M 166 12 = nI p) (hp2 : p ≤ n) (hd : 4 ≤ d) : xE2 κ mX12_readsStatement d [.ref 166] M (fun v M' => v = some (.int (if (stS T n p 0).1 = true then 1 else 0)) ∧ gI M' 166 12 = nI (stS T n p 0).2.1 ∧ rdF M M' ∧ ((stS T n p 0).1 = true → (chr T n p = 112 → ∀ i, i < 5 → gI M' 177 i = (stS T n p 0).2.2.1.getD i 0) ∧ (chr T n p = 114 → ∀ i, i < 5 → gI M' 177 i = tlA (fun i => (stS T n p 0).2.2.1.getD i 0) (stS T n p 0).2.2.2 i) ∧ (chr T n p = 102 → gI M' 177 0 = (stS T n p 0).2.2.1.getD 0 0))) := by
  refine xE2_of ci_X12_readsStatement cl_X12_readsStatement cw_X12_readsStatement rfl (L := [some (.ref 166)]) rfl ?_
  have hn9 := hT.2.2.2.2.1
  refine xG_run 2 rfl (by repeat' (first | exact trivial | assumption | exact xob_b rfl | exact xal_b rfl | (apply And.intro) | decide)) ?_
  try dsimp only [xsto1, xsto2, xkill, xget, xset, gd_0, gd_s]
  refine xG_c2 1 rfl (by repeat' (first | exact trivial | assumption | exact xob_b rfl | exact xal_b rfl | (apply And.intro) | decide)) rfl rfl (by decide) cw_X12_takes (d' := d - 1) (e_takes (p := p) (c := 112) hT hp (by omega) (by omega)) (by omega) ?_
  rintro v M112 (⟨hc112, rfl, rfl⟩ | ⟨hc112, rfl, rfl⟩)
  · dsimp only [Option.toList, List.cons_append, List.nil_append]
    have hlt112 := chr_p hc112 (by decide)
    have hTa := rT_F hT (rdF_i (k := 12) (v := nI (p + 1)) (Or.inl rfl))
    refine xG_br rfl (fun h6 => ?_) (fun h6 => ?_)
    · first
        | (exfalso; first | exact absurd h6 (by decide) | exact h6 (by decide) | (simp at h6; done))
        | (refine xG_run 2 rfl (by repeat' (first | exact trivial | assumption | exact xob_b rfl | exact xal_b rfl | (apply And.intro) | decide)) ?_
           try dsimp only [xsto1, xsto2, xkill, xget, xset, gd_0, gd_s]
           refine xG_c2 1 rfl (by repeat' (first | exact trivial | assumption | exact xob_b rfl | exact xal_b rfl | (apply And.intro) | decide)) rfl rfl (by decide) cw_X12_takes (d' := d - 1) (e_takes (p := p) (c := 114) hT hp (by omega) (by omega)) (by omega) ?_
           rintro v M114 (⟨hc114, rfl, rfl⟩ | ⟨hc114, rfl, rfl⟩)
           · dsimp only [Option.toList, List.cons_append, List.nil_append]
             have hlt114 := chr_p hc114 (by decide)
             have hTa := rT_F hT (rdF_i (k := 12) (v := nI (p + 1)) (Or.inl rfl))
             refine xG_br rfl (fun h39 => ?_) (fun h39 => ?_)
             · first
                 | (exfalso; first | exact absurd h39 (by decide) | exact h39 (by decide) | (simp at h39; done))
                 | (refine xG_run 2 rfl (by repeat' (first | exact trivial | assumption | exact xob_b rfl | exact xal_b rfl | (apply And.intro) | decide)) ?_
                    try dsimp only [xsto1, xsto2, xkill, xget, xset, gd_0, gd_s]
                    refine xG_c2 1 rfl (by repeat' (first | exact trivial | assumption | exact xob_b rfl | exact xal_b rfl | (apply And.intro) | decide)) rfl rfl (by decide) cw_X12_takes (d' := d - 1) (e_takes (p := p) (c := 102) hT hp (by omega) (by omega)) (by omega) ?_
                    rintro v M102 (⟨hc102, rfl, rfl⟩ | ⟨hc102, rfl, rfl⟩)
                    · dsimp only [Option.toList, List.cons_append, List.nil_append]
                      have hlt102 := chr_p hc102 (by decide)
                      have hTa := rT_F hT (rdF_i (k := 12) (v := nI (p + 1)) (Or.inl rfl))
                      refine xG_br rfl (fun h72 => ?_) (fun h72 => ?_)
                      · first
                          | (exfalso; first | exact absurd h72 (by decide) | exact h72 (by decide) | (simp at h72; done))
                          | (refine xG_run 1 rfl (by repeat' (first | exact trivial | assumption | exact xob_b rfl | exact xal_b rfl | (apply And.intro) | decide)) ?_
                             try dsimp only [xsto1, xsto2, xkill, xget, xset, gd_0, gd_s]
                             refine r2_z rfl rfl (by first | decide | assumption) ?_
                             first
                               | (rw [stS_p hc112 hRR, rd1_f rfl]
                                  exact ⟨rfl, hq3, rdF_t (rdF_i (Or.inl rfl)) hF3, fun z => by cases z⟩)
                               | (rw [stS_p hc112 hRR, rd1_cf (by decide) (by decide) hc59]
                                  exact ⟨rfl, hq3, rdF_t (rdF_i (Or.inl rfl)) hF3, fun z => by cases z⟩)
                               | (rw [stS_p hc112 hRR, rd1_ct (it := 59) (by decide) (by decide) hc59]
                                  refine ⟨rfl, gI_self _ _ _ _, rdF_t (rdF_i (Or.inl rfl)) (rdF_t hF3 (rdF_i (Or.inl rfl))), fun _ => ⟨?_, ?_, ?_⟩⟩
                                  · exact fun _ i hi => (gI_ne (Or.inl (by decide))).trans (htd3 rfl i hi)
                                  · exact fun z => absurd (hc112.symm.trans z) (by decide)
                                  · exact fun z => absurd (hc112.symm.trans z) (by decide))
                               | (rw [stS_r hc114 hRR, rd1_f rfl]
                                  exact ⟨rfl, hq3, rdF_t (rdF_i (Or.inl rfl)) hF3, fun z => by cases z⟩)
                               | (rw [stS_r hc114 hRR, rd1_cf (by decide) (by decide) hc59]
                                  exact ⟨rfl, hq3, rdF_t (rdF_i (Or.inl rfl)) hF3, fun z => by cases z⟩)
                               | (rw [stS_r hc114 hRR, rd1_ct (it := 59) (by decide) (by decide) hc59]
                                  refine ⟨rfl, gI_self _ _ _ _, rdF_t (rdF_i (Or.inl rfl)) (rdF_t hF3 (rdF_i (Or.inl rfl))), fun _ => ⟨?_, ?_, ?_⟩⟩
                                  · exact fun z => absurd (hc114.symm.trans z) (by decide)
                                  · exact fun _ i hi => (gI_ne (Or.inl (by decide))).trans (htd3 rfl i hi)
                                  · exact fun z => absurd (hc114.symm.trans z) (by decide))
                               | (rw [stS_f hc102 hRR, rd1_f rfl]
                                  exact ⟨rfl, hq3, rdF_t (rdF_i (Or.inl rfl)) hF3, fun z => by cases z⟩)
                               | (rw [stS_f hc102 hRR, rd1_cf (by decide) (by decide) hc59]
                                  exact ⟨rfl, hq3, rdF_t (rdF_i (Or.inl rfl)) hF3, fun z => by cases z⟩)
                               | (rw [stS_f hc102 hRR, rd1_ct (it := 59) (by decide) (by decide) hc59]
                                  refine ⟨rfl, gI_self _ _ _ _, rdF_t (rdF_i (Or.inl rfl)) (rdF_t hF3 (rdF_i (Or.inl rfl))), fun _ => ⟨?_, ?_, ?_⟩⟩
                                  · exact fun z => absurd (hc102.symm.trans z) (by decide)
                                  · exact fun z => absurd (hc102.symm.trans z) (by decide)
                                  · exact fun _ => (gI_ne (Or.inl (by decide))).trans (htd3 rfl 0 (by omega)))
                               | (rw [stS_n hc112 hc114 hc102]; exact ⟨rfl, hp, rdF_r, fun z => by cases z⟩))
                      · first
                          | (exfalso; first | exact absurd h72 (by decide) | exact h72 (by decide) | (simp at h72; done))
                          | (refine xG_run 3 rfl (by repeat' (first | exact trivial | assumption | exact xob_b rfl | exact xal_b rfl | (apply And.intro) | decide)) ?_
                             try dsimp only [xsto1, xsto2, xkill, xget, xset, gd_0, gd_s]
                             refine xG_c2 2 rfl (by repeat' (first | exact trivial | assumption | exact xob_b rfl | exact xal_b rfl | (apply And.intro) | decide)) rfl rfl (by decide) cw_X12_readsNumbers (d' := d - 1) (e_readsNumbersU (m := 1) (p := p + 1) (sv := 0) hTa (gI_self _ _ _ _) (by omega) (by omega) (by omega)) (by omega) ?_
                             rintro v M3 ⟨rfl, hq3, hF3, htd3⟩
                             rcases hRR : rdS T n (itK false 1) (true, p + 1, [], 0) with ⟨ok, q, l, sx⟩
                             try rw [hRR] at hq3 htd3
                             dsimp only at hq3 htd3
                             cases ok
                             · dsimp only [Option.toList, List.cons_append, List.nil_append]
                               refine xG_br rfl (fun h81 => ?_) (fun h81 => ?_)
                               · first
                                   | (exfalso; first | exact absurd h81 (by decide) | exact h81 (by decide) | (simp at h81; done))
                                   | (refine xG_run 1 rfl (by repeat' (first | exact trivial | assumption | exact xob_b rfl | exact xal_b rfl | (apply And.intro) | decide)) ?_
                                      try dsimp only [xsto1, xsto2, xkill, xget, xset, gd_0, gd_s]
                                      refine r2_z rfl rfl (by first | decide | assumption) ?_
                                      first
                                        | (rw [stS_p hc112 hRR, rd1_f rfl]
                                           exact ⟨rfl, hq3, rdF_t (rdF_i (Or.inl rfl)) hF3, fun z => by cases z⟩)
                                        | (rw [stS_p hc112 hRR, rd1_cf (by decide) (by decide) hc59]
                                           exact ⟨rfl, hq3, rdF_t (rdF_i (Or.inl rfl)) hF3, fun z => by cases z⟩)
                                        | (rw [stS_p hc112 hRR, rd1_ct (it := 59) (by decide) (by decide) hc59]
                                           refine ⟨rfl, gI_self _ _ _ _, rdF_t (rdF_i (Or.inl rfl)) (rdF_t hF3 (rdF_i (Or.inl rfl))), fun _ => ⟨?_, ?_, ?_⟩⟩
                                           · exact fun _ i hi => (gI_ne (Or.inl (by decide))).trans (htd3 rfl i hi)
                                           · exact fun z => absurd (hc112.symm.trans z) (by decide)
                                           · exact fun z => absurd (hc112.symm.trans z) (by decide))
                                        | (rw [stS_r hc114 hRR, rd1_f rfl]
                                           exact ⟨rfl, hq3, rdF_t (rdF_i (Or.inl rfl)) hF3, fun z => by cases z⟩)
                                        | (rw [stS_r hc114 hRR, rd1_cf (by decide) (by decide) hc59]
                                           exact ⟨rfl, hq3, rdF_t (rdF_i (Or.inl rfl)) hF3, fun z => by cases z⟩)
                                        | (rw [stS_r hc114 hRR, rd1_ct (it := 59) (by decide) (by decide) hc59]
                                           refine ⟨rfl, gI_self _ _ _ _, rdF_t (rdF_i (Or.inl rfl)) (rdF_t hF3 (rdF_i (Or.inl rfl))), fun _ => ⟨?_, ?_, ?_⟩⟩
                                           · exact fun z => absurd (hc114.symm.trans z) (by decide)
                                           · exact fun _ i hi => (gI_ne (Or.inl (by decide))).trans (htd3 rfl i hi)
                                           · exact fun z => absurd (hc114.symm.trans z) (by decide))
                                        | (rw [stS_f hc102 hRR, rd1_f rfl]
                                           exact ⟨rfl, hq3, rdF_t (rdF_i (Or.inl rfl)) hF3, fun z => by cases z⟩)
                                        | (rw [stS_f hc102 hRR, rd1_cf (by decide) (by decide) hc59]
                                           exact ⟨rfl, hq3, rdF_t (rdF_i (Or.inl rfl)) hF3, fun z => by cases z⟩)
                                        | (rw [stS_f hc102 hRR, rd1_ct (it := 59) (by decide) (by decide) hc59]
                                           refine ⟨rfl, gI_self _ _ _ _, rdF_t (rdF_i (Or.inl rfl)) (rdF_t hF3 (rdF_i (Or.inl rfl))), fun _ => ⟨?_, ?_, ?_⟩⟩
                                           · exact fun z => absurd (hc102.symm.trans z) (by decide)
                                           · exact fun z => absurd (hc102.symm.trans z) (by decide)
                                           · exact fun _ => (gI_ne (Or.inl (by decide))).trans (htd3 rfl 0 (by omega)))
                                        | (rw [stS_n hc112 hc114 hc102]; exact ⟨rfl, hp, rdF_r, fun z => by cases z⟩))
                               · first
                                   | (exfalso; first | exact absurd h81 (by decide) | exact h81 (by decide) | (simp at h81; done))
                                   | (refine xG_run 2 rfl (by repeat' (first | exact trivial | assumption | exact xob_b rfl | exact xal_b rfl | (apply And.intro) | decide)) ?_
                                      try dsimp only [xsto1, xsto2, xkill, xget, xset, gd_0, gd_s]
                                      refine xG_c2 1 rfl (by repeat' (first | exact trivial | assumption | exact xob_b rfl | exact xal_b rfl | (apply And.intro) | decide)) rfl rfl (by decide) cw_X12_takes (d' := d - 1) (e_takes (p := q) (c := 59) hT3 hq3 (by omega) (by omega)) (by omega) ?_
                                      rintro v M4 (⟨hc59, rfl, rfl⟩ | ⟨hc59, rfl, rfl⟩)
                                      · dsimp only [Option.toList, List.cons_append, List.nil_append]
                                        refine xG_br rfl (fun h90 => ?_) (fun h90 => ?_)
                                        · first
                                            | (exfalso; first | exact absurd h90 (by decide) | exact h90 (by decide) | (simp at h90; done))
                                            | (refine xG_run 1 rfl (by repeat' (first | exact trivial | assumption | exact xob_b rfl | exact xal_b rfl | (apply And.intro) | decide)) ?_
                                               try dsimp only [xsto1, xsto2, xkill, xget, xset, gd_0, gd_s]
                                               refine r2_z rfl rfl (by first | decide | assumption) ?_
                                               first
                                                 | (rw [stS_p hc112 hRR, rd1_f rfl]
                                                    exact ⟨rfl, hq3, rdF_t (rdF_i (Or.inl rfl)) hF3, fun z => by cases z⟩)
                                                 | (rw [stS_p hc112 hRR, rd1_cf (by decide) (by decide) hc59]
                                                    exact ⟨rfl, hq3, rdF_t (rdF_i (Or.inl rfl)) hF3, fun z => by cases z⟩)
                                                 | (rw [stS_p hc112 hRR, rd1_ct (it := 59) (by decide) (by decide) hc59]
                                                    refine ⟨rfl, gI_self _ _ _ _, rdF_t (rdF_i (Or.inl rfl)) (rdF_t hF3 (rdF_i (Or.inl rfl))), fun _ => ⟨?_, ?_, ?_⟩⟩
                                                    · exact fun _ i hi => (gI_ne (Or.inl (by decide))).trans (htd3 rfl i hi)
                                                    · exact fun z => absurd (hc112.symm.trans z) (by decide)
                                                    · exact fun z => absurd (hc112.symm.trans z) (by decide))
                                                 | (rw [stS_r hc114 hRR, rd1_f rfl]
                                                    exact ⟨rfl, hq3, rdF_t (rdF_i (Or.inl rfl)) hF3, fun z => by cases z⟩)
                                                 | (rw [stS_r hc114 hRR, rd1_cf (by decide) (by decide) hc59]
                                                    exact ⟨rfl, hq3, rdF_t (rdF_i (Or.inl rfl)) hF3, fun z => by cases z⟩)
                                                 | (rw [stS_r hc114 hRR, rd1_ct (it := 59) (by decide) (by decide) hc59]
                                                    refine ⟨rfl, gI_self _ _ _ _, rdF_t (rdF_i (Or.inl rfl)) (rdF_t hF3 (rdF_i (Or.inl rfl))), fun _ => ⟨?_, ?_, ?_⟩⟩
                                                    · exact fun z => absurd (hc114.symm.trans z) (by decide)
                                                    · exact fun _ i hi => (gI_ne (Or.inl (by decide))).trans (htd3 rfl i hi)
                                                    · exact fun z => absurd (hc114.symm.trans z) (by decide))
                                                 | (rw [stS_f hc102 hRR, rd1_f rfl]
                                                    exact ⟨rfl, hq3, rdF_t (rdF_i (Or.inl rfl)) hF3, fun z => by cases z⟩)
                                                 | (rw [stS_f hc102 hRR, rd1_cf (by decide) (by decide) hc59]
                                                    exact ⟨rfl, hq3, rdF_t (rdF_i (Or.inl rfl)) hF3, fun z => by cases z⟩)
                                                 | (rw [stS_f hc102 hRR, rd1_ct (it := 59) (by decide) (by decide) hc59]
                                                    refine ⟨rfl, gI_self _ _ _ _, rdF_t (rdF_i (Or.inl rfl)) (rdF_t hF3 (rdF_i (Or.inl rfl))), fun _ => ⟨?_, ?_, ?_⟩⟩
                                                    · exact fun z => absurd (hc102.symm.trans z) (by decide)
                                                    · exact fun z => absurd (hc102.symm.trans z) (by decide)
                                                    · exact fun _ => (gI_ne (Or.inl (by decide))).trans (htd3 rfl 0 (by omega)))
                                                 | (rw [stS_n hc112 hc114 hc102]; exact ⟨rfl, hp, rdF_r, fun z => by cases z⟩))
                                        · first
                                            | (exfalso; first | exact absurd h90 (by decide) | exact h90 (by decide) | (simp at h90; done))
                                            | (refine xG_run 2 rfl (by repeat' (first | exact trivial | assumption | exact xob_b rfl | exact xal_b rfl | (apply And.intro) | decide)) ?_
                                               try dsimp only [xsto1, xsto2, xkill, xget, xset, gd_0, gd_s]
                                               refine r2_z rfl rfl (by first | decide | assumption) ?_
                                               first
                                                 | (rw [stS_p hc112 hRR, rd1_f rfl]
                                                    exact ⟨rfl, hq3, rdF_t (rdF_i (Or.inl rfl)) hF3, fun z => by cases z⟩)
                                                 | (rw [stS_p hc112 hRR, rd1_cf (by decide) (by decide) hc59]
                                                    exact ⟨rfl, hq3, rdF_t (rdF_i (Or.inl rfl)) hF3, fun z => by cases z⟩)
                                                 | (rw [stS_p hc112 hRR, rd1_ct (it := 59) (by decide) (by decide) hc59]
                                                    refine ⟨rfl, gI_self _ _ _ _, rdF_t (rdF_i (Or.inl rfl)) (rdF_t hF3 (rdF_i (Or.inl rfl))), fun _ => ⟨?_, ?_, ?_⟩⟩
                                                    · exact fun _ i hi => (gI_ne (Or.inl (by decide))).trans (htd3 rfl i hi)
                                                    · exact fun z => absurd (hc112.symm.trans z) (by decide)
                                                    · exact fun z => absurd (hc112.symm.trans z) (by decide))
                                                 | (rw [stS_r hc114 hRR, rd1_f rfl]
                                                    exact ⟨rfl, hq3, rdF_t (rdF_i (Or.inl rfl)) hF3, fun z => by cases z⟩)
                                                 | (rw [stS_r hc114 hRR, rd1_cf (by decide) (by decide) hc59]
                                                    exact ⟨rfl, hq3, rdF_t (rdF_i (Or.inl rfl)) hF3, fun z => by cases z⟩)
                                                 | (rw [stS_r hc114 hRR, rd1_ct (it := 59) (by decide) (by decide) hc59]
                                                    refine ⟨rfl, gI_self _ _ _ _, rdF_t (rdF_i (Or.inl rfl)) (rdF_t hF3 (rdF_i (Or.inl rfl))), fun _ => ⟨?_, ?_, ?_⟩⟩
                                                    · exact fun z => absurd (hc114.symm.trans z) (by decide)
                                                    · exact fun _ i hi => (gI_ne (Or.inl (by decide))).trans (htd3 rfl i hi)
                                                    · exact fun z => absurd (hc114.symm.trans z) (by decide))
                                                 | (rw [stS_f hc102 hRR, rd1_f rfl]
                                                    exact ⟨rfl, hq3, rdF_t (rdF_i (Or.inl rfl)) hF3, fun z => by cases z⟩)
                                                 | (rw [stS_f hc102 hRR, rd1_cf (by decide) (by decide) hc59]
                                                    exact ⟨rfl, hq3, rdF_t (rdF_i (Or.inl rfl)) hF3, fun z => by cases z⟩)
                                                 | (rw [stS_f hc102 hRR, rd1_ct (it := 59) (by decide) (by decide) hc59]
                                                    refine ⟨rfl, gI_self _ _ _ _, rdF_t (rdF_i (Or.inl rfl)) (rdF_t hF3 (rdF_i (Or.inl rfl))), fun _ => ⟨?_, ?_, ?_⟩⟩
                                                    · exact fun z => absurd (hc102.symm.trans z) (by decide)
                                                    · exact fun z => absurd (hc102.symm.trans z) (by decide)
                                                    · exact fun _ => (gI_ne (Or.inl (by decide))).trans (htd3 rfl 0 (by omega)))
                                                 | (rw [stS_n hc112 hc114 hc102]; exact ⟨rfl, hp, rdF_r, fun z => by cases z⟩))
                                      · dsimp only [Option.toList, List.cons_append, List.nil_append]
                                        refine xG_br rfl (fun h90 => ?_) (fun h90 => ?_)
                                        · first
                                            | (exfalso; first | exact absurd h90 (by decide) | exact h90 (by decide) | (simp at h90; done))
                                            | (refine xG_run 1 rfl (by repeat' (first | exact trivial | assumption | exact xob_b rfl | exact xal_b rfl | (apply And.intro) | decide)) ?_
                                               try dsimp only [xsto1, xsto2, xkill, xget, xset, gd_0, gd_s]
                                               refine r2_z rfl rfl (by first | decide | assumption) ?_
                                               first
                                                 | (rw [stS_p hc112 hRR, rd1_f rfl]
                                                    exact ⟨rfl, hq3, rdF_t (rdF_i (Or.inl rfl)) hF3, fun z => by cases z⟩)
                                                 | (rw [stS_p hc112 hRR, rd1_cf (by decide) (by decide) hc59]
                                                    exact ⟨rfl, hq3, rdF_t (rdF_i (Or.inl rfl)) hF3, fun z => by cases z⟩)
                                                 | (rw [stS_p hc112 hRR, rd1_ct (it := 59) (by decide) (by decide) hc59]
                                                    refine ⟨rfl, gI_self _ _ _ _, rdF_t (rdF_i (Or.inl rfl)) (rdF_t hF3 (rdF_i (Or.inl rfl))), fun _ => ⟨?_, ?_, ?_⟩⟩
                                                    · exact fun _ i hi => (gI_ne (Or.inl (by decide))).trans (htd3 rfl i hi)
                                                    · exact fun z => absurd (hc112.symm.trans z) (by decide)
                                                    · exact fun z => absurd (hc112.symm.trans z) (by decide))
                                                 | (rw [stS_r hc114 hRR, rd1_f rfl]
                                                    exact ⟨rfl, hq3, rdF_t (rdF_i (Or.inl rfl)) hF3, fun z => by cases z⟩)
                                                 | (rw [stS_r hc114 hRR, rd1_cf (by decide) (by decide) hc59]
                                                    exact ⟨rfl, hq3, rdF_t (rdF_i (Or.inl rfl)) hF3, fun z => by cases z⟩)
                                                 | (rw [stS_r hc114 hRR, rd1_ct (it := 59) (by decide) (by decide) hc59]
                                                    refine ⟨rfl, gI_self _ _ _ _, rdF_t (rdF_i (Or.inl rfl)) (rdF_t hF3 (rdF_i (Or.inl rfl))), fun _ => ⟨?_, ?_, ?_⟩⟩
                                                    · exact fun z => absurd (hc114.symm.trans z) (by decide)
                                                    · exact fun _ i hi => (gI_ne (Or.inl (by decide))).trans (htd3 rfl i hi)
                                                    · exact fun z => absurd (hc114.symm.trans z) (by decide))
                                                 | (rw [stS_f hc102 hRR, rd1_f rfl]
                                                    exact ⟨rfl, hq3, rdF_t (rdF_i (Or.inl rfl)) hF3, fun z => by cases z⟩)
                                                 | (rw [stS_f hc102 hRR, rd1_cf (by decide) (by decide) hc59]
                                                    exact ⟨rfl, hq3, rdF_t (rdF_i (Or.inl rfl)) hF3, fun z => by cases z⟩)
                                                 | (rw [stS_f hc102 hRR, rd1_ct (it := 59) (by decide) (by decide) hc59]
                                                    refine ⟨rfl, gI_self _ _ _ _, rdF_t (rdF_i (Or.inl rfl)) (rdF_t hF3 (rdF_i (Or.inl rfl))), fun _ => ⟨?_, ?_, ?_⟩⟩
                                                    · exact fun z => absurd (hc102.symm.trans z) (by decide)
                                                    · exact fun z => absurd (hc102.symm.trans z) (by decide)
                                                    · exact fun _ => (gI_ne (Or.inl (by decide))).trans (htd3 rfl 0 (by omega)))
                                                 | (rw [stS_n hc112 hc114 hc102]; exact ⟨rfl, hp, rdF_r, fun z => by cases z⟩))
                                        · first
                                            | (exfalso; first | exact absurd h90 (by decide) | exact h90 (by decide) | (simp at h90; done))
                                            | (refine xG_run 2 rfl (by repeat' (first | exact trivial | assumption | exact xob_b rfl | exact xal_b rfl | (apply And.intro) | decide)) ?_
                                               try dsimp only [xsto1, xsto2, xkill, xget, xset, gd_0, gd_s]
                                               refine r2_z rfl rfl (by first | decide | assumption) ?_
                                               first
                                                 | (rw [stS_p hc112 hRR, rd1_f rfl]
                                                    exact ⟨rfl, hq3, rdF_t (rdF_i (Or.inl rfl)) hF3, fun z => by cases z⟩)
                                                 | (rw [stS_p hc112 hRR, rd1_cf (by decide) (by decide) hc59]
                                                    exact ⟨rfl, hq3, rdF_t (rdF_i (Or.inl rfl)) hF3, fun z => by cases z⟩)
                                                 | (rw [stS_p hc112 hRR, rd1_ct (it := 59) (by decide) (by decide) hc59]
                                                    refine ⟨rfl, gI_self _ _ _ _, rdF_t (rdF_i (Or.inl rfl)) (rdF_t hF3 (rdF_i (Or.inl rfl))), fun _ => ⟨?_, ?_, ?_⟩⟩
                                                    · exact fun _ i hi => (gI_ne (Or.inl (by decide))).trans (htd3 rfl i hi)
                                                    · exact fun z => absurd (hc112.symm.trans z) (by decide)
                                                    · exact fun z => absurd (hc112.symm.trans z) (by decide))
                                                 | (rw [stS_r hc114 hRR, rd1_f rfl]
                                                    exact ⟨rfl, hq3, rdF_t (rdF_i (Or.inl rfl)) hF3, fun z => by cases z⟩)
                                                 | (rw [stS_r hc114 hRR, rd1_cf (by decide) (by decide) hc59]
                                                    exact ⟨rfl, hq3, rdF_t (rdF_i (Or.inl rfl)) hF3, fun z => by cases z⟩)
                                                 | (rw [stS_r hc114 hRR, rd1_ct (it := 59) (by decide) (by decide) hc59]
                                                    refine ⟨rfl, gI_self _ _ _ _, rdF_t (rdF_i (Or.inl rfl)) (rdF_t hF3 (rdF_i (Or.inl rfl))), fun _ => ⟨?_, ?_, ?_⟩⟩
                                                    · exact fun z => absurd (hc114.symm.trans z) (by decide)
                                                    · exact fun _ i hi => (gI_ne (Or.inl (by decide))).trans (htd3 rfl i hi)
                                                    · exact fun z => absurd (hc114.symm.trans z) (by decide))
                                                 | (rw [stS_f hc102 hRR, rd1_f rfl]
                                                    exact ⟨rfl, hq3, rdF_t (rdF_i (Or.inl rfl)) hF3, fun z => by cases z⟩)
                                                 | (rw [stS_f hc102 hRR, rd1_cf (by decide) (by decide) hc59]
                                                    exact ⟨rfl, hq3, rdF_t (rdF_i (Or.inl rfl)) hF3, fun z => by cases z⟩)
                                                 | (rw [stS_f hc102 hRR, rd1_ct (it := 59) (by decide) (by decide) hc59]
                                                    refine ⟨rfl, gI_self _ _ _ _, rdF_t (rdF_i (Or.inl rfl)) (rdF_t hF3 (rdF_i (Or.inl rfl))), fun _ => ⟨?_, ?_, ?_⟩⟩
                                                    · exact fun z => absurd (hc102.symm.trans z) (by decide)
                                                    · exact fun z => absurd (hc102.symm.trans z) (by decide)
                                                    · exact fun _ => (gI_ne (Or.inl (by decide))).trans (htd3 rfl 0 (by omega)))
                                                 | (rw [stS_n hc112 hc114 hc102]; exact ⟨rfl, hp, rdF_r, fun z => by cases z⟩)))
                             · dsimp only [Option.toList, List.cons_append, List.nil_append]
                               have hT3 := rT_F hTa hF3
                               have hq9 : q ≤ n := by
                                 have e := rdS_le (T := T) (n := n) (l := itK false 1) (s := (true, p + 1, [], 0)) (by show p + 1 ≤ n; omega) (itK_le 1)
                                 rw [hRR] at e
                                 exact e
                               refine xG_br rfl (fun h81 => ?_) (fun h81 => ?_)
                               · first
                                   | (exfalso; first | exact absurd h81 (by decide) | exact h81 (by decide) | (simp at h81; done))
                                   | (refine xG_run 1 rfl (by repeat' (first | exact trivial | assumption | exact xob_b rfl | exact xal_b rfl | (apply And.intro) | decide)) ?_
                                      try dsimp only [xsto1, xsto2, xkill, xget, xset, gd_0, gd_s]
                                      refine r2_z rfl rfl (by first | decide | assumption) ?_
                                      first
                                        | (rw [stS_p hc112 hRR, rd1_f rfl]
                                           exact ⟨rfl, hq3, rdF_t (rdF_i (Or.inl rfl)) hF3, fun z => by cases z⟩)
                                        | (rw [stS_p hc112 hRR, rd1_cf (by decide) (by decide) hc59]
                                           exact ⟨rfl, hq3, rdF_t (rdF_i (Or.inl rfl)) hF3, fun z => by cases z⟩)
                                        | (rw [stS_p hc112 hRR, rd1_ct (it := 59) (by decide) (by decide) hc59]
                                           refine ⟨rfl, gI_self _ _ _ _, rdF_t (rdF_i (Or.inl rfl)) (rdF_t hF3 (rdF_i (Or.inl rfl))), fun _ => ⟨?_, ?_, ?_⟩⟩
                                           · exact fun _ i hi => (gI_ne (Or.inl (by decide))).trans (htd3 rfl i hi)
                                           · exact fun z => absurd (hc112.symm.trans z) (by decide)
                                           · exact fun z => absurd (hc112.symm.trans z) (by decide))
                                        | (rw [stS_r hc114 hRR, rd1_f rfl]
                                           exact ⟨rfl, hq3, rdF_t (rdF_i (Or.inl rfl)) hF3, fun z => by cases z⟩)
                                        | (rw [stS_r hc114 hRR, rd1_cf (by decide) (by decide) hc59]
                                           exact ⟨rfl, hq3, rdF_t (rdF_i (Or.inl rfl)) hF3, fun z => by cases z⟩)
                                        | (rw [stS_r hc114 hRR, rd1_ct (it := 59) (by decide) (by decide) hc59]
                                           refine ⟨rfl, gI_self _ _ _ _, rdF_t (rdF_i (Or.inl rfl)) (rdF_t hF3 (rdF_i (Or.inl rfl))), fun _ => ⟨?_, ?_, ?_⟩⟩
                                           · exact fun z => absurd (hc114.symm.trans z) (by decide)
                                           · exact fun _ i hi => (gI_ne (Or.inl (by decide))).trans (htd3 rfl i hi)
                                           · exact fun z => absurd (hc114.symm.trans z) (by decide))
                                        | (rw [stS_f hc102 hRR, rd1_f rfl]
                                           exact ⟨rfl, hq3, rdF_t (rdF_i (Or.inl rfl)) hF3, fun z => by cases z⟩)
                                        | (rw [stS_f hc102 hRR, rd1_cf (by decide) (by decide) hc59]
                                           exact ⟨rfl, hq3, rdF_t (rdF_i (Or.inl rfl)) hF3, fun z => by cases z⟩)
                                        | (rw [stS_f hc102 hRR, rd1_ct (it := 59) (by decide) (by decide) hc59]
                                           refine ⟨rfl, gI_self _ _ _ _, rdF_t (rdF_i (Or.inl rfl)) (rdF_t hF3 (rdF_i (Or.inl rfl))), fun _ => ⟨?_, ?_, ?_⟩⟩
                                           · exact fun z => absurd (hc102.symm.trans z) (by decide)
                                           · exact fun z => absurd (hc102.symm.trans z) (by decide)
                                           · exact fun _ => (gI_ne (Or.inl (by decide))).trans (htd3 rfl 0 (by omega)))
                                        | (rw [stS_n hc112 hc114 hc102]; exact ⟨rfl, hp, rdF_r, fun z => by cases z⟩))
                               · first
                                   | (exfalso; first | exact absurd h81 (by decide) | exact h81 (by decide) | (simp at h81; done))
                                   | (refine xG_run 2 rfl (by repeat' (first | exact trivial | assumption | exact xob_b rfl | exact xal_b rfl | (apply And.intro) | decide)) ?_
                                      try dsimp only [xsto1, xsto2, xkill, xget, xset, gd_0, gd_s]
                                      refine xG_c2 1 rfl (by repeat' (first | exact trivial | assumption | exact xob_b rfl | exact xal_b rfl | (apply And.intro) | decide)) rfl rfl (by decide) cw_X12_takes (d' := d - 1) (e_takes (p := q) (c := 59) hT3 hq3 (by omega) (by omega)) (by omega) ?_
                                      rintro v M4 (⟨hc59, rfl, rfl⟩ | ⟨hc59, rfl, rfl⟩)
                                      · dsimp only [Option.toList, List.cons_append, List.nil_append]
                                        refine xG_br rfl (fun h90 => ?_) (fun h90 => ?_)
                                        · first
                                            | (exfalso; first | exact absurd h90 (by decide) | exact h90 (by decide) | (simp at h90; done))
                                            | (refine xG_run 1 rfl (by repeat' (first | exact trivial | assumption | exact xob_b rfl | exact xal_b rfl | (apply And.intro) | decide)) ?_
                                               try dsimp only [xsto1, xsto2, xkill, xget, xset, gd_0, gd_s]
                                               refine r2_z rfl rfl (by first | decide | assumption) ?_
                                               first
                                                 | (rw [stS_p hc112 hRR, rd1_f rfl]
                                                    exact ⟨rfl, hq3, rdF_t (rdF_i (Or.inl rfl)) hF3, fun z => by cases z⟩)
                                                 | (rw [stS_p hc112 hRR, rd1_cf (by decide) (by decide) hc59]
                                                    exact ⟨rfl, hq3, rdF_t (rdF_i (Or.inl rfl)) hF3, fun z => by cases z⟩)
                                                 | (rw [stS_p hc112 hRR, rd1_ct (it := 59) (by decide) (by decide) hc59]
                                                    refine ⟨rfl, gI_self _ _ _ _, rdF_t (rdF_i (Or.inl rfl)) (rdF_t hF3 (rdF_i (Or.inl rfl))), fun _ => ⟨?_, ?_, ?_⟩⟩
                                                    · exact fun _ i hi => (gI_ne (Or.inl (by decide))).trans (htd3 rfl i hi)
                                                    · exact fun z => absurd (hc112.symm.trans z) (by decide)
                                                    · exact fun z => absurd (hc112.symm.trans z) (by decide))
                                                 | (rw [stS_r hc114 hRR, rd1_f rfl]
                                                    exact ⟨rfl, hq3, rdF_t (rdF_i (Or.inl rfl)) hF3, fun z => by cases z⟩)
                                                 | (rw [stS_r hc114 hRR, rd1_cf (by decide) (by decide) hc59]
                                                    exact ⟨rfl, hq3, rdF_t (rdF_i (Or.inl rfl)) hF3, fun z => by cases z⟩)
                                                 | (rw [stS_r hc114 hRR, rd1_ct (it := 59) (by decide) (by decide) hc59]
                                                    refine ⟨rfl, gI_self _ _ _ _, rdF_t (rdF_i (Or.inl rfl)) (rdF_t hF3 (rdF_i (Or.inl rfl))), fun _ => ⟨?_, ?_, ?_⟩⟩
                                                    · exact fun z => absurd (hc114.symm.trans z) (by decide)
                                                    · exact fun _ i hi => (gI_ne (Or.inl (by decide))).trans (htd3 rfl i hi)
                                                    · exact fun z => absurd (hc114.symm.trans z) (by decide))
                                                 | (rw [stS_f hc102 hRR, rd1_f rfl]
                                                    exact ⟨rfl, hq3, rdF_t (rdF_i (Or.inl rfl)) hF3, fun z => by cases z⟩)
                                                 | (rw [stS_f hc102 hRR, rd1_cf (by decide) (by decide) hc59]
                                                    exact ⟨rfl, hq3, rdF_t (rdF_i (Or.inl rfl)) hF3, fun z => by cases z⟩)
                                                 | (rw [stS_f hc102 hRR, rd1_ct (it := 59) (by decide) (by decide) hc59]
                                                    refine ⟨rfl, gI_self _ _ _ _, rdF_t (rdF_i (Or.inl rfl)) (rdF_t hF3 (rdF_i (Or.inl rfl))), fun _ => ⟨?_, ?_, ?_⟩⟩
                                                    · exact fun z => absurd (hc102.symm.trans z) (by decide)
                                                    · exact fun z => absurd (hc102.symm.trans z) (by decide)
                                                    · exact fun _ => (gI_ne (Or.inl (by decide))).trans (htd3 rfl 0 (by omega)))
                                                 | (rw [stS_n hc112 hc114 hc102]; exact ⟨rfl, hp, rdF_r, fun z => by cases z⟩))
                                        · first
                                            | (exfalso; first | exact absurd h90 (by decide) | exact h90 (by decide) | (simp at h90; done))
                                            | (refine xG_run 2 rfl (by repeat' (first | exact trivial | assumption | exact xob_b rfl | exact xal_b rfl | (apply And.intro) | decide)) ?_
                                               try dsimp only [xsto1, xsto2, xkill, xget, xset, gd_0, gd_s]
                                               refine r2_z rfl rfl (by first | decide | assumption) ?_
                                               first
                                                 | (rw [stS_p hc112 hRR, rd1_f rfl]
                                                    exact ⟨rfl, hq3, rdF_t (rdF_i (Or.inl rfl)) hF3, fun z => by cases z⟩)
                                                 | (rw [stS_p hc112 hRR, rd1_cf (by decide) (by decide) hc59]
                                                    exact ⟨rfl, hq3, rdF_t (rdF_i (Or.inl rfl)) hF3, fun z => by cases z⟩)
                                                 | (rw [stS_p hc112 hRR, rd1_ct (it := 59) (by decide) (by decide) hc59]
                                                    refine ⟨rfl, gI_self _ _ _ _, rdF_t (rdF_i (Or.inl rfl)) (rdF_t hF3 (rdF_i (Or.inl rfl))), fun _ => ⟨?_, ?_, ?_⟩⟩
                                                    · exact fun _ i hi => (gI_ne (Or.inl (by decide))).trans (htd3 rfl i hi)
                                                    · exact fun z => absurd (hc112.symm.trans z) (by decide)
                                                    · exact fun z => absurd (hc112.symm.trans z) (by decide))
                                                 | (rw [stS_r hc114 hRR, rd1_f rfl]
                                                    exact ⟨rfl, hq3, rdF_t (rdF_i (Or.inl rfl)) hF3, fun z => by cases z⟩)
                                                 | (rw [stS_r hc114 hRR, rd1_cf (by decide) (by decide) hc59]
                                                    exact ⟨rfl, hq3, rdF_t (rdF_i (Or.inl rfl)) hF3, fun z => by cases z⟩)
                                                 | (rw [stS_r hc114 hRR, rd1_ct (it := 59) (by decide) (by decide) hc59]
                                                    refine ⟨rfl, gI_self _ _ _ _, rdF_t (rdF_i (Or.inl rfl)) (rdF_t hF3 (rdF_i (Or.inl rfl))), fun _ => ⟨?_, ?_, ?_⟩⟩
                                                    · exact fun z => absurd (hc114.symm.trans z) (by decide)
                                                    · exact fun _ i hi => (gI_ne (Or.inl (by decide))).trans (htd3 rfl i hi)
                                                    · exact fun z => absurd (hc114.symm.trans z) (by decide))
                                                 | (rw [stS_f hc102 hRR, rd1_f rfl]
                                                    exact ⟨rfl, hq3, rdF_t (rdF_i (Or.inl rfl)) hF3, fun z => by cases z⟩)
                                                 | (rw [stS_f hc102 hRR, rd1_cf (by decide) (by decide) hc59]
                                                    exact ⟨rfl, hq3, rdF_t (rdF_i (Or.inl rfl)) hF3, fun z => by cases z⟩)
                                                 | (rw [stS_f hc102 hRR, rd1_ct (it := 59) (by decide) (by decide) hc59]
                                                    refine ⟨rfl, gI_self _ _ _ _, rdF_t (rdF_i (Or.inl rfl)) (rdF_t hF3 (rdF_i (Or.inl rfl))), fun _ => ⟨?_, ?_, ?_⟩⟩
                                                    · exact fun z => absurd (hc102.symm.trans z) (by decide)
                                                    · exact fun z => absurd (hc102.symm.trans z) (by decide)
                                                    · exact fun _ => (gI_ne (Or.inl (by decide))).trans (htd3 rfl 0 (by omega)))
                                                 | (rw [stS_n hc112 hc114 hc102]; exact ⟨rfl, hp, rdF_r, fun z => by cases z⟩))
                                      · dsimp only [Option.toList, List.cons_append, List.nil_append]
                                        refine xG_br rfl (fun h90 => ?_) (fun h90 => ?_)
                                        · first
                                            | (exfalso; first | exact absurd h90 (by decide) | exact h90 (by decide) | (simp at h90; done))
                                            | (refine xG_run 1 rfl (by repeat' (first | exact trivial | assumption | exact xob_b rfl | exact xal_b rfl | (apply And.intro) | decide)) ?_
                                               try dsimp only [xsto1, xsto2, xkill, xget, xset, gd_0, gd_s]
                                               refine r2_z rfl rfl (by first | decide | assumption) ?_
                                               first
                                                 | (rw [stS_p hc112 hRR, rd1_f rfl]
                                                    exact ⟨rfl, hq3, rdF_t (rdF_i (Or.inl rfl)) hF3, fun z => by cases z⟩)
                                                 | (rw [stS_p hc112 hRR, rd1_cf (by decide) (by decide) hc59]
                                                    exact ⟨rfl, hq3, rdF_t (rdF_i (Or.inl rfl)) hF3, fun z => by cases z⟩)
                                                 | (rw [stS_p hc112 hRR, rd1_ct (it := 59) (by decide) (by decide) hc59]
                                                    refine ⟨rfl, gI_self _ _ _ _, rdF_t (rdF_i (Or.inl rfl)) (rdF_t hF3 (rdF_i (Or.inl rfl))), fun _ => ⟨?_, ?_, ?_⟩⟩
                                                    · exact fun _ i hi => (gI_ne (Or.inl (by decide))).trans (htd3 rfl i hi)
                                                    · exact fun z => absurd (hc112.symm.trans z) (by decide)
                                                    · exact fun z => absurd (hc112.symm.trans z) (by decide))
                                                 | (rw [stS_r hc114 hRR, rd1_f rfl]
                                                    exact ⟨rfl, hq3, rdF_t (rdF_i (Or.inl rfl)) hF3, fun z => by cases z⟩)
                                                 | (rw [stS_r hc114 hRR, rd1_cf (by decide) (by decide) hc59]
                                                    exact ⟨rfl, hq3, rdF_t (rdF_i (Or.inl rfl)) hF3, fun z => by cases z⟩)
                                                 | (rw [stS_r hc114 hRR, rd1_ct (it := 59) (by decide) (by decide) hc59]
                                                    refine ⟨rfl, gI_self _ _ _ _, rdF_t (rdF_i (Or.inl rfl)) (rdF_t hF3 (rdF_i (Or.inl rfl))), fun _ => ⟨?_, ?_, ?_⟩⟩
                                                    · exact fun z => absurd (hc114.symm.trans z) (by decide)
                                                    · exact fun _ i hi => (gI_ne (Or.inl (by decide))).trans (htd3 rfl i hi)
                                                    · exact fun z => absurd (hc114.symm.trans z) (by decide))
                                                 | (rw [stS_f hc102 hRR, rd1_f rfl]
                                                    exact ⟨rfl, hq3, rdF_t (rdF_i (Or.inl rfl)) hF3, fun z => by cases z⟩)
                                                 | (rw [stS_f hc102 hRR, rd1_cf (by decide) (by decide) hc59]
                                                    exact ⟨rfl, hq3, rdF_t (rdF_i (Or.inl rfl)) hF3, fun z => by cases z⟩)
                                                 | (rw [stS_f hc102 hRR, rd1_ct (it := 59) (by decide) (by decide) hc59]
                                                    refine ⟨rfl, gI_self _ _ _ _, rdF_t (rdF_i (Or.inl rfl)) (rdF_t hF3 (rdF_i (Or.inl rfl))), fun _ => ⟨?_, ?_, ?_⟩⟩
                                                    · exact fun z => absurd (hc102.symm.trans z) (by decide)
                                                    · exact fun z => absurd (hc102.symm.trans z) (by decide)
                                                    · exact fun _ => (gI_ne (Or.inl (by decide))).trans (htd3 rfl 0 (by omega)))
                                                 | (rw [stS_n hc112 hc114 hc102]; exact ⟨rfl, hp, rdF_r, fun z => by cases z⟩))
                                        · first
                                            | (exfalso; first | exact absurd h90 (by decide) | exact h90 (by decide) | (simp at h90; done))
                                            | (refine xG_run 2 rfl (by repeat' (first | exact trivial | assumption | exact xob_b rfl | exact xal_b rfl | (apply And.intro) | decide)) ?_
                                               try dsimp only [xsto1, xsto2, xkill, xget, xset, gd_0, gd_s]
                                               refine r2_z rfl rfl (by first | decide | assumption) ?_
                                               first
                                                 | (rw [stS_p hc112 hRR, rd1_f rfl]
                                                    exact ⟨rfl, hq3, rdF_t (rdF_i (Or.inl rfl)) hF3, fun z => by cases z⟩)
                                                 | (rw [stS_p hc112 hRR, rd1_cf (by decide) (by decide) hc59]
                                                    exact ⟨rfl, hq3, rdF_t (rdF_i (Or.inl rfl)) hF3, fun z => by cases z⟩)
                                                 | (rw [stS_p hc112 hRR, rd1_ct (it := 59) (by decide) (by decide) hc59]
                                                    refine ⟨rfl, gI_self _ _ _ _, rdF_t (rdF_i (Or.inl rfl)) (rdF_t hF3 (rdF_i (Or.inl rfl))), fun _ => ⟨?_, ?_, ?_⟩⟩
                                                    · exact fun _ i hi => (gI_ne (Or.inl (by decide))).trans (htd3 rfl i hi)
                                                    · exact fun z => absurd (hc112.symm.trans z) (by decide)
                                                    · exact fun z => absurd (hc112.symm.trans z) (by decide))
                                                 | (rw [stS_r hc114 hRR, rd1_f rfl]
                                                    exact ⟨rfl, hq3, rdF_t (rdF_i (Or.inl rfl)) hF3, fun z => by cases z⟩)
                                                 | (rw [stS_r hc114 hRR, rd1_cf (by decide) (by decide) hc59]
                                                    exact ⟨rfl, hq3, rdF_t (rdF_i (Or.inl rfl)) hF3, fun z => by cases z⟩)
                                                 | (rw [stS_r hc114 hRR, rd1_ct (it := 59) (by decide) (by decide) hc59]
                                                    refine ⟨rfl, gI_self _ _ _ _, rdF_t (rdF_i (Or.inl rfl)) (rdF_t hF3 (rdF_i (Or.inl rfl))), fun _ => ⟨?_, ?_, ?_⟩⟩
                                                    · exact fun z => absurd (hc114.symm.trans z) (by decide)
                                                    · exact fun _ i hi => (gI_ne (Or.inl (by decide))).trans (htd3 rfl i hi)
                                                    · exact fun z => absurd (hc114.symm.trans z) (by decide))
                                                 | (rw [stS_f hc102 hRR, rd1_f rfl]
                                                    exact ⟨rfl, hq3, rdF_t (rdF_i (Or.inl rfl)) hF3, fun z => by cases z⟩)
                                                 | (rw [stS_f hc102 hRR, rd1_cf (by decide) (by decide) hc59]
                                                    exact ⟨rfl, hq3, rdF_t (rdF_i (Or.inl rfl)) hF3, fun z => by cases z⟩)
                                                 | (rw [stS_f hc102 hRR, rd1_ct (it := 59) (by decide) (by decide) hc59]
                                                    refine ⟨rfl, gI_self _ _ _ _, rdF_t (rdF_i (Or.inl rfl)) (rdF_t hF3 (rdF_i (Or.inl rfl))), fun _ => ⟨?_, ?_, ?_⟩⟩
                                                    · exact fun z => absurd (hc102.symm.trans z) (by decide)
                                                    · exact fun z => absurd (hc102.symm.trans z) (by decide)
                                                    · exact fun _ => (gI_ne (Or.inl (by decide))).trans (htd3 rfl 0 (by omega)))
                                                 | (rw [stS_n hc112 hc114 hc102]; exact ⟨rfl, hp, rdF_r, fun z => by cases z⟩))))
                    · dsimp only [Option.toList, List.cons_append, List.nil_append]
                      refine xG_br rfl (fun h72 => ?_) (fun h72 => ?_)
                      · first
                          | (exfalso; first | exact absurd h72 (by decide) | exact h72 (by decide) | (simp at h72; done))
                          | (refine xG_run 1 rfl (by repeat' (first | exact trivial | assumption | exact xob_b rfl | exact xal_b rfl | (apply And.intro) | decide)) ?_
                             try dsimp only [xsto1, xsto2, xkill, xget, xset, gd_0, gd_s]
                             refine r2_z rfl rfl (by first | decide | assumption) ?_
                             first
                               | (rw [stS_p hc112 hRR, rd1_f rfl]
                                  exact ⟨rfl, hq3, rdF_t (rdF_i (Or.inl rfl)) hF3, fun z => by cases z⟩)
                               | (rw [stS_p hc112 hRR, rd1_cf (by decide) (by decide) hc59]
                                  exact ⟨rfl, hq3, rdF_t (rdF_i (Or.inl rfl)) hF3, fun z => by cases z⟩)
                               | (rw [stS_p hc112 hRR, rd1_ct (it := 59) (by decide) (by decide) hc59]
                                  refine ⟨rfl, gI_self _ _ _ _, rdF_t (rdF_i (Or.inl rfl)) (rdF_t hF3 (rdF_i (Or.inl rfl))), fun _ => ⟨?_, ?_, ?_⟩⟩
                                  · exact fun _ i hi => (gI_ne (Or.inl (by decide))).trans (htd3 rfl i hi)
                                  · exact fun z => absurd (hc112.symm.trans z) (by decide)
                                  · exact fun z => absurd (hc112.symm.trans z) (by decide))
                               | (rw [stS_r hc114 hRR, rd1_f rfl]
                                  exact ⟨rfl, hq3, rdF_t (rdF_i (Or.inl rfl)) hF3, fun z => by cases z⟩)
                               | (rw [stS_r hc114 hRR, rd1_cf (by decide) (by decide) hc59]
                                  exact ⟨rfl, hq3, rdF_t (rdF_i (Or.inl rfl)) hF3, fun z => by cases z⟩)
                               | (rw [stS_r hc114 hRR, rd1_ct (it := 59) (by decide) (by decide) hc59]
                                  refine ⟨rfl, gI_self _ _ _ _, rdF_t (rdF_i (Or.inl rfl)) (rdF_t hF3 (rdF_i (Or.inl rfl))), fun _ => ⟨?_, ?_, ?_⟩⟩
                                  · exact fun z => absurd (hc114.symm.trans z) (by decide)
                                  · exact fun _ i hi => (gI_ne (Or.inl (by decide))).trans (htd3 rfl i hi)
                                  · exact fun z => absurd (hc114.symm.trans z) (by decide))
                               | (rw [stS_f hc102 hRR, rd1_f rfl]
                                  exact ⟨rfl, hq3, rdF_t (rdF_i (Or.inl rfl)) hF3, fun z => by cases z⟩)
                               | (rw [stS_f hc102 hRR, rd1_cf (by decide) (by decide) hc59]
                                  exact ⟨rfl, hq3, rdF_t (rdF_i (Or.inl rfl)) hF3, fun z => by cases z⟩)
                               | (rw [stS_f hc102 hRR, rd1_ct (it := 59) (by decide) (by decide) hc59]
                                  refine ⟨rfl, gI_self _ _ _ _, rdF_t (rdF_i (Or.inl rfl)) (rdF_t hF3 (rdF_i (Or.inl rfl))), fun _ => ⟨?_, ?_, ?_⟩⟩
                                  · exact fun z => absurd (hc102.symm.trans z) (by decide)
                                  · exact fun z => absurd (hc102.symm.trans z) (by decide)
                                  · exact fun _ => (gI_ne (Or.inl (by decide))).trans (htd3 rfl 0 (by omega)))
                               | (rw [stS_n hc112 hc114 hc102]; exact ⟨rfl, hp, rdF_r, fun z => by cases z⟩))
                      · first
                          | (exfalso; first | exact absurd h72 (by decide) | exact h72 (by decide) | (simp at h72; done))
                          | (refine xG_run 3 rfl (by repeat' (first | exact trivial | assumption | exact xob_b rfl | exact xal_b rfl | (apply And.intro) | decide)) ?_
                             try dsimp only [xsto1, xsto2, xkill, xget, xset, gd_0, gd_s]
                             refine xG_c2 2 rfl (by repeat' (first | exact trivial | assumption | exact xob_b rfl | exact xal_b rfl | (apply And.intro) | decide)) rfl rfl (by decide) cw_X12_readsNumbers (d' := d - 1) (e_readsNumbersU (m := 1) (p := p + 1) (sv := 0) hTa (gI_self _ _ _ _) (by omega) (by omega) (by omega)) (by omega) ?_
                             rintro v M3 ⟨rfl, hq3, hF3, htd3⟩
                             rcases hRR : rdS T n (itK false 1) (true, p + 1, [], 0) with ⟨ok, q, l, sx⟩
                             try rw [hRR] at hq3 htd3
                             dsimp only at hq3 htd3
                             cases ok
                             · dsimp only [Option.toList, List.cons_append, List.nil_append]
                               refine xG_br rfl (fun h81 => ?_) (fun h81 => ?_)
                               · first
                                   | (exfalso; first | exact absurd h81 (by decide) | exact h81 (by decide) | (simp at h81; done))
                                   | (refine xG_run 1 rfl (by repeat' (first | exact trivial | assumption | exact xob_b rfl | exact xal_b rfl | (apply And.intro) | decide)) ?_
                                      try dsimp only [xsto1, xsto2, xkill, xget, xset, gd_0, gd_s]
                                      refine r2_z rfl rfl (by first | decide | assumption) ?_
                                      first
                                        | (rw [stS_p hc112 hRR, rd1_f rfl]
                                           exact ⟨rfl, hq3, rdF_t (rdF_i (Or.inl rfl)) hF3, fun z => by cases z⟩)
                                        | (rw [stS_p hc112 hRR, rd1_cf (by decide) (by decide) hc59]
                                           exact ⟨rfl, hq3, rdF_t (rdF_i (Or.inl rfl)) hF3, fun z => by cases z⟩)
                                        | (rw [stS_p hc112 hRR, rd1_ct (it := 59) (by decide) (by decide) hc59]
                                           refine ⟨rfl, gI_self _ _ _ _, rdF_t (rdF_i (Or.inl rfl)) (rdF_t hF3 (rdF_i (Or.inl rfl))), fun _ => ⟨?_, ?_, ?_⟩⟩
                                           · exact fun _ i hi => (gI_ne (Or.inl (by decide))).trans (htd3 rfl i hi)
                                           · exact fun z => absurd (hc112.symm.trans z) (by decide)
                                           · exact fun z => absurd (hc112.symm.trans z) (by decide))
                                        | (rw [stS_r hc114 hRR, rd1_f rfl]
                                           exact ⟨rfl, hq3, rdF_t (rdF_i (Or.inl rfl)) hF3, fun z => by cases z⟩)
                                        | (rw [stS_r hc114 hRR, rd1_cf (by decide) (by decide) hc59]
                                           exact ⟨rfl, hq3, rdF_t (rdF_i (Or.inl rfl)) hF3, fun z => by cases z⟩)
                                        | (rw [stS_r hc114 hRR, rd1_ct (it := 59) (by decide) (by decide) hc59]
                                           refine ⟨rfl, gI_self _ _ _ _, rdF_t (rdF_i (Or.inl rfl)) (rdF_t hF3 (rdF_i (Or.inl rfl))), fun _ => ⟨?_, ?_, ?_⟩⟩
                                           · exact fun z => absurd (hc114.symm.trans z) (by decide)
                                           · exact fun _ i hi => (gI_ne (Or.inl (by decide))).trans (htd3 rfl i hi)
                                           · exact fun z => absurd (hc114.symm.trans z) (by decide))
                                        | (rw [stS_f hc102 hRR, rd1_f rfl]
                                           exact ⟨rfl, hq3, rdF_t (rdF_i (Or.inl rfl)) hF3, fun z => by cases z⟩)
                                        | (rw [stS_f hc102 hRR, rd1_cf (by decide) (by decide) hc59]
                                           exact ⟨rfl, hq3, rdF_t (rdF_i (Or.inl rfl)) hF3, fun z => by cases z⟩)
                                        | (rw [stS_f hc102 hRR, rd1_ct (it := 59) (by decide) (by decide) hc59]
                                           refine ⟨rfl, gI_self _ _ _ _, rdF_t (rdF_i (Or.inl rfl)) (rdF_t hF3 (rdF_i (Or.inl rfl))), fun _ => ⟨?_, ?_, ?_⟩⟩
                                           · exact fun z => absurd (hc102.symm.trans z) (by decide)
                                           · exact fun z => absurd (hc102.symm.trans z) (by decide)
                                           · exact fun _ => (gI_ne (Or.inl (by decide))).trans (htd3 rfl 0 (by omega)))
                                        | (rw [stS_n hc112 hc114 hc102]; exact ⟨rfl, hp, rdF_r, fun z => by cases z⟩))
                               · first
                                   | (exfalso; first | exact absurd h81 (by decide) | exact h81 (by decide) | (simp at h81; done))
                                   | (refine xG_run 2 rfl (by repeat' (first | exact trivial | assumption | exact xob_b rfl | exact xal_b rfl | (apply And.intro) | decide)) ?_
                                      try dsimp only [xsto1, xsto2, xkill, xget, xset, gd_0, gd_s]
                                      refine xG_c2 1 rfl (by repeat' (first | exact trivial | assumption | exact xob_b rfl | exact xal_b rfl | (apply And.intro) | decide)) rfl rfl (by decide) cw_X12_takes (d' := d - 1) (e_takes (p := q) (c := 59) hT3 hq3 (by omega) (by omega)) (by omega) ?_
                                      rintro v M4 (⟨hc59, rfl, rfl⟩ | ⟨hc59, rfl, rfl⟩)
                                      · dsimp only [Option.toList, List.cons_append, List.nil_append]
                                        refine xG_br rfl (fun h90 => ?_) (fun h90 => ?_)
                                        · first
                                            | (exfalso; first | exact absurd h90 (by decide) | exact h90 (by decide) | (simp at h90; done))
                                            | (refine xG_run 1 rfl (by repeat' (first | exact trivial | assumption | exact xob_b rfl | exact xal_b rfl | (apply And.intro) | decide)) ?_
                                               try dsimp only [xsto1, xsto2, xkill, xget, xset, gd_0, gd_s]
                                               refine r2_z rfl rfl (by first | decide | assumption) ?_
                                               first
                                                 | (rw [stS_p hc112 hRR, rd1_f rfl]
                                                    exact ⟨rfl, hq3, rdF_t (rdF_i (Or.inl rfl)) hF3, fun z => by cases z⟩)
                                                 | (rw [stS_p hc112 hRR, rd1_cf (by decide) (by decide) hc59]
                                                    exact ⟨rfl, hq3, rdF_t (rdF_i (Or.inl rfl)) hF3, fun z => by cases z⟩)
                                                 | (rw [stS_p hc112 hRR, rd1_ct (it := 59) (by decide) (by decide) hc59]
                                                    refine ⟨rfl, gI_self _ _ _ _, rdF_t (rdF_i (Or.inl rfl)) (rdF_t hF3 (rdF_i (Or.inl rfl))), fun _ => ⟨?_, ?_, ?_⟩⟩
                                                    · exact fun _ i hi => (gI_ne (Or.inl (by decide))).trans (htd3 rfl i hi)
                                                    · exact fun z => absurd (hc112.symm.trans z) (by decide)
                                                    · exact fun z => absurd (hc112.symm.trans z) (by decide))
                                                 | (rw [stS_r hc114 hRR, rd1_f rfl]
                                                    exact ⟨rfl, hq3, rdF_t (rdF_i (Or.inl rfl)) hF3, fun z => by cases z⟩)
                                                 | (rw [stS_r hc114 hRR, rd1_cf (by decide) (by decide) hc59]
                                                    exact ⟨rfl, hq3, rdF_t (rdF_i (Or.inl rfl)) hF3, fun z => by cases z⟩)
                                                 | (rw [stS_r hc114 hRR, rd1_ct (it := 59) (by decide) (by decide) hc59]
                                                    refine ⟨rfl, gI_self _ _ _ _, rdF_t (rdF_i (Or.inl rfl)) (rdF_t hF3 (rdF_i (Or.inl rfl))), fun _ => ⟨?_, ?_, ?_⟩⟩
                                                    · exact fun z => absurd (hc114.symm.trans z) (by decide)
                                                    · exact fun _ i hi => (gI_ne (Or.inl (by decide))).trans (htd3 rfl i hi)
                                                    · exact fun z => absurd (hc114.symm.trans z) (by decide))
                                                 | (rw [stS_f hc102 hRR, rd1_f rfl]
                                                    exact ⟨rfl, hq3, rdF_t (rdF_i (Or.inl rfl)) hF3, fun z => by cases z⟩)
                                                 | (rw [stS_f hc102 hRR, rd1_cf (by decide) (by decide) hc59]
                                                    exact ⟨rfl, hq3, rdF_t (rdF_i (Or.inl rfl)) hF3, fun z => by cases z⟩)
                                                 | (rw [stS_f hc102 hRR, rd1_ct (it := 59) (by decide) (by decide) hc59]
                                                    refine ⟨rfl, gI_self _ _ _ _, rdF_t (rdF_i (Or.inl rfl)) (rdF_t hF3 (rdF_i (Or.inl rfl))), fun _ => ⟨?_, ?_, ?_⟩⟩
                                                    · exact fun z => absurd (hc102.symm.trans z) (by decide)
                                                    · exact fun z => absurd (hc102.symm.trans z) (by decide)
                                                    · exact fun _ => (gI_ne (Or.inl (by decide))).trans (htd3 rfl 0 (by omega)))
                                                 | (rw [stS_n hc112 hc114 hc102]; exact ⟨rfl, hp, rdF_r, fun z => by cases z⟩))
                                        · first
                                            | (exfalso; first | exact absurd h90 (by decide) | exact h90 (by decide) | (simp at h90; done))
                                            | (refine xG_run 2 rfl (by repeat' (first | exact trivial | assumption | exact xob_b rfl | exact xal_b rfl | (apply And.intro) | decide)) ?_
                                               try dsimp only [xsto1, xsto2, xkill, xget, xset, gd_0, gd_s]
                                               refine r2_z rfl rfl (by first | decide | assumption) ?_
                                               first
                                                 | (rw [stS_p hc112 hRR, rd1_f rfl]
                                                    exact ⟨rfl, hq3, rdF_t (rdF_i (Or.inl rfl)) hF3, fun z => by cases z⟩)
                                                 | (rw [stS_p hc112 hRR, rd1_cf (by decide) (by decide) hc59]
                                                    exact ⟨rfl, hq3, rdF_t (rdF_i (Or.inl rfl)) hF3, fun z => by cases z⟩)
                                                 | (rw [stS_p hc112 hRR, rd1_ct (it := 59) (by decide) (by decide) hc59]
                                                    refine ⟨rfl, gI_self _ _ _ _, rdF_t (rdF_i (Or.inl rfl)) (rdF_t hF3 (rdF_i (Or.inl rfl))), fun _ => ⟨?_, ?_, ?_⟩⟩
                                                    · exact fun _ i hi => (gI_ne (Or.inl (by decide))).trans (htd3 rfl i hi)
                                                    · exact fun z => absurd (hc112.symm.trans z) (by decide)
                                                    · exact fun z => absurd (hc112.symm.trans z) (by decide))
                                                 | (rw [stS_r hc114 hRR, rd1_f rfl]
                                                    exact ⟨rfl, hq3, rdF_t (rdF_i (Or.inl rfl)) hF3, fun z => by cases z⟩)
                                                 | (rw [stS_r hc114 hRR, rd1_cf (by decide) (by decide) hc59]
                                                    exact ⟨rfl, hq3, rdF_t (rdF_i (Or.inl rfl)) hF3, fun z => by cases z⟩)
                                                 | (rw [stS_r hc114 hRR, rd1_ct (it := 59) (by decide) (by decide) hc59]
                                                    refine ⟨rfl, gI_self _ _ _ _, rdF_t (rdF_i (Or.inl rfl)) (rdF_t hF3 (rdF_i (Or.inl rfl))), fun _ => ⟨?_, ?_, ?_⟩⟩
                                                    · exact fun z => absurd (hc114.symm.trans z) (by decide)
                                                    · exact fun _ i hi => (gI_ne (Or.inl (by decide))).trans (htd3 rfl i hi)
                                                    · exact fun z => absurd (hc114.symm.trans z) (by decide))
                                                 | (rw [stS_f hc102 hRR, rd1_f rfl]
                                                    exact ⟨rfl, hq3, rdF_t (rdF_i (Or.inl rfl)) hF3, fun z => by cases z⟩)
                                                 | (rw [stS_f hc102 hRR, rd1_cf (by decide) (by decide) hc59]
                                                    exact ⟨rfl, hq3, rdF_t (rdF_i (Or.inl rfl)) hF3, fun z => by cases z⟩)
                                                 | (rw [stS_f hc102 hRR, rd1_ct (it := 59) (by decide) (by decide) hc59]
                                                    refine ⟨rfl, gI_self _ _ _ _, rdF_t (rdF_i (Or.inl rfl)) (rdF_t hF3 (rdF_i (Or.inl rfl))), fun _ => ⟨?_, ?_, ?_⟩⟩
                                                    · exact fun z => absurd (hc102.symm.trans z) (by decide)
                                                    · exact fun z => absurd (hc102.symm.trans z) (by decide)
                                                    · exact fun _ => (gI_ne (Or.inl (by decide))).trans (htd3 rfl 0 (by omega)))
                                                 | (rw [stS_n hc112 hc114 hc102]; exact ⟨rfl, hp, rdF_r, fun z => by cases z⟩))
                                      · dsimp only [Option.toList, List.cons_append, List.nil_append]
                                        refine xG_br rfl (fun h90 => ?_) (fun h90 => ?_)
                                        · first
                                            | (exfalso; first | exact absurd h90 (by decide) | exact h90 (by decide) | (simp at h90; done))
                                            | (refine xG_run 1 rfl (by repeat' (first | exact trivial | assumption | exact xob_b rfl | exact xal_b rfl | (apply And.intro) | decide)) ?_
                                               try dsimp only [xsto1, xsto2, xkill, xget, xset, gd_0, gd_s]
                                               refine r2_z rfl rfl (by first | decide | assumption) ?_
                                               first
                                                 | (rw [stS_p hc112 hRR, rd1_f rfl]
                                                    exact ⟨rfl, hq3, rdF_t (rdF_i (Or.inl rfl)) hF3, fun z => by cases z⟩)
                                                 | (rw [stS_p hc112 hRR, rd1_cf (by decide) (by decide) hc59]
                                                    exact ⟨rfl, hq3, rdF_t (rdF_i (Or.inl rfl)) hF3, fun z => by cases z⟩)
                                                 | (rw [stS_p hc112 hRR, rd1_ct (it := 59) (by decide) (by decide) hc59]
                                                    refine ⟨rfl, gI_self _ _ _ _, rdF_t (rdF_i (Or.inl rfl)) (rdF_t hF3 (rdF_i (Or.inl rfl))), fun _ => ⟨?_, ?_, ?_⟩⟩
                                                    · exact fun _ i hi => (gI_ne (Or.inl (by decide))).trans (htd3 rfl i hi)
                                                    · exact fun z => absurd (hc112.symm.trans z) (by decide)
                                                    · exact fun z => absurd (hc112.symm.trans z) (by decide))
                                                 | (rw [stS_r hc114 hRR, rd1_f rfl]
                                                    exact ⟨rfl, hq3, rdF_t (rdF_i (Or.inl rfl)) hF3, fun z => by cases z⟩)
                                                 | (rw [stS_r hc114 hRR, rd1_cf (by decide) (by decide) hc59]
                                                    exact ⟨rfl, hq3, rdF_t (rdF_i (Or.inl rfl)) hF3, fun z => by cases z⟩)
                                                 | (rw [stS_r hc114 hRR, rd1_ct (it := 59) (by decide) (by decide) hc59]
                                                    refine ⟨rfl, gI_self _ _ _ _, rdF_t (rdF_i (Or.inl rfl)) (rdF_t hF3 (rdF_i (Or.inl rfl))), fun _ => ⟨?_, ?_, ?_⟩⟩
                                                    · exact fun z => absurd (hc114.symm.trans z) (by decide)
                                                    · exact fun _ i hi => (gI_ne (Or.inl (by decide))).trans (htd3 rfl i hi)
                                                    · exact fun z => absurd (hc114.symm.trans z) (by decide))
                                                 | (rw [stS_f hc102 hRR, rd1_f rfl]
                                                    exact ⟨rfl, hq3, rdF_t (rdF_i (Or.inl rfl)) hF3, fun z => by cases z⟩)
                                                 | (rw [stS_f hc102 hRR, rd1_cf (by decide) (by decide) hc59]
                                                    exact ⟨rfl, hq3, rdF_t (rdF_i (Or.inl rfl)) hF3, fun z => by cases z⟩)
                                                 | (rw [stS_f hc102 hRR, rd1_ct (it := 59) (by decide) (by decide) hc59]
                                                    refine ⟨rfl, gI_self _ _ _ _, rdF_t (rdF_i (Or.inl rfl)) (rdF_t hF3 (rdF_i (Or.inl rfl))), fun _ => ⟨?_, ?_, ?_⟩⟩
                                                    · exact fun z => absurd (hc102.symm.trans z) (by decide)
                                                    · exact fun z => absurd (hc102.symm.trans z) (by decide)
                                                    · exact fun _ => (gI_ne (Or.inl (by decide))).trans (htd3 rfl 0 (by omega)))
                                                 | (rw [stS_n hc112 hc114 hc102]; exact ⟨rfl, hp, rdF_r, fun z => by cases z⟩))
                                        · first
                                            | (exfalso; first | exact absurd h90 (by decide) | exact h90 (by decide) | (simp at h90; done))
                                            | (refine xG_run 2 rfl (by repeat' (first | exact trivial | assumption | exact xob_b rfl | exact xal_b rfl | (apply And.intro) | decide)) ?_
                                               try dsimp only [xsto1, xsto2, xkill, xget, xset, gd_0, gd_s]
                                               refine r2_z rfl rfl (by first | decide | assumption) ?_
                                               first
                                                 | (rw [stS_p hc112 hRR, rd1_f rfl]
                                                    exact ⟨rfl, hq3, rdF_t (rdF_i (Or.inl rfl)) hF3, fun z => by cases z⟩)
                                                 | (rw [stS_p hc112 hRR, rd1_cf (by decide) (by decide) hc59]
                                                    exact ⟨rfl, hq3, rdF_t (rdF_i (Or.inl rfl)) hF3, fun z => by cases z⟩)
                                                 | (rw [stS_p hc112 hRR, rd1_ct (it := 59) (by decide) (by decide) hc59]
                                                    refine ⟨rfl, gI_self _ _ _ _, rdF_t (rdF_i (Or.inl rfl)) (rdF_t hF3 (rdF_i (Or.inl rfl))), fun _ => ⟨?_, ?_, ?_⟩⟩
                                                    · exact fun _ i hi => (gI_ne (Or.inl (by decide))).trans (htd3 rfl i hi)
                                                    · exact fun z => absurd (hc112.symm.trans z) (by decide)
                                                    · exact fun z => absurd (hc112.symm.trans z) (by decide))
                                                 | (rw [stS_r hc114 hRR, rd1_f rfl]
                                                    exact ⟨rfl, hq3, rdF_t (rdF_i (Or.inl rfl)) hF3, fun z => by cases z⟩)
                                                 | (rw [stS_r hc114 hRR, rd1_cf (by decide) (by decide) hc59]
                                                    exact ⟨rfl, hq3, rdF_t (rdF_i (Or.inl rfl)) hF3, fun z => by cases z⟩)
                                                 | (rw [stS_r hc114 hRR, rd1_ct (it := 59) (by decide) (by decide) hc59]
                                                    refine ⟨rfl, gI_self _ _ _ _, rdF_t (rdF_i (Or.inl rfl)) (rdF_t hF3 (rdF_i (Or.inl rfl))), fun _ => ⟨?_, ?_, ?_⟩⟩
                                                    · exact fun z => absurd (hc114.symm.trans z) (by decide)
                                                    · exact fun _ i hi => (gI_ne (Or.inl (by decide))).trans (htd3 rfl i hi)
                                                    · exact fun z => absurd (hc114.symm.trans z) (by decide))
                                                 | (rw [stS_f hc102 hRR, rd1_f rfl]
                                                    exact ⟨rfl, hq3, rdF_t (rdF_i (Or.inl rfl)) hF3, fun z => by cases z⟩)
                                                 | (rw [stS_f hc102 hRR, rd1_cf (by decide) (by decide) hc59]
                                                    exact ⟨rfl, hq3, rdF_t (rdF_i (Or.inl rfl)) hF3, fun z => by cases z⟩)
                                                 | (rw [stS_f hc102 hRR, rd1_ct (it := 59) (by decide) (by decide) hc59]
                                                    refine ⟨rfl, gI_self _ _ _ _, rdF_t (rdF_i (Or.inl rfl)) (rdF_t hF3 (rdF_i (Or.inl rfl))), fun _ => ⟨?_, ?_, ?_⟩⟩
                                                    · exact fun z => absurd (hc102.symm.trans z) (by decide)
                                                    · exact fun z => absurd (hc102.symm.trans z) (by decide)
                                                    · exact fun _ => (gI_ne (Or.inl (by decide))).trans (htd3 rfl 0 (by omega)))
                                                 | (rw [stS_n hc112 hc114 hc102]; exact ⟨rfl, hp, rdF_r, fun z => by cases z⟩)))
                             · dsimp only [Option.toList, List.cons_append, List.nil_append]
                               have hT3 := rT_F hTa hF3
                               have hq9 : q ≤ n := by
                                 have e := rdS_le (T := T) (n := n) (l := itK false 1) (s := (true, p + 1, [], 0)) (by show p + 1 ≤ n; omega) (itK_le 1)
                                 rw [hRR] at e
                                 exact e
                               refine xG_br rfl (fun h81 => ?_) (fun h81 => ?_)
                               · first
                                   | (exfalso; first | exact absurd h81 (by decide) | exact h81 (by decide) | (simp at h81; done))
                                   | (refine xG_run 1 rfl (by repeat' (first | exact trivial | assumption | exact xob_b rfl | exact xal_b rfl | (apply And.intro) | decide)) ?_
                                      try dsimp only [xsto1, xsto2, xkill, xget, xset, gd_0, gd_s]
                                      refine r2_z rfl rfl (by first | decide | assumption) ?_
                                      first
                                        | (rw [stS_p hc112 hRR, rd1_f rfl]
                                           exact ⟨rfl, hq3, rdF_t (rdF_i (Or.inl rfl)) hF3, fun z => by cases z⟩)
                                        | (rw [stS_p hc112 hRR, rd1_cf (by decide) (by decide) hc59]
                                           exact ⟨rfl, hq3, rdF_t (rdF_i (Or.inl rfl)) hF3, fun z => by cases z⟩)
                                        | (rw [stS_p hc112 hRR, rd1_ct (it := 59) (by decide) (by decide) hc59]
                                           refine ⟨rfl, gI_self _ _ _ _, rdF_t (rdF_i (Or.inl rfl)) (rdF_t hF3 (rdF_i (Or.inl rfl))), fun _ => ⟨?_, ?_, ?_⟩⟩
                                           · exact fun _ i hi => (gI_ne (Or.inl (by decide))).trans (htd3 rfl i hi)
                                           · exact fun z => absurd (hc112.symm.trans z) (by decide)
                                           · exact fun z => absurd (hc112.symm.trans z) (by decide))
                                        | (rw [stS_r hc114 hRR, rd1_f rfl]
                                           exact ⟨rfl, hq3, rdF_t (rdF_i (Or.inl rfl)) hF3, fun z => by cases z⟩)
                                        | (rw [stS_r hc114 hRR, rd1_cf (by decide) (by decide) hc59]
                                           exact ⟨rfl, hq3, rdF_t (rdF_i (Or.inl rfl)) hF3, fun z => by cases z⟩)
                                        | (rw [stS_r hc114 hRR, rd1_ct (it := 59) (by decide) (by decide) hc59]
                                           refine ⟨rfl, gI_self _ _ _ _, rdF_t (rdF_i (Or.inl rfl)) (rdF_t hF3 (rdF_i (Or.inl rfl))), fun _ => ⟨?_, ?_, ?_⟩⟩
                                           · exact fun z => absurd (hc114.symm.trans z) (by decide)
                                           · exact fun _ i hi => (gI_ne (Or.inl (by decide))).trans (htd3 rfl i hi)
                                           · exact fun z => absurd (hc114.symm.trans z) (by decide))
                                        | (rw [stS_f hc102 hRR, rd1_f rfl]
                                           exact ⟨rfl, hq3, rdF_t (rdF_i (Or.inl rfl)) hF3, fun z => by cases z⟩)
                                        | (rw [stS_f hc102 hRR, rd1_cf (by decide) (by decide) hc59]
                                           exact ⟨rfl, hq3, rdF_t (rdF_i (Or.inl rfl)) hF3, fun z => by cases z⟩)
                                        | (rw [stS_f hc102 hRR, rd1_ct (it := 59) (by decide) (by decide) hc59]
                                           refine ⟨rfl, gI_self _ _ _ _, rdF_t (rdF_i (Or.inl rfl)) (rdF_t hF3 (rdF_i (Or.inl rfl))), fun _ => ⟨?_, ?_, ?_⟩⟩
                                           · exact fun z => absurd (hc102.symm.trans z) (by decide)
                                           · exact fun z => absurd (hc102.symm.trans z) (by decide)
                                           · exact fun _ => (gI_ne (Or.inl (by decide))).trans (htd3 rfl 0 (by omega)))
                                        | (rw [stS_n hc112 hc114 hc102]; exact ⟨rfl, hp, rdF_r, fun z => by cases z⟩))
                               · first
                                   | (exfalso; first | exact absurd h81 (by decide) | exact h81 (by decide) | (simp at h81; done))
                                   | (refine xG_run 2 rfl (by repeat' (first | exact trivial | assumption | exact xob_b rfl | exact xal_b rfl | (apply And.intro) | decide)) ?_
                                      try dsimp only [xsto1, xsto2, xkill, xget, xset, gd_0, gd_s]
                                      refine xG_c2 1 rfl (by repeat' (first | exact trivial | assumption | exact xob_b rfl | exact xal_b rfl | (apply And.intro) | decide)) rfl rfl (by decide) cw_X12_takes (d' := d - 1) (e_takes (p := q) (c := 59) hT3 hq3 (by omega) (by omega)) (by omega) ?_
                                      rintro v M4 (⟨hc59, rfl, rfl⟩ | ⟨hc59, rfl, rfl⟩)
                                      · dsimp only [Option.toList, List.cons_append, List.nil_append]
                                        refine xG_br rfl (fun h90 => ?_) (fun h90 => ?_)
                                        · first
                                            | (exfalso; first | exact absurd h90 (by decide) | exact h90 (by decide) | (simp at h90; done))
                                            | (refine xG_run 1 rfl (by repeat' (first | exact trivial | assumption | exact xob_b rfl | exact xal_b rfl | (apply And.intro) | decide)) ?_
                                               try dsimp only [xsto1, xsto2, xkill, xget, xset, gd_0, gd_s]
                                               refine r2_z rfl rfl (by first | decide | assumption) ?_
                                               first
                                                 | (rw [stS_p hc112 hRR, rd1_f rfl]
                                                    exact ⟨rfl, hq3, rdF_t (rdF_i (Or.inl rfl)) hF3, fun z => by cases z⟩)
                                                 | (rw [stS_p hc112 hRR, rd1_cf (by decide) (by decide) hc59]
                                                    exact ⟨rfl, hq3, rdF_t (rdF_i (Or.inl rfl)) hF3, fun z => by cases z⟩)
                                                 | (rw [stS_p hc112 hRR, rd1_ct (it := 59) (by decide) (by decide) hc59]
                                                    refine ⟨rfl, gI_self _ _ _ _, rdF_t (rdF_i (Or.inl rfl)) (rdF_t hF3 (rdF_i (Or.inl rfl))), fun _ => ⟨?_, ?_, ?_⟩⟩
                                                    · exact fun _ i hi => (gI_ne (Or.inl (by decide))).trans (htd3 rfl i hi)
                                                    · exact fun z => absurd (hc112.symm.trans z) (by decide)
                                                    · exact fun z => absurd (hc112.symm.trans z) (by decide))
                                                 | (rw [stS_r hc114 hRR, rd1_f rfl]
                                                    exact ⟨rfl, hq3, rdF_t (rdF_i (Or.inl rfl)) hF3, fun z => by cases z⟩)
                                                 | (rw [stS_r hc114 hRR, rd1_cf (by decide) (by decide) hc59]
                                                    exact ⟨rfl, hq3, rdF_t (rdF_i (Or.inl rfl)) hF3, fun z => by cases z⟩)
                                                 | (rw [stS_r hc114 hRR, rd1_ct (it := 59) (by decide) (by decide) hc59]
                                                    refine ⟨rfl, gI_self _ _ _ _, rdF_t (rdF_i (Or.inl rfl)) (rdF_t hF3 (rdF_i (Or.inl rfl))), fun _ => ⟨?_, ?_, ?_⟩⟩
                                                    · exact fun z => absurd (hc114.symm.trans z) (by decide)
                                                    · exact fun _ i hi => (gI_ne (Or.inl (by decide))).trans (htd3 rfl i hi)
                                                    · exact fun z => absurd (hc114.symm.trans z) (by decide))
                                                 | (rw [stS_f hc102 hRR, rd1_f rfl]
                                                    exact ⟨rfl, hq3, rdF_t (rdF_i (Or.inl rfl)) hF3, fun z => by cases z⟩)
                                                 | (rw [stS_f hc102 hRR, rd1_cf (by decide) (by decide) hc59]
                                                    exact ⟨rfl, hq3, rdF_t (rdF_i (Or.inl rfl)) hF3, fun z => by cases z⟩)
                                                 | (rw [stS_f hc102 hRR, rd1_ct (it := 59) (by decide) (by decide) hc59]
                                                    refine ⟨rfl, gI_self _ _ _ _, rdF_t (rdF_i (Or.inl rfl)) (rdF_t hF3 (rdF_i (Or.inl rfl))), fun _ => ⟨?_, ?_, ?_⟩⟩
                                                    · exact fun z => absurd (hc102.symm.trans z) (by decide)
                                                    · exact fun z => absurd (hc102.symm.trans z) (by decide)
                                                    · exact fun _ => (gI_ne (Or.inl (by decide))).trans (htd3 rfl 0 (by omega)))
                                                 | (rw [stS_n hc112 hc114 hc102]; exact ⟨rfl, hp, rdF_r, fun z => by cases z⟩))
                                        · first
                                            | (exfalso; first | exact absurd h90 (by decide) | exact h90 (by decide) | (simp at h90; done))
                                            | (refine xG_run 2 rfl (by repeat' (first | exact trivial | assumption | exact xob_b rfl | exact xal_b rfl | (apply And.intro) | decide)) ?_
                                               try dsimp only [xsto1, xsto2, xkill, xget, xset, gd_0, gd_s]
                                               refine r2_z rfl rfl (by first | decide | assumption) ?_
                                               first
                                                 | (rw [stS_p hc112 hRR, rd1_f rfl]
                                                    exact ⟨rfl, hq3, rdF_t (rdF_i (Or.inl rfl)) hF3, fun z => by cases z⟩)
                                                 | (rw [stS_p hc112 hRR, rd1_cf (by decide) (by decide) hc59]
                                                    exact ⟨rfl, hq3, rdF_t (rdF_i (Or.inl rfl)) hF3, fun z => by cases z⟩)
                                                 | (rw [stS_p hc112 hRR, rd1_ct (it := 59) (by decide) (by decide) hc59]
                                                    refine ⟨rfl, gI_self _ _ _ _, rdF_t (rdF_i (Or.inl rfl)) (rdF_t hF3 (rdF_i (Or.inl rfl))), fun _ => ⟨?_, ?_, ?_⟩⟩
                                                    · exact fun _ i hi => (gI_ne (Or.inl (by decide))).trans (htd3 rfl i hi)
                                                    · exact fun z => absurd (hc112.symm.trans z) (by decide)
                                                    · exact fun z => absurd (hc112.symm.trans z) (by decide))
                                                 | (rw [stS_r hc114 hRR, rd1_f rfl]
                                                    exact ⟨rfl, hq3, rdF_t (rdF_i (Or.inl rfl)) hF3, fun z => by cases z⟩)
                                                 | (rw [stS_r hc114 hRR, rd1_cf (by decide) (by decide) hc59]
                                                    exact ⟨rfl, hq3, rdF_t (rdF_i (Or.inl rfl)) hF3, fun z => by cases z⟩)
                                                 | (rw [stS_r hc114 hRR, rd1_ct (it := 59) (by decide) (by decide) hc59]
                                                    refine ⟨rfl, gI_self _ _ _ _, rdF_t (rdF_i (Or.inl rfl)) (rdF_t hF3 (rdF_i (Or.inl rfl))), fun _ => ⟨?_, ?_, ?_⟩⟩
                                                    · exact fun z => absurd (hc114.symm.trans z) (by decide)
                                                    · exact fun _ i hi => (gI_ne (Or.inl (by decide))).trans (htd3 rfl i hi)
                                                    · exact fun z => absurd (hc114.symm.trans z) (by decide))
                                                 | (rw [stS_f hc102 hRR, rd1_f rfl]
                                                    exact ⟨rfl, hq3, rdF_t (rdF_i (Or.inl rfl)) hF3, fun z => by cases z⟩)
                                                 | (rw [stS_f hc102 hRR, rd1_cf (by decide) (by decide) hc59]
                                                    exact ⟨rfl, hq3, rdF_t (rdF_i (Or.inl rfl)) hF3, fun z => by cases z⟩)
                                                 | (rw [stS_f hc102 hRR, rd1_ct (it := 59) (by decide) (by decide) hc59]
                                                    refine ⟨rfl, gI_self _ _ _ _, rdF_t (rdF_i (Or.inl rfl)) (rdF_t hF3 (rdF_i (Or.inl rfl))), fun _ => ⟨?_, ?_, ?_⟩⟩
                                                    · exact fun z => absurd (hc102.symm.trans z) (by decide)
                                                    · exact fun z => absurd (hc102.symm.trans z) (by decide)
                                                    · exact fun _ => (gI_ne (Or.inl (by decide))).trans (htd3 rfl 0 (by omega)))
                                                 | (rw [stS_n hc112 hc114 hc102]; exact ⟨rfl, hp, rdF_r, fun z => by cases z⟩))
                                      · dsimp only [Option.toList, List.cons_append, List.nil_append]
                                        refine xG_br rfl (fun h90 => ?_) (fun h90 => ?_)
                                        · first
                                            | (exfalso; first | exact absurd h90 (by decide) | exact h90 (by decide) | (simp at h90; done))
                                            | (refine xG_run 1 rfl (by repeat' (first | exact trivial | assumption | exact xob_b rfl | exact xal_b rfl | (apply And.intro) | decide)) ?_
                                               try dsimp only [xsto1, xsto2, xkill, xget, xset, gd_0, gd_s]
                                               refine r2_z rfl rfl (by first | decide | assumption) ?_
                                               first
                                                 | (rw [stS_p hc112 hRR, rd1_f rfl]
                                                    exact ⟨rfl, hq3, rdF_t (rdF_i (Or.inl rfl)) hF3, fun z => by cases z⟩)
                                                 | (rw [stS_p hc112 hRR, rd1_cf (by decide) (by decide) hc59]
                                                    exact ⟨rfl, hq3, rdF_t (rdF_i (Or.inl rfl)) hF3, fun z => by cases z⟩)
                                                 | (rw [stS_p hc112 hRR, rd1_ct (it := 59) (by decide) (by decide) hc59]
                                                    refine ⟨rfl, gI_self _ _ _ _, rdF_t (rdF_i (Or.inl rfl)) (rdF_t hF3 (rdF_i (Or.inl rfl))), fun _ => ⟨?_, ?_, ?_⟩⟩
                                                    · exact fun _ i hi => (gI_ne (Or.inl (by decide))).trans (htd3 rfl i hi)
                                                    · exact fun z => absurd (hc112.symm.trans z) (by decide)
                                                    · exact fun z => absurd (hc112.symm.trans z) (by decide))
                                                 | (rw [stS_r hc114 hRR, rd1_f rfl]
                                                    exact ⟨rfl, hq3, rdF_t (rdF_i (Or.inl rfl)) hF3, fun z => by cases z⟩)
                                                 | (rw [stS_r hc114 hRR, rd1_cf (by decide) (by decide) hc59]
                                                    exact ⟨rfl, hq3, rdF_t (rdF_i (Or.inl rfl)) hF3, fun z => by cases z⟩)
                                                 | (rw [stS_r hc114 hRR, rd1_ct (it := 59) (by decide) (by decide) hc59]
                                                    refine ⟨rfl, gI_self _ _ _ _, rdF_t (rdF_i (Or.inl rfl)) (rdF_t hF3 (rdF_i (Or.inl rfl))), fun _ => ⟨?_, ?_, ?_⟩⟩
                                                    · exact fun z => absurd (hc114.symm.trans z) (by decide)
                                                    · exact fun _ i hi => (gI_ne (Or.inl (by decide))).trans (htd3 rfl i hi)
                                                    · exact fun z => absurd (hc114.symm.trans z) (by decide))
                                                 | (rw [stS_f hc102 hRR, rd1_f rfl]
                                                    exact ⟨rfl, hq3, rdF_t (rdF_i (Or.inl rfl)) hF3, fun z => by cases z⟩)
                                                 | (rw [stS_f hc102 hRR, rd1_cf (by decide) (by decide) hc59]
                                                    exact ⟨rfl, hq3, rdF_t (rdF_i (Or.inl rfl)) hF3, fun z => by cases z⟩)
                                                 | (rw [stS_f hc102 hRR, rd1_ct (it := 59) (by decide) (by decide) hc59]
                                                    refine ⟨rfl, gI_self _ _ _ _, rdF_t (rdF_i (Or.inl rfl)) (rdF_t hF3 (rdF_i (Or.inl rfl))), fun _ => ⟨?_, ?_, ?_⟩⟩
                                                    · exact fun z => absurd (hc102.symm.trans z) (by decide)
                                                    · exact fun z => absurd (hc102.symm.trans z) (by decide)
                                                    · exact fun _ => (gI_ne (Or.inl (by decide))).trans (htd3 rfl 0 (by omega)))
                                                 | (rw [stS_n hc112 hc114 hc102]; exact ⟨rfl, hp, rdF_r, fun z => by cases z⟩))
                                        · first
                                            | (exfalso; first | exact absurd h90 (by decide) | exact h90 (by decide) | (simp at h90; done))
                                            | (refine xG_run 2 rfl (by repeat' (first | exact trivial | assumption | exact xob_b rfl | exact xal_b rfl | (apply And.intro) | decide)) ?_
                                               try dsimp only [xsto1, xsto2, xkill, xget, xset, gd_0, gd_s]
                                               refine r2_z rfl rfl (by first | decide | assumption) ?_
                                               first
                                                 | (rw [stS_p hc112 hRR, rd1_f rfl]
                                                    exact ⟨rfl, hq3, rdF_t (rdF_i (Or.inl rfl)) hF3, fun z => by cases z⟩)
                                                 | (rw [stS_p hc112 hRR, rd1_cf (by decide) (by decide) hc59]
                                                    exact ⟨rfl, hq3, rdF_t (rdF_i (Or.inl rfl)) hF3, fun z => by cases z⟩)
                                                 | (rw [stS_p hc112 hRR, rd1_ct (it := 59) (by decide) (by decide) hc59]
                                                    refine ⟨rfl, gI_self _ _ _ _, rdF_t (rdF_i (Or.inl rfl)) (rdF_t hF3 (rdF_i (Or.inl rfl))), fun _ => ⟨?_, ?_, ?_⟩⟩
                                                    · exact fun _ i hi => (gI_ne (Or.inl (by decide))).trans (htd3 rfl i hi)
                                                    · exact fun z => absurd (hc112.symm.trans z) (by decide)
                                                    · exact fun z => absurd (hc112.symm.trans z) (by decide))
                                                 | (rw [stS_r hc114 hRR, rd1_f rfl]
                                                    exact ⟨rfl, hq3, rdF_t (rdF_i (Or.inl rfl)) hF3, fun z => by cases z⟩)
                                                 | (rw [stS_r hc114 hRR, rd1_cf (by decide) (by decide) hc59]
                                                    exact ⟨rfl, hq3, rdF_t (rdF_i (Or.inl rfl)) hF3, fun z => by cases z⟩)
                                                 | (rw [stS_r hc114 hRR, rd1_ct (it := 59) (by decide) (by decide) hc59]
                                                    refine ⟨rfl, gI_self _ _ _ _, rdF_t (rdF_i (Or.inl rfl)) (rdF_t hF3 (rdF_i (Or.inl rfl))), fun _ => ⟨?_, ?_, ?_⟩⟩
                                                    · exact fun z => absurd (hc114.symm.trans z) (by decide)
                                                    · exact fun _ i hi => (gI_ne (Or.inl (by decide))).trans (htd3 rfl i hi)
                                                    · exact fun z => absurd (hc114.symm.trans z) (by decide))
                                                 | (rw [stS_f hc102 hRR, rd1_f rfl]
                                                    exact ⟨rfl, hq3, rdF_t (rdF_i (Or.inl rfl)) hF3, fun z => by cases z⟩)
                                                 | (rw [stS_f hc102 hRR, rd1_cf (by decide) (by decide) hc59]
                                                    exact ⟨rfl, hq3, rdF_t (rdF_i (Or.inl rfl)) hF3, fun z => by cases z⟩)
                                                 | (rw [stS_f hc102 hRR, rd1_ct (it := 59) (by decide) (by decide) hc59]
                                                    refine ⟨rfl, gI_self _ _ _ _, rdF_t (rdF_i (Or.inl rfl)) (rdF_t hF3 (rdF_i (Or.inl rfl))), fun _ => ⟨?_, ?_, ?_⟩⟩
                                                    · exact fun z => absurd (hc102.symm.trans z) (by decide)
                                                    · exact fun z => absurd (hc102.symm.trans z) (by decide)
                                                    · exact fun _ => (gI_ne (Or.inl (by decide))).trans (htd3 rfl 0 (by omega)))
                                                 | (rw [stS_n hc112 hc114 hc102]; exact ⟨rfl, hp, rdF_r, fun z => by cases z⟩)))))
             · first
                 | (exfalso; first | exact absurd h39 (by decide) | exact h39 (by decide) | (simp at h39; done))
                 | (refine xG_run 3 rfl (by repeat' (first | exact trivial | assumption | exact xob_b rfl | exact xal_b rfl | (apply And.intro) | decide)) ?_
                    try dsimp only [xsto1, xsto2, xkill, xget, xset, gd_0, gd_s]
                    refine xG_c2 2 rfl (by repeat' (first | exact trivial | assumption | exact xob_b rfl | exact xal_b rfl | (apply And.intro) | decide)) rfl rfl (by decide) cw_X12_readsNumbers (d' := d - 1) (e_readsNumbersS (m := 5) (p := p + 1) (sv := 0) hTa (gI_self _ _ _ _) (by omega) (by omega) (by omega)) (by omega) ?_
                    rintro v M3 ⟨rfl, hq3, hF3, htd3⟩
                    rcases hRR : rdS T n (itK true 5) (true, p + 1, [], 0) with ⟨ok, q, l, sx⟩
                    try rw [hRR] at hq3 htd3
                    dsimp only at hq3 htd3
                    cases ok
                    · dsimp only [Option.toList, List.cons_append, List.nil_append]
                      refine xG_br rfl (fun h48 => ?_) (fun h48 => ?_)
                      · first
                          | (exfalso; first | exact absurd h48 (by decide) | exact h48 (by decide) | (simp at h48; done))
                          | (refine xG_run 1 rfl (by repeat' (first | exact trivial | assumption | exact xob_b rfl | exact xal_b rfl | (apply And.intro) | decide)) ?_
                             try dsimp only [xsto1, xsto2, xkill, xget, xset, gd_0, gd_s]
                             refine r2_z rfl rfl (by first | decide | assumption) ?_
                             first
                               | (rw [stS_p hc112 hRR, rd1_f rfl]
                                  exact ⟨rfl, hq3, rdF_t (rdF_i (Or.inl rfl)) hF3, fun z => by cases z⟩)
                               | (rw [stS_p hc112 hRR, rd1_cf (by decide) (by decide) hc59]
                                  exact ⟨rfl, hq3, rdF_t (rdF_i (Or.inl rfl)) hF3, fun z => by cases z⟩)
                               | (rw [stS_p hc112 hRR, rd1_ct (it := 59) (by decide) (by decide) hc59]
                                  refine ⟨rfl, gI_self _ _ _ _, rdF_t (rdF_i (Or.inl rfl)) (rdF_t hF3 (rdF_i (Or.inl rfl))), fun _ => ⟨?_, ?_, ?_⟩⟩
                                  · exact fun _ i hi => (gI_ne (Or.inl (by decide))).trans (htd3 rfl i hi)
                                  · exact fun z => absurd (hc112.symm.trans z) (by decide)
                                  · exact fun z => absurd (hc112.symm.trans z) (by decide))
                               | (rw [stS_r hc114 hRR, rd1_f rfl]
                                  exact ⟨rfl, hq3, rdF_t (rdF_i (Or.inl rfl)) hF3, fun z => by cases z⟩)
                               | (rw [stS_r hc114 hRR, rd1_cf (by decide) (by decide) hc59]
                                  exact ⟨rfl, hq3, rdF_t (rdF_i (Or.inl rfl)) hF3, fun z => by cases z⟩)
                               | (rw [stS_r hc114 hRR, rd1_ct (it := 59) (by decide) (by decide) hc59]
                                  refine ⟨rfl, gI_self _ _ _ _, rdF_t (rdF_i (Or.inl rfl)) (rdF_t hF3 (rdF_i (Or.inl rfl))), fun _ => ⟨?_, ?_, ?_⟩⟩
                                  · exact fun z => absurd (hc114.symm.trans z) (by decide)
                                  · exact fun _ i hi => (gI_ne (Or.inl (by decide))).trans (htd3 rfl i hi)
                                  · exact fun z => absurd (hc114.symm.trans z) (by decide))
                               | (rw [stS_f hc102 hRR, rd1_f rfl]
                                  exact ⟨rfl, hq3, rdF_t (rdF_i (Or.inl rfl)) hF3, fun z => by cases z⟩)
                               | (rw [stS_f hc102 hRR, rd1_cf (by decide) (by decide) hc59]
                                  exact ⟨rfl, hq3, rdF_t (rdF_i (Or.inl rfl)) hF3, fun z => by cases z⟩)
                               | (rw [stS_f hc102 hRR, rd1_ct (it := 59) (by decide) (by decide) hc59]
                                  refine ⟨rfl, gI_self _ _ _ _, rdF_t (rdF_i (Or.inl rfl)) (rdF_t hF3 (rdF_i (Or.inl rfl))), fun _ => ⟨?_, ?_, ?_⟩⟩
                                  · exact fun z => absurd (hc102.symm.trans z) (by decide)
                                  · exact fun z => absurd (hc102.symm.trans z) (by decide)
                                  · exact fun _ => (gI_ne (Or.inl (by decide))).trans (htd3 rfl 0 (by omega)))
                               | (rw [stS_n hc112 hc114 hc102]; exact ⟨rfl, hp, rdF_r, fun z => by cases z⟩))
                      · first
                          | (exfalso; first | exact absurd h48 (by decide) | exact h48 (by decide) | (simp at h48; done))
                          | (refine xG_run 2 rfl (by repeat' (first | exact trivial | assumption | exact xob_b rfl | exact xal_b rfl | (apply And.intro) | decide)) ?_
                             try dsimp only [xsto1, xsto2, xkill, xget, xset, gd_0, gd_s]
                             refine xG_c2 1 rfl (by repeat' (first | exact trivial | assumption | exact xob_b rfl | exact xal_b rfl | (apply And.intro) | decide)) rfl rfl (by decide) cw_X12_takes (d' := d - 1) (e_takes (p := q) (c := 59) hT3 hq3 (by omega) (by omega)) (by omega) ?_
                             rintro v M4 (⟨hc59, rfl, rfl⟩ | ⟨hc59, rfl, rfl⟩)
                             · dsimp only [Option.toList, List.cons_append, List.nil_append]
                               refine xG_br rfl (fun h57 => ?_) (fun h57 => ?_)
                               · first
                                   | (exfalso; first | exact absurd h57 (by decide) | exact h57 (by decide) | (simp at h57; done))
                                   | (refine xG_run 1 rfl (by repeat' (first | exact trivial | assumption | exact xob_b rfl | exact xal_b rfl | (apply And.intro) | decide)) ?_
                                      try dsimp only [xsto1, xsto2, xkill, xget, xset, gd_0, gd_s]
                                      refine r2_z rfl rfl (by first | decide | assumption) ?_
                                      first
                                        | (rw [stS_p hc112 hRR, rd1_f rfl]
                                           exact ⟨rfl, hq3, rdF_t (rdF_i (Or.inl rfl)) hF3, fun z => by cases z⟩)
                                        | (rw [stS_p hc112 hRR, rd1_cf (by decide) (by decide) hc59]
                                           exact ⟨rfl, hq3, rdF_t (rdF_i (Or.inl rfl)) hF3, fun z => by cases z⟩)
                                        | (rw [stS_p hc112 hRR, rd1_ct (it := 59) (by decide) (by decide) hc59]
                                           refine ⟨rfl, gI_self _ _ _ _, rdF_t (rdF_i (Or.inl rfl)) (rdF_t hF3 (rdF_i (Or.inl rfl))), fun _ => ⟨?_, ?_, ?_⟩⟩
                                           · exact fun _ i hi => (gI_ne (Or.inl (by decide))).trans (htd3 rfl i hi)
                                           · exact fun z => absurd (hc112.symm.trans z) (by decide)
                                           · exact fun z => absurd (hc112.symm.trans z) (by decide))
                                        | (rw [stS_r hc114 hRR, rd1_f rfl]
                                           exact ⟨rfl, hq3, rdF_t (rdF_i (Or.inl rfl)) hF3, fun z => by cases z⟩)
                                        | (rw [stS_r hc114 hRR, rd1_cf (by decide) (by decide) hc59]
                                           exact ⟨rfl, hq3, rdF_t (rdF_i (Or.inl rfl)) hF3, fun z => by cases z⟩)
                                        | (rw [stS_r hc114 hRR, rd1_ct (it := 59) (by decide) (by decide) hc59]
                                           refine ⟨rfl, gI_self _ _ _ _, rdF_t (rdF_i (Or.inl rfl)) (rdF_t hF3 (rdF_i (Or.inl rfl))), fun _ => ⟨?_, ?_, ?_⟩⟩
                                           · exact fun z => absurd (hc114.symm.trans z) (by decide)
                                           · exact fun _ i hi => (gI_ne (Or.inl (by decide))).trans (htd3 rfl i hi)
                                           · exact fun z => absurd (hc114.symm.trans z) (by decide))
                                        | (rw [stS_f hc102 hRR, rd1_f rfl]
                                           exact ⟨rfl, hq3, rdF_t (rdF_i (Or.inl rfl)) hF3, fun z => by cases z⟩)
                                        | (rw [stS_f hc102 hRR, rd1_cf (by decide) (by decide) hc59]
                                           exact ⟨rfl, hq3, rdF_t (rdF_i (Or.inl rfl)) hF3, fun z => by cases z⟩)
                                        | (rw [stS_f hc102 hRR, rd1_ct (it := 59) (by decide) (by decide) hc59]
                                           refine ⟨rfl, gI_self _ _ _ _, rdF_t (rdF_i (Or.inl rfl)) (rdF_t hF3 (rdF_i (Or.inl rfl))), fun _ => ⟨?_, ?_, ?_⟩⟩
                                           · exact fun z => absurd (hc102.symm.trans z) (by decide)
                                           · exact fun z => absurd (hc102.symm.trans z) (by decide)
                                           · exact fun _ => (gI_ne (Or.inl (by decide))).trans (htd3 rfl 0 (by omega)))
                                        | (rw [stS_n hc112 hc114 hc102]; exact ⟨rfl, hp, rdF_r, fun z => by cases z⟩))
                               · first
                                   | (exfalso; first | exact absurd h57 (by decide) | exact h57 (by decide) | (simp at h57; done))
                                   | (refine xG_run 2 rfl (by repeat' (first | exact trivial | assumption | exact xob_b rfl | exact xal_b rfl | (apply And.intro) | decide)) ?_
                                      try dsimp only [xsto1, xsto2, xkill, xget, xset, gd_0, gd_s]
                                      refine r2_z rfl rfl (by first | decide | assumption) ?_
                                      first
                                        | (rw [stS_p hc112 hRR, rd1_f rfl]
                                           exact ⟨rfl, hq3, rdF_t (rdF_i (Or.inl rfl)) hF3, fun z => by cases z⟩)
                                        | (rw [stS_p hc112 hRR, rd1_cf (by decide) (by decide) hc59]
                                           exact ⟨rfl, hq3, rdF_t (rdF_i (Or.inl rfl)) hF3, fun z => by cases z⟩)
                                        | (rw [stS_p hc112 hRR, rd1_ct (it := 59) (by decide) (by decide) hc59]
                                           refine ⟨rfl, gI_self _ _ _ _, rdF_t (rdF_i (Or.inl rfl)) (rdF_t hF3 (rdF_i (Or.inl rfl))), fun _ => ⟨?_, ?_, ?_⟩⟩
                                           · exact fun _ i hi => (gI_ne (Or.inl (by decide))).trans (htd3 rfl i hi)
                                           · exact fun z => absurd (hc112.symm.trans z) (by decide)
                                           · exact fun z => absurd (hc112.symm.trans z) (by decide))
                                        | (rw [stS_r hc114 hRR, rd1_f rfl]
                                           exact ⟨rfl, hq3, rdF_t (rdF_i (Or.inl rfl)) hF3, fun z => by cases z⟩)
                                        | (rw [stS_r hc114 hRR, rd1_cf (by decide) (by decide) hc59]
                                           exact ⟨rfl, hq3, rdF_t (rdF_i (Or.inl rfl)) hF3, fun z => by cases z⟩)
                                        | (rw [stS_r hc114 hRR, rd1_ct (it := 59) (by decide) (by decide) hc59]
                                           refine ⟨rfl, gI_self _ _ _ _, rdF_t (rdF_i (Or.inl rfl)) (rdF_t hF3 (rdF_i (Or.inl rfl))), fun _ => ⟨?_, ?_, ?_⟩⟩
                                           · exact fun z => absurd (hc114.symm.trans z) (by decide)
                                           · exact fun _ i hi => (gI_ne (Or.inl (by decide))).trans (htd3 rfl i hi)
                                           · exact fun z => absurd (hc114.symm.trans z) (by decide))
                                        | (rw [stS_f hc102 hRR, rd1_f rfl]
                                           exact ⟨rfl, hq3, rdF_t (rdF_i (Or.inl rfl)) hF3, fun z => by cases z⟩)
                                        | (rw [stS_f hc102 hRR, rd1_cf (by decide) (by decide) hc59]
                                           exact ⟨rfl, hq3, rdF_t (rdF_i (Or.inl rfl)) hF3, fun z => by cases z⟩)
                                        | (rw [stS_f hc102 hRR, rd1_ct (it := 59) (by decide) (by decide) hc59]
                                           refine ⟨rfl, gI_self _ _ _ _, rdF_t (rdF_i (Or.inl rfl)) (rdF_t hF3 (rdF_i (Or.inl rfl))), fun _ => ⟨?_, ?_, ?_⟩⟩
                                           · exact fun z => absurd (hc102.symm.trans z) (by decide)
                                           · exact fun z => absurd (hc102.symm.trans z) (by decide)
                                           · exact fun _ => (gI_ne (Or.inl (by decide))).trans (htd3 rfl 0 (by omega)))
                                        | (rw [stS_n hc112 hc114 hc102]; exact ⟨rfl, hp, rdF_r, fun z => by cases z⟩))
                             · dsimp only [Option.toList, List.cons_append, List.nil_append]
                               refine xG_br rfl (fun h57 => ?_) (fun h57 => ?_)
                               · first
                                   | (exfalso; first | exact absurd h57 (by decide) | exact h57 (by decide) | (simp at h57; done))
                                   | (refine xG_run 1 rfl (by repeat' (first | exact trivial | assumption | exact xob_b rfl | exact xal_b rfl | (apply And.intro) | decide)) ?_
                                      try dsimp only [xsto1, xsto2, xkill, xget, xset, gd_0, gd_s]
                                      refine r2_z rfl rfl (by first | decide | assumption) ?_
                                      first
                                        | (rw [stS_p hc112 hRR, rd1_f rfl]
                                           exact ⟨rfl, hq3, rdF_t (rdF_i (Or.inl rfl)) hF3, fun z => by cases z⟩)
                                        | (rw [stS_p hc112 hRR, rd1_cf (by decide) (by decide) hc59]
                                           exact ⟨rfl, hq3, rdF_t (rdF_i (Or.inl rfl)) hF3, fun z => by cases z⟩)
                                        | (rw [stS_p hc112 hRR, rd1_ct (it := 59) (by decide) (by decide) hc59]
                                           refine ⟨rfl, gI_self _ _ _ _, rdF_t (rdF_i (Or.inl rfl)) (rdF_t hF3 (rdF_i (Or.inl rfl))), fun _ => ⟨?_, ?_, ?_⟩⟩
                                           · exact fun _ i hi => (gI_ne (Or.inl (by decide))).trans (htd3 rfl i hi)
                                           · exact fun z => absurd (hc112.symm.trans z) (by decide)
                                           · exact fun z => absurd (hc112.symm.trans z) (by decide))
                                        | (rw [stS_r hc114 hRR, rd1_f rfl]
                                           exact ⟨rfl, hq3, rdF_t (rdF_i (Or.inl rfl)) hF3, fun z => by cases z⟩)
                                        | (rw [stS_r hc114 hRR, rd1_cf (by decide) (by decide) hc59]
                                           exact ⟨rfl, hq3, rdF_t (rdF_i (Or.inl rfl)) hF3, fun z => by cases z⟩)
                                        | (rw [stS_r hc114 hRR, rd1_ct (it := 59) (by decide) (by decide) hc59]
                                           refine ⟨rfl, gI_self _ _ _ _, rdF_t (rdF_i (Or.inl rfl)) (rdF_t hF3 (rdF_i (Or.inl rfl))), fun _ => ⟨?_, ?_, ?_⟩⟩
                                           · exact fun z => absurd (hc114.symm.trans z) (by decide)
                                           · exact fun _ i hi => (gI_ne (Or.inl (by decide))).trans (htd3 rfl i hi)
                                           · exact fun z => absurd (hc114.symm.trans z) (by decide))
                                        | (rw [stS_f hc102 hRR, rd1_f rfl]
                                           exact ⟨rfl, hq3, rdF_t (rdF_i (Or.inl rfl)) hF3, fun z => by cases z⟩)
                                        | (rw [stS_f hc102 hRR, rd1_cf (by decide) (by decide) hc59]
                                           exact ⟨rfl, hq3, rdF_t (rdF_i (Or.inl rfl)) hF3, fun z => by cases z⟩)
                                        | (rw [stS_f hc102 hRR, rd1_ct (it := 59) (by decide) (by decide) hc59]
                                           refine ⟨rfl, gI_self _ _ _ _, rdF_t (rdF_i (Or.inl rfl)) (rdF_t hF3 (rdF_i (Or.inl rfl))), fun _ => ⟨?_, ?_, ?_⟩⟩
                                           · exact fun z => absurd (hc102.symm.trans z) (by decide)
                                           · exact fun z => absurd (hc102.symm.trans z) (by decide)
                                           · exact fun _ => (gI_ne (Or.inl (by decide))).trans (htd3 rfl 0 (by omega)))
                                        | (rw [stS_n hc112 hc114 hc102]; exact ⟨rfl, hp, rdF_r, fun z => by cases z⟩))
                               · first
                                   | (exfalso; first | exact absurd h57 (by decide) | exact h57 (by decide) | (simp at h57; done))
                                   | (refine xG_run 2 rfl (by repeat' (first | exact trivial | assumption | exact xob_b rfl | exact xal_b rfl | (apply And.intro) | decide)) ?_
                                      try dsimp only [xsto1, xsto2, xkill, xget, xset, gd_0, gd_s]
                                      refine r2_z rfl rfl (by first | decide | assumption) ?_
                                      first
                                        | (rw [stS_p hc112 hRR, rd1_f rfl]
                                           exact ⟨rfl, hq3, rdF_t (rdF_i (Or.inl rfl)) hF3, fun z => by cases z⟩)
                                        | (rw [stS_p hc112 hRR, rd1_cf (by decide) (by decide) hc59]
                                           exact ⟨rfl, hq3, rdF_t (rdF_i (Or.inl rfl)) hF3, fun z => by cases z⟩)
                                        | (rw [stS_p hc112 hRR, rd1_ct (it := 59) (by decide) (by decide) hc59]
                                           refine ⟨rfl, gI_self _ _ _ _, rdF_t (rdF_i (Or.inl rfl)) (rdF_t hF3 (rdF_i (Or.inl rfl))), fun _ => ⟨?_, ?_, ?_⟩⟩
                                           · exact fun _ i hi => (gI_ne (Or.inl (by decide))).trans (htd3 rfl i hi)
                                           · exact fun z => absurd (hc112.symm.trans z) (by decide)
                                           · exact fun z => absurd (hc112.symm.trans z) (by decide))
                                        | (rw [stS_r hc114 hRR, rd1_f rfl]
                                           exact ⟨rfl, hq3, rdF_t (rdF_i (Or.inl rfl)) hF3, fun z => by cases z⟩)
                                        | (rw [stS_r hc114 hRR, rd1_cf (by decide) (by decide) hc59]
                                           exact ⟨rfl, hq3, rdF_t (rdF_i (Or.inl rfl)) hF3, fun z => by cases z⟩)
                                        | (rw [stS_r hc114 hRR, rd1_ct (it := 59) (by decide) (by decide) hc59]
                                           refine ⟨rfl, gI_self _ _ _ _, rdF_t (rdF_i (Or.inl rfl)) (rdF_t hF3 (rdF_i (Or.inl rfl))), fun _ => ⟨?_, ?_, ?_⟩⟩
                                           · exact fun z => absurd (hc114.symm.trans z) (by decide)
                                           · exact fun _ i hi => (gI_ne (Or.inl (by decide))).trans (htd3 rfl i hi)
                                           · exact fun z => absurd (hc114.symm.trans z) (by decide))
                                        | (rw [stS_f hc102 hRR, rd1_f rfl]
                                           exact ⟨rfl, hq3, rdF_t (rdF_i (Or.inl rfl)) hF3, fun z => by cases z⟩)
                                        | (rw [stS_f hc102 hRR, rd1_cf (by decide) (by decide) hc59]
                                           exact ⟨rfl, hq3, rdF_t (rdF_i (Or.inl rfl)) hF3, fun z => by cases z⟩)
                                        | (rw [stS_f hc102 hRR, rd1_ct (it := 59) (by decide) (by decide) hc59]
                                           refine ⟨rfl, gI_self _ _ _ _, rdF_t (rdF_i (Or.inl rfl)) (rdF_t hF3 (rdF_i (Or.inl rfl))), fun _ => ⟨?_, ?_, ?_⟩⟩
                                           · exact fun z => absurd (hc102.symm.trans z) (by decide)
                                           · exact fun z => absurd (hc102.symm.trans z) (by decide)
                                           · exact fun _ => (gI_ne (Or.inl (by decide))).trans (htd3 rfl 0 (by omega)))
                                        | (rw [stS_n hc112 hc114 hc102]; exact ⟨rfl, hp, rdF_r, fun z => by cases z⟩)))
                    · dsimp only [Option.toList, List.cons_append, List.nil_append]
                      have hT3 := rT_F hTa hF3
                      have hq9 : q ≤ n := by
                        have e := rdS_le (T := T) (n := n) (l := itK true 5) (s := (true, p + 1, [], 0)) (by show p + 1 ≤ n; omega) (itK_le 5)
                        rw [hRR] at e
                        exact e
                      refine xG_br rfl (fun h48 => ?_) (fun h48 => ?_)
                      · first
                          | (exfalso; first | exact absurd h48 (by decide) | exact h48 (by decide) | (simp at h48; done))
                          | (refine xG_run 1 rfl (by repeat' (first | exact trivial | assumption | exact xob_b rfl | exact xal_b rfl | (apply And.intro) | decide)) ?_
                             try dsimp only [xsto1, xsto2, xkill, xget, xset, gd_0, gd_s]
                             refine r2_z rfl rfl (by first | decide | assumption) ?_
                             first
                               | (rw [stS_p hc112 hRR, rd1_f rfl]
                                  exact ⟨rfl, hq3, rdF_t (rdF_i (Or.inl rfl)) hF3, fun z => by cases z⟩)
                               | (rw [stS_p hc112 hRR, rd1_cf (by decide) (by decide) hc59]
                                  exact ⟨rfl, hq3, rdF_t (rdF_i (Or.inl rfl)) hF3, fun z => by cases z⟩)
                               | (rw [stS_p hc112 hRR, rd1_ct (it := 59) (by decide) (by decide) hc59]
                                  refine ⟨rfl, gI_self _ _ _ _, rdF_t (rdF_i (Or.inl rfl)) (rdF_t hF3 (rdF_i (Or.inl rfl))), fun _ => ⟨?_, ?_, ?_⟩⟩
                                  · exact fun _ i hi => (gI_ne (Or.inl (by decide))).trans (htd3 rfl i hi)
                                  · exact fun z => absurd (hc112.symm.trans z) (by decide)
                                  · exact fun z => absurd (hc112.symm.trans z) (by decide))
                               | (rw [stS_r hc114 hRR, rd1_f rfl]
                                  exact ⟨rfl, hq3, rdF_t (rdF_i (Or.inl rfl)) hF3, fun z => by cases z⟩)
                               | (rw [stS_r hc114 hRR, rd1_cf (by decide) (by decide) hc59]
                                  exact ⟨rfl, hq3, rdF_t (rdF_i (Or.inl rfl)) hF3, fun z => by cases z⟩)
                               | (rw [stS_r hc114 hRR, rd1_ct (it := 59) (by decide) (by decide) hc59]
                                  refine ⟨rfl, gI_self _ _ _ _, rdF_t (rdF_i (Or.inl rfl)) (rdF_t hF3 (rdF_i (Or.inl rfl))), fun _ => ⟨?_, ?_, ?_⟩⟩
                                  · exact fun z => absurd (hc114.symm.trans z) (by decide)
                                  · exact fun _ i hi => (gI_ne (Or.inl (by decide))).trans (htd3 rfl i hi)
                                  · exact fun z => absurd (hc114.symm.trans z) (by decide))
                               | (rw [stS_f hc102 hRR, rd1_f rfl]
                                  exact ⟨rfl, hq3, rdF_t (rdF_i (Or.inl rfl)) hF3, fun z => by cases z⟩)
                               | (rw [stS_f hc102 hRR, rd1_cf (by decide) (by decide) hc59]
                                  exact ⟨rfl, hq3, rdF_t (rdF_i (Or.inl rfl)) hF3, fun z => by cases z⟩)
                               | (rw [stS_f hc102 hRR, rd1_ct (it := 59) (by decide) (by decide) hc59]
                                  refine ⟨rfl, gI_self _ _ _ _, rdF_t (rdF_i (Or.inl rfl)) (rdF_t hF3 (rdF_i (Or.inl rfl))), fun _ => ⟨?_, ?_, ?_⟩⟩
                                  · exact fun z => absurd (hc102.symm.trans z) (by decide)
                                  · exact fun z => absurd (hc102.symm.trans z) (by decide)
                                  · exact fun _ => (gI_ne (Or.inl (by decide))).trans (htd3 rfl 0 (by omega)))
                               | (rw [stS_n hc112 hc114 hc102]; exact ⟨rfl, hp, rdF_r, fun z => by cases z⟩))
                      · first
                          | (exfalso; first | exact absurd h48 (by decide) | exact h48 (by decide) | (simp at h48; done))
                          | (refine xG_run 2 rfl (by repeat' (first | exact trivial | assumption | exact xob_b rfl | exact xal_b rfl | (apply And.intro) | decide)) ?_
                             try dsimp only [xsto1, xsto2, xkill, xget, xset, gd_0, gd_s]
                             refine xG_c2 1 rfl (by repeat' (first | exact trivial | assumption | exact xob_b rfl | exact xal_b rfl | (apply And.intro) | decide)) rfl rfl (by decide) cw_X12_takes (d' := d - 1) (e_takes (p := q) (c := 59) hT3 hq3 (by omega) (by omega)) (by omega) ?_
                             rintro v M4 (⟨hc59, rfl, rfl⟩ | ⟨hc59, rfl, rfl⟩)
                             · dsimp only [Option.toList, List.cons_append, List.nil_append]
                               refine xG_br rfl (fun h57 => ?_) (fun h57 => ?_)
                               · first
                                   | (exfalso; first | exact absurd h57 (by decide) | exact h57 (by decide) | (simp at h57; done))
                                   | (refine xG_run 1 rfl (by repeat' (first | exact trivial | assumption | exact xob_b rfl | exact xal_b rfl | (apply And.intro) | decide)) ?_
                                      try dsimp only [xsto1, xsto2, xkill, xget, xset, gd_0, gd_s]
                                      refine r2_z rfl rfl (by first | decide | assumption) ?_
                                      first
                                        | (rw [stS_p hc112 hRR, rd1_f rfl]
                                           exact ⟨rfl, hq3, rdF_t (rdF_i (Or.inl rfl)) hF3, fun z => by cases z⟩)
                                        | (rw [stS_p hc112 hRR, rd1_cf (by decide) (by decide) hc59]
                                           exact ⟨rfl, hq3, rdF_t (rdF_i (Or.inl rfl)) hF3, fun z => by cases z⟩)
                                        | (rw [stS_p hc112 hRR, rd1_ct (it := 59) (by decide) (by decide) hc59]
                                           refine ⟨rfl, gI_self _ _ _ _, rdF_t (rdF_i (Or.inl rfl)) (rdF_t hF3 (rdF_i (Or.inl rfl))), fun _ => ⟨?_, ?_, ?_⟩⟩
                                           · exact fun _ i hi => (gI_ne (Or.inl (by decide))).trans (htd3 rfl i hi)
                                           · exact fun z => absurd (hc112.symm.trans z) (by decide)
                                           · exact fun z => absurd (hc112.symm.trans z) (by decide))
                                        | (rw [stS_r hc114 hRR, rd1_f rfl]
                                           exact ⟨rfl, hq3, rdF_t (rdF_i (Or.inl rfl)) hF3, fun z => by cases z⟩)
                                        | (rw [stS_r hc114 hRR, rd1_cf (by decide) (by decide) hc59]
                                           exact ⟨rfl, hq3, rdF_t (rdF_i (Or.inl rfl)) hF3, fun z => by cases z⟩)
                                        | (rw [stS_r hc114 hRR, rd1_ct (it := 59) (by decide) (by decide) hc59]
                                           refine ⟨rfl, gI_self _ _ _ _, rdF_t (rdF_i (Or.inl rfl)) (rdF_t hF3 (rdF_i (Or.inl rfl))), fun _ => ⟨?_, ?_, ?_⟩⟩
                                           · exact fun z => absurd (hc114.symm.trans z) (by decide)
                                           · exact fun _ i hi => (gI_ne (Or.inl (by decide))).trans (htd3 rfl i hi)
                                           · exact fun z => absurd (hc114.symm.trans z) (by decide))
                                        | (rw [stS_f hc102 hRR, rd1_f rfl]
                                           exact ⟨rfl, hq3, rdF_t (rdF_i (Or.inl rfl)) hF3, fun z => by cases z⟩)
                                        | (rw [stS_f hc102 hRR, rd1_cf (by decide) (by decide) hc59]
                                           exact ⟨rfl, hq3, rdF_t (rdF_i (Or.inl rfl)) hF3, fun z => by cases z⟩)
                                        | (rw [stS_f hc102 hRR, rd1_ct (it := 59) (by decide) (by decide) hc59]
                                           refine ⟨rfl, gI_self _ _ _ _, rdF_t (rdF_i (Or.inl rfl)) (rdF_t hF3 (rdF_i (Or.inl rfl))), fun _ => ⟨?_, ?_, ?_⟩⟩
                                           · exact fun z => absurd (hc102.symm.trans z) (by decide)
                                           · exact fun z => absurd (hc102.symm.trans z) (by decide)
                                           · exact fun _ => (gI_ne (Or.inl (by decide))).trans (htd3 rfl 0 (by omega)))
                                        | (rw [stS_n hc112 hc114 hc102]; exact ⟨rfl, hp, rdF_r, fun z => by cases z⟩))
                               · first
                                   | (exfalso; first | exact absurd h57 (by decide) | exact h57 (by decide) | (simp at h57; done))
                                   | (refine xG_run 2 rfl (by repeat' (first | exact trivial | assumption | exact xob_b rfl | exact xal_b rfl | (apply And.intro) | decide)) ?_
                                      try dsimp only [xsto1, xsto2, xkill, xget, xset, gd_0, gd_s]
                                      refine r2_z rfl rfl (by first | decide | assumption) ?_
                                      first
                                        | (rw [stS_p hc112 hRR, rd1_f rfl]
                                           exact ⟨rfl, hq3, rdF_t (rdF_i (Or.inl rfl)) hF3, fun z => by cases z⟩)
                                        | (rw [stS_p hc112 hRR, rd1_cf (by decide) (by decide) hc59]
                                           exact ⟨rfl, hq3, rdF_t (rdF_i (Or.inl rfl)) hF3, fun z => by cases z⟩)
                                        | (rw [stS_p hc112 hRR, rd1_ct (it := 59) (by decide) (by decide) hc59]
                                           refine ⟨rfl, gI_self _ _ _ _, rdF_t (rdF_i (Or.inl rfl)) (rdF_t hF3 (rdF_i (Or.inl rfl))), fun _ => ⟨?_, ?_, ?_⟩⟩
                                           · exact fun _ i hi => (gI_ne (Or.inl (by decide))).trans (htd3 rfl i hi)
                                           · exact fun z => absurd (hc112.symm.trans z) (by decide)
                                           · exact fun z => absurd (hc112.symm.trans z) (by decide))
                                        | (rw [stS_r hc114 hRR, rd1_f rfl]
                                           exact ⟨rfl, hq3, rdF_t (rdF_i (Or.inl rfl)) hF3, fun z => by cases z⟩)
                                        | (rw [stS_r hc114 hRR, rd1_cf (by decide) (by decide) hc59]
                                           exact ⟨rfl, hq3, rdF_t (rdF_i (Or.inl rfl)) hF3, fun z => by cases z⟩)
                                        | (rw [stS_r hc114 hRR, rd1_ct (it := 59) (by decide) (by decide) hc59]
                                           refine ⟨rfl, gI_self _ _ _ _, rdF_t (rdF_i (Or.inl rfl)) (rdF_t hF3 (rdF_i (Or.inl rfl))), fun _ => ⟨?_, ?_, ?_⟩⟩
                                           · exact fun z => absurd (hc114.symm.trans z) (by decide)
                                           · exact fun _ i hi => (gI_ne (Or.inl (by decide))).trans (htd3 rfl i hi)
                                           · exact fun z => absurd (hc114.symm.trans z) (by decide))
                                        | (rw [stS_f hc102 hRR, rd1_f rfl]
                                           exact ⟨rfl, hq3, rdF_t (rdF_i (Or.inl rfl)) hF3, fun z => by cases z⟩)
                                        | (rw [stS_f hc102 hRR, rd1_cf (by decide) (by decide) hc59]
                                           exact ⟨rfl, hq3, rdF_t (rdF_i (Or.inl rfl)) hF3, fun z => by cases z⟩)
                                        | (rw [stS_f hc102 hRR, rd1_ct (it := 59) (by decide) (by decide) hc59]
                                           refine ⟨rfl, gI_self _ _ _ _, rdF_t (rdF_i (Or.inl rfl)) (rdF_t hF3 (rdF_i (Or.inl rfl))), fun _ => ⟨?_, ?_, ?_⟩⟩
                                           · exact fun z => absurd (hc102.symm.trans z) (by decide)
                                           · exact fun z => absurd (hc102.symm.trans z) (by decide)
                                           · exact fun _ => (gI_ne (Or.inl (by decide))).trans (htd3 rfl 0 (by omega)))
                                        | (rw [stS_n hc112 hc114 hc102]; exact ⟨rfl, hp, rdF_r, fun z => by cases z⟩))
                             · dsimp only [Option.toList, List.cons_append, List.nil_append]
                               refine xG_br rfl (fun h57 => ?_) (fun h57 => ?_)
                               · first
                                   | (exfalso; first | exact absurd h57 (by decide) | exact h57 (by decide) | (simp at h57; done))
                                   | (refine xG_run 1 rfl (by repeat' (first | exact trivial | assumption | exact xob_b rfl | exact xal_b rfl | (apply And.intro) | decide)) ?_
                                      try dsimp only [xsto1, xsto2, xkill, xget, xset, gd_0, gd_s]
                                      refine r2_z rfl rfl (by first | decide | assumption) ?_
                                      first
                                        | (rw [stS_p hc112 hRR, rd1_f rfl]
                                           exact ⟨rfl, hq3, rdF_t (rdF_i (Or.inl rfl)) hF3, fun z => by cases z⟩)
                                        | (rw [stS_p hc112 hRR, rd1_cf (by decide) (by decide) hc59]
                                           exact ⟨rfl, hq3, rdF_t (rdF_i (Or.inl rfl)) hF3, fun z => by cases z⟩)
                                        | (rw [stS_p hc112 hRR, rd1_ct (it := 59) (by decide) (by decide) hc59]
                                           refine ⟨rfl, gI_self _ _ _ _, rdF_t (rdF_i (Or.inl rfl)) (rdF_t hF3 (rdF_i (Or.inl rfl))), fun _ => ⟨?_, ?_, ?_⟩⟩
                                           · exact fun _ i hi => (gI_ne (Or.inl (by decide))).trans (htd3 rfl i hi)
                                           · exact fun z => absurd (hc112.symm.trans z) (by decide)
                                           · exact fun z => absurd (hc112.symm.trans z) (by decide))
                                        | (rw [stS_r hc114 hRR, rd1_f rfl]
                                           exact ⟨rfl, hq3, rdF_t (rdF_i (Or.inl rfl)) hF3, fun z => by cases z⟩)
                                        | (rw [stS_r hc114 hRR, rd1_cf (by decide) (by decide) hc59]
                                           exact ⟨rfl, hq3, rdF_t (rdF_i (Or.inl rfl)) hF3, fun z => by cases z⟩)
                                        | (rw [stS_r hc114 hRR, rd1_ct (it := 59) (by decide) (by decide) hc59]
                                           refine ⟨rfl, gI_self _ _ _ _, rdF_t (rdF_i (Or.inl rfl)) (rdF_t hF3 (rdF_i (Or.inl rfl))), fun _ => ⟨?_, ?_, ?_⟩⟩
                                           · exact fun z => absurd (hc114.symm.trans z) (by decide)
                                           · exact fun _ i hi => (gI_ne (Or.inl (by decide))).trans (htd3 rfl i hi)
                                           · exact fun z => absurd (hc114.symm.trans z) (by decide))
                                        | (rw [stS_f hc102 hRR, rd1_f rfl]
                                           exact ⟨rfl, hq3, rdF_t (rdF_i (Or.inl rfl)) hF3, fun z => by cases z⟩)
                                        | (rw [stS_f hc102 hRR, rd1_cf (by decide) (by decide) hc59]
                                           exact ⟨rfl, hq3, rdF_t (rdF_i (Or.inl rfl)) hF3, fun z => by cases z⟩)
                                        | (rw [stS_f hc102 hRR, rd1_ct (it := 59) (by decide) (by decide) hc59]
                                           refine ⟨rfl, gI_self _ _ _ _, rdF_t (rdF_i (Or.inl rfl)) (rdF_t hF3 (rdF_i (Or.inl rfl))), fun _ => ⟨?_, ?_, ?_⟩⟩
                                           · exact fun z => absurd (hc102.symm.trans z) (by decide)
                                           · exact fun z => absurd (hc102.symm.trans z) (by decide)
                                           · exact fun _ => (gI_ne (Or.inl (by decide))).trans (htd3 rfl 0 (by omega)))
                                        | (rw [stS_n hc112 hc114 hc102]; exact ⟨rfl, hp, rdF_r, fun z => by cases z⟩))
                               · first
                                   | (exfalso; first | exact absurd h57 (by decide) | exact h57 (by decide) | (simp at h57; done))
                                   | (refine xG_run 2 rfl (by repeat' (first | exact trivial | assumption | exact xob_b rfl | exact xal_b rfl | (apply And.intro) | decide)) ?_
                                      try dsimp only [xsto1, xsto2, xkill, xget, xset, gd_0, gd_s]
                                      refine r2_z rfl rfl (by first | decide | assumption) ?_
                                      first
                                        | (rw [stS_p hc112 hRR, rd1_f rfl]
                                           exact ⟨rfl, hq3, rdF_t (rdF_i (Or.inl rfl)) hF3, fun z => by cases z⟩)
                                        | (rw [stS_p hc112 hRR, rd1_cf (by decide) (by decide) hc59]
                                           exact ⟨rfl, hq3, rdF_t (rdF_i (Or.inl rfl)) hF3, fun z => by cases z⟩)
                                        | (rw [stS_p hc112 hRR, rd1_ct (it := 59) (by decide) (by decide) hc59]
                                           refine ⟨rfl, gI_self _ _ _ _, rdF_t (rdF_i (Or.inl rfl)) (rdF_t hF3 (rdF_i (Or.inl rfl))), fun _ => ⟨?_, ?_, ?_⟩⟩
                                           · exact fun _ i hi => (gI_ne (Or.inl (by decide))).trans (htd3 rfl i hi)
                                           · exact fun z => absurd (hc112.symm.trans z) (by decide)
                                           · exact fun z => absurd (hc112.symm.trans z) (by decide))
                                        | (rw [stS_r hc114 hRR, rd1_f rfl]
                                           exact ⟨rfl, hq3, rdF_t (rdF_i (Or.inl rfl)) hF3, fun z => by cases z⟩)
                                        | (rw [stS_r hc114 hRR, rd1_cf (by decide) (by decide) hc59]
                                           exact ⟨rfl, hq3, rdF_t (rdF_i (Or.inl rfl)) hF3, fun z => by cases z⟩)
                                        | (rw [stS_r hc114 hRR, rd1_ct (it := 59) (by decide) (by decide) hc59]
                                           refine ⟨rfl, gI_self _ _ _ _, rdF_t (rdF_i (Or.inl rfl)) (rdF_t hF3 (rdF_i (Or.inl rfl))), fun _ => ⟨?_, ?_, ?_⟩⟩
                                           · exact fun z => absurd (hc114.symm.trans z) (by decide)
                                           · exact fun _ i hi => (gI_ne (Or.inl (by decide))).trans (htd3 rfl i hi)
                                           · exact fun z => absurd (hc114.symm.trans z) (by decide))
                                        | (rw [stS_f hc102 hRR, rd1_f rfl]
                                           exact ⟨rfl, hq3, rdF_t (rdF_i (Or.inl rfl)) hF3, fun z => by cases z⟩)
                                        | (rw [stS_f hc102 hRR, rd1_cf (by decide) (by decide) hc59]
                                           exact ⟨rfl, hq3, rdF_t (rdF_i (Or.inl rfl)) hF3, fun z => by cases z⟩)
                                        | (rw [stS_f hc102 hRR, rd1_ct (it := 59) (by decide) (by decide) hc59]
                                           refine ⟨rfl, gI_self _ _ _ _, rdF_t (rdF_i (Or.inl rfl)) (rdF_t hF3 (rdF_i (Or.inl rfl))), fun _ => ⟨?_, ?_, ?_⟩⟩
                                           · exact fun z => absurd (hc102.symm.trans z) (by decide)
                                           · exact fun z => absurd (hc102.symm.trans z) (by decide)
                                           · exact fun _ => (gI_ne (Or.inl (by decide))).trans (htd3 rfl 0 (by omega)))
                                        | (rw [stS_n hc112 hc114 hc102]; exact ⟨rfl, hp, rdF_r, fun z => by cases z⟩))))
           · dsimp only [Option.toList, List.cons_append, List.nil_append]
             refine xG_br rfl (fun h39 => ?_) (fun h39 => ?_)
             · first
                 | (exfalso; first | exact absurd h39 (by decide) | exact h39 (by decide) | (simp at h39; done))
                 | (refine xG_run 2 rfl (by repeat' (first | exact trivial | assumption | exact xob_b rfl | exact xal_b rfl | (apply And.intro) | decide)) ?_
                    try dsimp only [xsto1, xsto2, xkill, xget, xset, gd_0, gd_s]
                    refine xG_c2 1 rfl (by repeat' (first | exact trivial | assumption | exact xob_b rfl | exact xal_b rfl | (apply And.intro) | decide)) rfl rfl (by decide) cw_X12_takes (d' := d - 1) (e_takes (p := p) (c := 102) hT hp (by omega) (by omega)) (by omega) ?_
                    rintro v M102 (⟨hc102, rfl, rfl⟩ | ⟨hc102, rfl, rfl⟩)
                    · dsimp only [Option.toList, List.cons_append, List.nil_append]
                      have hlt102 := chr_p hc102 (by decide)
                      have hTa := rT_F hT (rdF_i (k := 12) (v := nI (p + 1)) (Or.inl rfl))
                      refine xG_br rfl (fun h72 => ?_) (fun h72 => ?_)
                      · first
                          | (exfalso; first | exact absurd h72 (by decide) | exact h72 (by decide) | (simp at h72; done))
                          | (refine xG_run 1 rfl (by repeat' (first | exact trivial | assumption | exact xob_b rfl | exact xal_b rfl | (apply And.intro) | decide)) ?_
                             try dsimp only [xsto1, xsto2, xkill, xget, xset, gd_0, gd_s]
                             refine r2_z rfl rfl (by first | decide | assumption) ?_
                             first
                               | (rw [stS_p hc112 hRR, rd1_f rfl]
                                  exact ⟨rfl, hq3, rdF_t (rdF_i (Or.inl rfl)) hF3, fun z => by cases z⟩)
                               | (rw [stS_p hc112 hRR, rd1_cf (by decide) (by decide) hc59]
                                  exact ⟨rfl, hq3, rdF_t (rdF_i (Or.inl rfl)) hF3, fun z => by cases z⟩)
                               | (rw [stS_p hc112 hRR, rd1_ct (it := 59) (by decide) (by decide) hc59]
                                  refine ⟨rfl, gI_self _ _ _ _, rdF_t (rdF_i (Or.inl rfl)) (rdF_t hF3 (rdF_i (Or.inl rfl))), fun _ => ⟨?_, ?_, ?_⟩⟩
                                  · exact fun _ i hi => (gI_ne (Or.inl (by decide))).trans (htd3 rfl i hi)
                                  · exact fun z => absurd (hc112.symm.trans z) (by decide)
                                  · exact fun z => absurd (hc112.symm.trans z) (by decide))
                               | (rw [stS_r hc114 hRR, rd1_f rfl]
                                  exact ⟨rfl, hq3, rdF_t (rdF_i (Or.inl rfl)) hF3, fun z => by cases z⟩)
                               | (rw [stS_r hc114 hRR, rd1_cf (by decide) (by decide) hc59]
                                  exact ⟨rfl, hq3, rdF_t (rdF_i (Or.inl rfl)) hF3, fun z => by cases z⟩)
                               | (rw [stS_r hc114 hRR, rd1_ct (it := 59) (by decide) (by decide) hc59]
                                  refine ⟨rfl, gI_self _ _ _ _, rdF_t (rdF_i (Or.inl rfl)) (rdF_t hF3 (rdF_i (Or.inl rfl))), fun _ => ⟨?_, ?_, ?_⟩⟩
                                  · exact fun z => absurd (hc114.symm.trans z) (by decide)
                                  · exact fun _ i hi => (gI_ne (Or.inl (by decide))).trans (htd3 rfl i hi)
                                  · exact fun z => absurd (hc114.symm.trans z) (by decide))
                               | (rw [stS_f hc102 hRR, rd1_f rfl]
                                  exact ⟨rfl, hq3, rdF_t (rdF_i (Or.inl rfl)) hF3, fun z => by cases z⟩)
                               | (rw [stS_f hc102 hRR, rd1_cf (by decide) (by decide) hc59]
                                  exact ⟨rfl, hq3, rdF_t (rdF_i (Or.inl rfl)) hF3, fun z => by cases z⟩)
                               | (rw [stS_f hc102 hRR, rd1_ct (it := 59) (by decide) (by decide) hc59]
                                  refine ⟨rfl, gI_self _ _ _ _, rdF_t (rdF_i (Or.inl rfl)) (rdF_t hF3 (rdF_i (Or.inl rfl))), fun _ => ⟨?_, ?_, ?_⟩⟩
                                  · exact fun z => absurd (hc102.symm.trans z) (by decide)
                                  · exact fun z => absurd (hc102.symm.trans z) (by decide)
                                  · exact fun _ => (gI_ne (Or.inl (by decide))).trans (htd3 rfl 0 (by omega)))
                               | (rw [stS_n hc112 hc114 hc102]; exact ⟨rfl, hp, rdF_r, fun z => by cases z⟩))
                      · first
                          | (exfalso; first | exact absurd h72 (by decide) | exact h72 (by decide) | (simp at h72; done))
                          | (refine xG_run 3 rfl (by repeat' (first | exact trivial | assumption | exact xob_b rfl | exact xal_b rfl | (apply And.intro) | decide)) ?_
                             try dsimp only [xsto1, xsto2, xkill, xget, xset, gd_0, gd_s]
                             refine xG_c2 2 rfl (by repeat' (first | exact trivial | assumption | exact xob_b rfl | exact xal_b rfl | (apply And.intro) | decide)) rfl rfl (by decide) cw_X12_readsNumbers (d' := d - 1) (e_readsNumbersU (m := 1) (p := p + 1) (sv := 0) hTa (gI_self _ _ _ _) (by omega) (by omega) (by omega)) (by omega) ?_
                             rintro v M3 ⟨rfl, hq3, hF3, htd3⟩
                             rcases hRR : rdS T n (itK false 1) (true, p + 1, [], 0) with ⟨ok, q, l, sx⟩
                             try rw [hRR] at hq3 htd3
                             dsimp only at hq3 htd3
                             cases ok
                             · dsimp only [Option.toList, List.cons_append, List.nil_append]
                               refine xG_br rfl (fun h81 => ?_) (fun h81 => ?_)
                               · first
                                   | (exfalso; first | exact absurd h81 (by decide) | exact h81 (by decide) | (simp at h81; done))
                                   | (refine xG_run 1 rfl (by repeat' (first | exact trivial | assumption | exact xob_b rfl | exact xal_b rfl | (apply And.intro) | decide)) ?_
                                      try dsimp only [xsto1, xsto2, xkill, xget, xset, gd_0, gd_s]
                                      refine r2_z rfl rfl (by first | decide | assumption) ?_
                                      first
                                        | (rw [stS_p hc112 hRR, rd1_f rfl]
                                           exact ⟨rfl, hq3, rdF_t (rdF_i (Or.inl rfl)) hF3, fun z => by cases z⟩)
                                        | (rw [stS_p hc112 hRR, rd1_cf (by decide) (by decide) hc59]
                                           exact ⟨rfl, hq3, rdF_t (rdF_i (Or.inl rfl)) hF3, fun z => by cases z⟩)
                                        | (rw [stS_p hc112 hRR, rd1_ct (it := 59) (by decide) (by decide) hc59]
                                           refine ⟨rfl, gI_self _ _ _ _, rdF_t (rdF_i (Or.inl rfl)) (rdF_t hF3 (rdF_i (Or.inl rfl))), fun _ => ⟨?_, ?_, ?_⟩⟩
                                           · exact fun _ i hi => (gI_ne (Or.inl (by decide))).trans (htd3 rfl i hi)
                                           · exact fun z => absurd (hc112.symm.trans z) (by decide)
                                           · exact fun z => absurd (hc112.symm.trans z) (by decide))
                                        | (rw [stS_r hc114 hRR, rd1_f rfl]
                                           exact ⟨rfl, hq3, rdF_t (rdF_i (Or.inl rfl)) hF3, fun z => by cases z⟩)
                                        | (rw [stS_r hc114 hRR, rd1_cf (by decide) (by decide) hc59]
                                           exact ⟨rfl, hq3, rdF_t (rdF_i (Or.inl rfl)) hF3, fun z => by cases z⟩)
                                        | (rw [stS_r hc114 hRR, rd1_ct (it := 59) (by decide) (by decide) hc59]
                                           refine ⟨rfl, gI_self _ _ _ _, rdF_t (rdF_i (Or.inl rfl)) (rdF_t hF3 (rdF_i (Or.inl rfl))), fun _ => ⟨?_, ?_, ?_⟩⟩
                                           · exact fun z => absurd (hc114.symm.trans z) (by decide)
                                           · exact fun _ i hi => (gI_ne (Or.inl (by decide))).trans (htd3 rfl i hi)
                                           · exact fun z => absurd (hc114.symm.trans z) (by decide))
                                        | (rw [stS_f hc102 hRR, rd1_f rfl]
                                           exact ⟨rfl, hq3, rdF_t (rdF_i (Or.inl rfl)) hF3, fun z => by cases z⟩)
                                        | (rw [stS_f hc102 hRR, rd1_cf (by decide) (by decide) hc59]
                                           exact ⟨rfl, hq3, rdF_t (rdF_i (Or.inl rfl)) hF3, fun z => by cases z⟩)
                                        | (rw [stS_f hc102 hRR, rd1_ct (it := 59) (by decide) (by decide) hc59]
                                           refine ⟨rfl, gI_self _ _ _ _, rdF_t (rdF_i (Or.inl rfl)) (rdF_t hF3 (rdF_i (Or.inl rfl))), fun _ => ⟨?_, ?_, ?_⟩⟩
                                           · exact fun z => absurd (hc102.symm.trans z) (by decide)
                                           · exact fun z => absurd (hc102.symm.trans z) (by decide)
                                           · exact fun _ => (gI_ne (Or.inl (by decide))).trans (htd3 rfl 0 (by omega)))
                                        | (rw [stS_n hc112 hc114 hc102]; exact ⟨rfl, hp, rdF_r, fun z => by cases z⟩))
                               · first
                                   | (exfalso; first | exact absurd h81 (by decide) | exact h81 (by decide) | (simp at h81; done))
                                   | (refine xG_run 2 rfl (by repeat' (first | exact trivial | assumption | exact xob_b rfl | exact xal_b rfl | (apply And.intro) | decide)) ?_
                                      try dsimp only [xsto1, xsto2, xkill, xget, xset, gd_0, gd_s]
                                      refine xG_c2 1 rfl (by repeat' (first | exact trivial | assumption | exact xob_b rfl | exact xal_b rfl | (apply And.intro) | decide)) rfl rfl (by decide) cw_X12_takes (d' := d - 1) (e_takes (p := q) (c := 59) hT3 hq3 (by omega) (by omega)) (by omega) ?_
                                      rintro v M4 (⟨hc59, rfl, rfl⟩ | ⟨hc59, rfl, rfl⟩)
                                      · dsimp only [Option.toList, List.cons_append, List.nil_append]
                                        refine xG_br rfl (fun h90 => ?_) (fun h90 => ?_)
                                        · first
                                            | (exfalso; first | exact absurd h90 (by decide) | exact h90 (by decide) | (simp at h90; done))
                                            | (refine xG_run 1 rfl (by repeat' (first | exact trivial | assumption | exact xob_b rfl | exact xal_b rfl | (apply And.intro) | decide)) ?_
                                               try dsimp only [xsto1, xsto2, xkill, xget, xset, gd_0, gd_s]
                                               refine r2_z rfl rfl (by first | decide | assumption) ?_
                                               first
                                                 | (rw [stS_p hc112 hRR, rd1_f rfl]
                                                    exact ⟨rfl, hq3, rdF_t (rdF_i (Or.inl rfl)) hF3, fun z => by cases z⟩)
                                                 | (rw [stS_p hc112 hRR, rd1_cf (by decide) (by decide) hc59]
                                                    exact ⟨rfl, hq3, rdF_t (rdF_i (Or.inl rfl)) hF3, fun z => by cases z⟩)
                                                 | (rw [stS_p hc112 hRR, rd1_ct (it := 59) (by decide) (by decide) hc59]
                                                    refine ⟨rfl, gI_self _ _ _ _, rdF_t (rdF_i (Or.inl rfl)) (rdF_t hF3 (rdF_i (Or.inl rfl))), fun _ => ⟨?_, ?_, ?_⟩⟩
                                                    · exact fun _ i hi => (gI_ne (Or.inl (by decide))).trans (htd3 rfl i hi)
                                                    · exact fun z => absurd (hc112.symm.trans z) (by decide)
                                                    · exact fun z => absurd (hc112.symm.trans z) (by decide))
                                                 | (rw [stS_r hc114 hRR, rd1_f rfl]
                                                    exact ⟨rfl, hq3, rdF_t (rdF_i (Or.inl rfl)) hF3, fun z => by cases z⟩)
                                                 | (rw [stS_r hc114 hRR, rd1_cf (by decide) (by decide) hc59]
                                                    exact ⟨rfl, hq3, rdF_t (rdF_i (Or.inl rfl)) hF3, fun z => by cases z⟩)
                                                 | (rw [stS_r hc114 hRR, rd1_ct (it := 59) (by decide) (by decide) hc59]
                                                    refine ⟨rfl, gI_self _ _ _ _, rdF_t (rdF_i (Or.inl rfl)) (rdF_t hF3 (rdF_i (Or.inl rfl))), fun _ => ⟨?_, ?_, ?_⟩⟩
                                                    · exact fun z => absurd (hc114.symm.trans z) (by decide)
                                                    · exact fun _ i hi => (gI_ne (Or.inl (by decide))).trans (htd3 rfl i hi)
                                                    · exact fun z => absurd (hc114.symm.trans z) (by decide))
                                                 | (rw [stS_f hc102 hRR, rd1_f rfl]
                                                    exact ⟨rfl, hq3, rdF_t (rdF_i (Or.inl rfl)) hF3, fun z => by cases z⟩)
                                                 | (rw [stS_f hc102 hRR, rd1_cf (by decide) (by decide) hc59]
                                                    exact ⟨rfl, hq3, rdF_t (rdF_i (Or.inl rfl)) hF3, fun z => by cases z⟩)
                                                 | (rw [stS_f hc102 hRR, rd1_ct (it := 59) (by decide) (by decide) hc59]
                                                    refine ⟨rfl, gI_self _ _ _ _, rdF_t (rdF_i (Or.inl rfl)) (rdF_t hF3 (rdF_i (Or.inl rfl))), fun _ => ⟨?_, ?_, ?_⟩⟩
                                                    · exact fun z => absurd (hc102.symm.trans z) (by decide)
                                                    · exact fun z => absurd (hc102.symm.trans z) (by decide)
                                                    · exact fun _ => (gI_ne (Or.inl (by decide))).trans (htd3 rfl 0 (by omega)))
                                                 | (rw [stS_n hc112 hc114 hc102]; exact ⟨rfl, hp, rdF_r, fun z => by cases z⟩))
                                        · first
                                            | (exfalso; first | exact absurd h90 (by decide) | exact h90 (by decide) | (simp at h90; done))
                                            | (refine xG_run 2 rfl (by repeat' (first | exact trivial | assumption | exact xob_b rfl | exact xal_b rfl | (apply And.intro) | decide)) ?_
                                               try dsimp only [xsto1, xsto2, xkill, xget, xset, gd_0, gd_s]
                                               refine r2_z rfl rfl (by first | decide | assumption) ?_
                                               first
                                                 | (rw [stS_p hc112 hRR, rd1_f rfl]
                                                    exact ⟨rfl, hq3, rdF_t (rdF_i (Or.inl rfl)) hF3, fun z => by cases z⟩)
                                                 | (rw [stS_p hc112 hRR, rd1_cf (by decide) (by decide) hc59]
                                                    exact ⟨rfl, hq3, rdF_t (rdF_i (Or.inl rfl)) hF3, fun z => by cases z⟩)
                                                 | (rw [stS_p hc112 hRR, rd1_ct (it := 59) (by decide) (by decide) hc59]
                                                    refine ⟨rfl, gI_self _ _ _ _, rdF_t (rdF_i (Or.inl rfl)) (rdF_t hF3 (rdF_i (Or.inl rfl))), fun _ => ⟨?_, ?_, ?_⟩⟩
                                                    · exact fun _ i hi => (gI_ne (Or.inl (by decide))).trans (htd3 rfl i hi)
                                                    · exact fun z => absurd (hc112.symm.trans z) (by decide)
                                                    · exact fun z => absurd (hc112.symm.trans z) (by decide))
                                                 | (rw [stS_r hc114 hRR, rd1_f rfl]
                                                    exact ⟨rfl, hq3, rdF_t (rdF_i (Or.inl rfl)) hF3, fun z => by cases z⟩)
                                                 | (rw [stS_r hc114 hRR, rd1_cf (by decide) (by decide) hc59]
                                                    exact ⟨rfl, hq3, rdF_t (rdF_i (Or.inl rfl)) hF3, fun z => by cases z⟩)
                                                 | (rw [stS_r hc114 hRR, rd1_ct (it := 59) (by decide) (by decide) hc59]
                                                    refine ⟨rfl, gI_self _ _ _ _, rdF_t (rdF_i (Or.inl rfl)) (rdF_t hF3 (rdF_i (Or.inl rfl))), fun _ => ⟨?_, ?_, ?_⟩⟩
                                                    · exact fun z => absurd (hc114.symm.trans z) (by decide)
                                                    · exact fun _ i hi => (gI_ne (Or.inl (by decide))).trans (htd3 rfl i hi)
                                                    · exact fun z => absurd (hc114.symm.trans z) (by decide))
                                                 | (rw [stS_f hc102 hRR, rd1_f rfl]
                                                    exact ⟨rfl, hq3, rdF_t (rdF_i (Or.inl rfl)) hF3, fun z => by cases z⟩)
                                                 | (rw [stS_f hc102 hRR, rd1_cf (by decide) (by decide) hc59]
                                                    exact ⟨rfl, hq3, rdF_t (rdF_i (Or.inl rfl)) hF3, fun z => by cases z⟩)
                                                 | (rw [stS_f hc102 hRR, rd1_ct (it := 59) (by decide) (by decide) hc59]
                                                    refine ⟨rfl, gI_self _ _ _ _, rdF_t (rdF_i (Or.inl rfl)) (rdF_t hF3 (rdF_i (Or.inl rfl))), fun _ => ⟨?_, ?_, ?_⟩⟩
                                                    · exact fun z => absurd (hc102.symm.trans z) (by decide)
                                                    · exact fun z => absurd (hc102.symm.trans z) (by decide)
                                                    · exact fun _ => (gI_ne (Or.inl (by decide))).trans (htd3 rfl 0 (by omega)))
                                                 | (rw [stS_n hc112 hc114 hc102]; exact ⟨rfl, hp, rdF_r, fun z => by cases z⟩))
                                      · dsimp only [Option.toList, List.cons_append, List.nil_append]
                                        refine xG_br rfl (fun h90 => ?_) (fun h90 => ?_)
                                        · first
                                            | (exfalso; first | exact absurd h90 (by decide) | exact h90 (by decide) | (simp at h90; done))
                                            | (refine xG_run 1 rfl (by repeat' (first | exact trivial | assumption | exact xob_b rfl | exact xal_b rfl | (apply And.intro) | decide)) ?_
                                               try dsimp only [xsto1, xsto2, xkill, xget, xset, gd_0, gd_s]
                                               refine r2_z rfl rfl (by first | decide | assumption) ?_
                                               first
                                                 | (rw [stS_p hc112 hRR, rd1_f rfl]
                                                    exact ⟨rfl, hq3, rdF_t (rdF_i (Or.inl rfl)) hF3, fun z => by cases z⟩)
                                                 | (rw [stS_p hc112 hRR, rd1_cf (by decide) (by decide) hc59]
                                                    exact ⟨rfl, hq3, rdF_t (rdF_i (Or.inl rfl)) hF3, fun z => by cases z⟩)
                                                 | (rw [stS_p hc112 hRR, rd1_ct (it := 59) (by decide) (by decide) hc59]
                                                    refine ⟨rfl, gI_self _ _ _ _, rdF_t (rdF_i (Or.inl rfl)) (rdF_t hF3 (rdF_i (Or.inl rfl))), fun _ => ⟨?_, ?_, ?_⟩⟩
                                                    · exact fun _ i hi => (gI_ne (Or.inl (by decide))).trans (htd3 rfl i hi)
                                                    · exact fun z => absurd (hc112.symm.trans z) (by decide)
                                                    · exact fun z => absurd (hc112.symm.trans z) (by decide))
                                                 | (rw [stS_r hc114 hRR, rd1_f rfl]
                                                    exact ⟨rfl, hq3, rdF_t (rdF_i (Or.inl rfl)) hF3, fun z => by cases z⟩)
                                                 | (rw [stS_r hc114 hRR, rd1_cf (by decide) (by decide) hc59]
                                                    exact ⟨rfl, hq3, rdF_t (rdF_i (Or.inl rfl)) hF3, fun z => by cases z⟩)
                                                 | (rw [stS_r hc114 hRR, rd1_ct (it := 59) (by decide) (by decide) hc59]
                                                    refine ⟨rfl, gI_self _ _ _ _, rdF_t (rdF_i (Or.inl rfl)) (rdF_t hF3 (rdF_i (Or.inl rfl))), fun _ => ⟨?_, ?_, ?_⟩⟩
                                                    · exact fun z => absurd (hc114.symm.trans z) (by decide)
                                                    · exact fun _ i hi => (gI_ne (Or.inl (by decide))).trans (htd3 rfl i hi)
                                                    · exact fun z => absurd (hc114.symm.trans z) (by decide))
                                                 | (rw [stS_f hc102 hRR, rd1_f rfl]
                                                    exact ⟨rfl, hq3, rdF_t (rdF_i (Or.inl rfl)) hF3, fun z => by cases z⟩)
                                                 | (rw [stS_f hc102 hRR, rd1_cf (by decide) (by decide) hc59]
                                                    exact ⟨rfl, hq3, rdF_t (rdF_i (Or.inl rfl)) hF3, fun z => by cases z⟩)
                                                 | (rw [stS_f hc102 hRR, rd1_ct (it := 59) (by decide) (by decide) hc59]
                                                    refine ⟨rfl, gI_self _ _ _ _, rdF_t (rdF_i (Or.inl rfl)) (rdF_t hF3 (rdF_i (Or.inl rfl))), fun _ => ⟨?_, ?_, ?_⟩⟩
                                                    · exact fun z => absurd (hc102.symm.trans z) (by decide)
                                                    · exact fun z => absurd (hc102.symm.trans z) (by decide)
                                                    · exact fun _ => (gI_ne (Or.inl (by decide))).trans (htd3 rfl 0 (by omega)))
                                                 | (rw [stS_n hc112 hc114 hc102]; exact ⟨rfl, hp, rdF_r, fun z => by cases z⟩))
                                        · first
                                            | (exfalso; first | exact absurd h90 (by decide) | exact h90 (by decide) | (simp at h90; done))
                                            | (refine xG_run 2 rfl (by repeat' (first | exact trivial | assumption | exact xob_b rfl | exact xal_b rfl | (apply And.intro) | decide)) ?_
                                               try dsimp only [xsto1, xsto2, xkill, xget, xset, gd_0, gd_s]
                                               refine r2_z rfl rfl (by first | decide | assumption) ?_
                                               first
                                                 | (rw [stS_p hc112 hRR, rd1_f rfl]
                                                    exact ⟨rfl, hq3, rdF_t (rdF_i (Or.inl rfl)) hF3, fun z => by cases z⟩)
                                                 | (rw [stS_p hc112 hRR, rd1_cf (by decide) (by decide) hc59]
                                                    exact ⟨rfl, hq3, rdF_t (rdF_i (Or.inl rfl)) hF3, fun z => by cases z⟩)
                                                 | (rw [stS_p hc112 hRR, rd1_ct (it := 59) (by decide) (by decide) hc59]
                                                    refine ⟨rfl, gI_self _ _ _ _, rdF_t (rdF_i (Or.inl rfl)) (rdF_t hF3 (rdF_i (Or.inl rfl))), fun _ => ⟨?_, ?_, ?_⟩⟩
                                                    · exact fun _ i hi => (gI_ne (Or.inl (by decide))).trans (htd3 rfl i hi)
                                                    · exact fun z => absurd (hc112.symm.trans z) (by decide)
                                                    · exact fun z => absurd (hc112.symm.trans z) (by decide))
                                                 | (rw [stS_r hc114 hRR, rd1_f rfl]
                                                    exact ⟨rfl, hq3, rdF_t (rdF_i (Or.inl rfl)) hF3, fun z => by cases z⟩)
                                                 | (rw [stS_r hc114 hRR, rd1_cf (by decide) (by decide) hc59]
                                                    exact ⟨rfl, hq3, rdF_t (rdF_i (Or.inl rfl)) hF3, fun z => by cases z⟩)
                                                 | (rw [stS_r hc114 hRR, rd1_ct (it := 59) (by decide) (by decide) hc59]
                                                    refine ⟨rfl, gI_self _ _ _ _, rdF_t (rdF_i (Or.inl rfl)) (rdF_t hF3 (rdF_i (Or.inl rfl))), fun _ => ⟨?_, ?_, ?_⟩⟩
                                                    · exact fun z => absurd (hc114.symm.trans z) (by decide)
                                                    · exact fun _ i hi => (gI_ne (Or.inl (by decide))).trans (htd3 rfl i hi)
                                                    · exact fun z => absurd (hc114.symm.trans z) (by decide))
                                                 | (rw [stS_f hc102 hRR, rd1_f rfl]
                                                    exact ⟨rfl, hq3, rdF_t (rdF_i (Or.inl rfl)) hF3, fun z => by cases z⟩)
                                                 | (rw [stS_f hc102 hRR, rd1_cf (by decide) (by decide) hc59]
                                                    exact ⟨rfl, hq3, rdF_t (rdF_i (Or.inl rfl)) hF3, fun z => by cases z⟩)
                                                 | (rw [stS_f hc102 hRR, rd1_ct (it := 59) (by decide) (by decide) hc59]
                                                    refine ⟨rfl, gI_self _ _ _ _, rdF_t (rdF_i (Or.inl rfl)) (rdF_t hF3 (rdF_i (Or.inl rfl))), fun _ => ⟨?_, ?_, ?_⟩⟩
                                                    · exact fun z => absurd (hc102.symm.trans z) (by decide)
                                                    · exact fun z => absurd (hc102.symm.trans z) (by decide)
                                                    · exact fun _ => (gI_ne (Or.inl (by decide))).trans (htd3 rfl 0 (by omega)))
                                                 | (rw [stS_n hc112 hc114 hc102]; exact ⟨rfl, hp, rdF_r, fun z => by cases z⟩)))
                             · dsimp only [Option.toList, List.cons_append, List.nil_append]
                               have hT3 := rT_F hTa hF3
                               have hq9 : q ≤ n := by
                                 have e := rdS_le (T := T) (n := n) (l := itK false 1) (s := (true, p + 1, [], 0)) (by show p + 1 ≤ n; omega) (itK_le 1)
                                 rw [hRR] at e
                                 exact e
                               refine xG_br rfl (fun h81 => ?_) (fun h81 => ?_)
                               · first
                                   | (exfalso; first | exact absurd h81 (by decide) | exact h81 (by decide) | (simp at h81; done))
                                   | (refine xG_run 1 rfl (by repeat' (first | exact trivial | assumption | exact xob_b rfl | exact xal_b rfl | (apply And.intro) | decide)) ?_
                                      try dsimp only [xsto1, xsto2, xkill, xget, xset, gd_0, gd_s]
                                      refine r2_z rfl rfl (by first | decide | assumption) ?_
                                      first
                                        | (rw [stS_p hc112 hRR, rd1_f rfl]
                                           exact ⟨rfl, hq3, rdF_t (rdF_i (Or.inl rfl)) hF3, fun z => by cases z⟩)
                                        | (rw [stS_p hc112 hRR, rd1_cf (by decide) (by decide) hc59]
                                           exact ⟨rfl, hq3, rdF_t (rdF_i (Or.inl rfl)) hF3, fun z => by cases z⟩)
                                        | (rw [stS_p hc112 hRR, rd1_ct (it := 59) (by decide) (by decide) hc59]
                                           refine ⟨rfl, gI_self _ _ _ _, rdF_t (rdF_i (Or.inl rfl)) (rdF_t hF3 (rdF_i (Or.inl rfl))), fun _ => ⟨?_, ?_, ?_⟩⟩
                                           · exact fun _ i hi => (gI_ne (Or.inl (by decide))).trans (htd3 rfl i hi)
                                           · exact fun z => absurd (hc112.symm.trans z) (by decide)
                                           · exact fun z => absurd (hc112.symm.trans z) (by decide))
                                        | (rw [stS_r hc114 hRR, rd1_f rfl]
                                           exact ⟨rfl, hq3, rdF_t (rdF_i (Or.inl rfl)) hF3, fun z => by cases z⟩)
                                        | (rw [stS_r hc114 hRR, rd1_cf (by decide) (by decide) hc59]
                                           exact ⟨rfl, hq3, rdF_t (rdF_i (Or.inl rfl)) hF3, fun z => by cases z⟩)
                                        | (rw [stS_r hc114 hRR, rd1_ct (it := 59) (by decide) (by decide) hc59]
                                           refine ⟨rfl, gI_self _ _ _ _, rdF_t (rdF_i (Or.inl rfl)) (rdF_t hF3 (rdF_i (Or.inl rfl))), fun _ => ⟨?_, ?_, ?_⟩⟩
                                           · exact fun z => absurd (hc114.symm.trans z) (by decide)
                                           · exact fun _ i hi => (gI_ne (Or.inl (by decide))).trans (htd3 rfl i hi)
                                           · exact fun z => absurd (hc114.symm.trans z) (by decide))
                                        | (rw [stS_f hc102 hRR, rd1_f rfl]
                                           exact ⟨rfl, hq3, rdF_t (rdF_i (Or.inl rfl)) hF3, fun z => by cases z⟩)
                                        | (rw [stS_f hc102 hRR, rd1_cf (by decide) (by decide) hc59]
                                           exact ⟨rfl, hq3, rdF_t (rdF_i (Or.inl rfl)) hF3, fun z => by cases z⟩)
                                        | (rw [stS_f hc102 hRR, rd1_ct (it := 59) (by decide) (by decide) hc59]
                                           refine ⟨rfl, gI_self _ _ _ _, rdF_t (rdF_i (Or.inl rfl)) (rdF_t hF3 (rdF_i (Or.inl rfl))), fun _ => ⟨?_, ?_, ?_⟩⟩
                                           · exact fun z => absurd (hc102.symm.trans z) (by decide)
                                           · exact fun z => absurd (hc102.symm.trans z) (by decide)
                                           · exact fun _ => (gI_ne (Or.inl (by decide))).trans (htd3 rfl 0 (by omega)))
                                        | (rw [stS_n hc112 hc114 hc102]; exact ⟨rfl, hp, rdF_r, fun z => by cases z⟩))
                               · first
                                   | (exfalso; first | exact absurd h81 (by decide) | exact h81 (by decide) | (simp at h81; done))
                                   | (refine xG_run 2 rfl (by repeat' (first | exact trivial | assumption | exact xob_b rfl | exact xal_b rfl | (apply And.intro) | decide)) ?_
                                      try dsimp only [xsto1, xsto2, xkill, xget, xset, gd_0, gd_s]
                                      refine xG_c2 1 rfl (by repeat' (first | exact trivial | assumption | exact xob_b rfl | exact xal_b rfl | (apply And.intro) | decide)) rfl rfl (by decide) cw_X12_takes (d' := d - 1) (e_takes (p := q) (c := 59) hT3 hq3 (by omega) (by omega)) (by omega) ?_
                                      rintro v M4 (⟨hc59, rfl, rfl⟩ | ⟨hc59, rfl, rfl⟩)
                                      · dsimp only [Option.toList, List.cons_append, List.nil_append]
                                        refine xG_br rfl (fun h90 => ?_) (fun h90 => ?_)
                                        · first
                                            | (exfalso; first | exact absurd h90 (by decide) | exact h90 (by decide) | (simp at h90; done))
                                            | (refine xG_run 1 rfl (by repeat' (first | exact trivial | assumption | exact xob_b rfl | exact xal_b rfl | (apply And.intro) | decide)) ?_
                                               try dsimp only [xsto1, xsto2, xkill, xget, xset, gd_0, gd_s]
                                               refine r2_z rfl rfl (by first | decide | assumption) ?_
                                               first
                                                 | (rw [stS_p hc112 hRR, rd1_f rfl]
                                                    exact ⟨rfl, hq3, rdF_t (rdF_i (Or.inl rfl)) hF3, fun z => by cases z⟩)
                                                 | (rw [stS_p hc112 hRR, rd1_cf (by decide) (by decide) hc59]
                                                    exact ⟨rfl, hq3, rdF_t (rdF_i (Or.inl rfl)) hF3, fun z => by cases z⟩)
                                                 | (rw [stS_p hc112 hRR, rd1_ct (it := 59) (by decide) (by decide) hc59]
                                                    refine ⟨rfl, gI_self _ _ _ _, rdF_t (rdF_i (Or.inl rfl)) (rdF_t hF3 (rdF_i (Or.inl rfl))), fun _ => ⟨?_, ?_, ?_⟩⟩
                                                    · exact fun _ i hi => (gI_ne (Or.inl (by decide))).trans (htd3 rfl i hi)
                                                    · exact fun z => absurd (hc112.symm.trans z) (by decide)
                                                    · exact fun z => absurd (hc112.symm.trans z) (by decide))
                                                 | (rw [stS_r hc114 hRR, rd1_f rfl]
                                                    exact ⟨rfl, hq3, rdF_t (rdF_i (Or.inl rfl)) hF3, fun z => by cases z⟩)
                                                 | (rw [stS_r hc114 hRR, rd1_cf (by decide) (by decide) hc59]
                                                    exact ⟨rfl, hq3, rdF_t (rdF_i (Or.inl rfl)) hF3, fun z => by cases z⟩)
                                                 | (rw [stS_r hc114 hRR, rd1_ct (it := 59) (by decide) (by decide) hc59]
                                                    refine ⟨rfl, gI_self _ _ _ _, rdF_t (rdF_i (Or.inl rfl)) (rdF_t hF3 (rdF_i (Or.inl rfl))), fun _ => ⟨?_, ?_, ?_⟩⟩
                                                    · exact fun z => absurd (hc114.symm.trans z) (by decide)
                                                    · exact fun _ i hi => (gI_ne (Or.inl (by decide))).trans (htd3 rfl i hi)
                                                    · exact fun z => absurd (hc114.symm.trans z) (by decide))
                                                 | (rw [stS_f hc102 hRR, rd1_f rfl]
                                                    exact ⟨rfl, hq3, rdF_t (rdF_i (Or.inl rfl)) hF3, fun z => by cases z⟩)
                                                 | (rw [stS_f hc102 hRR, rd1_cf (by decide) (by decide) hc59]
                                                    exact ⟨rfl, hq3, rdF_t (rdF_i (Or.inl rfl)) hF3, fun z => by cases z⟩)
                                                 | (rw [stS_f hc102 hRR, rd1_ct (it := 59) (by decide) (by decide) hc59]
                                                    refine ⟨rfl, gI_self _ _ _ _, rdF_t (rdF_i (Or.inl rfl)) (rdF_t hF3 (rdF_i (Or.inl rfl))), fun _ => ⟨?_, ?_, ?_⟩⟩
                                                    · exact fun z => absurd (hc102.symm.trans z) (by decide)
                                                    · exact fun z => absurd (hc102.symm.trans z) (by decide)
                                                    · exact fun _ => (gI_ne (Or.inl (by decide))).trans (htd3 rfl 0 (by omega)))
                                                 | (rw [stS_n hc112 hc114 hc102]; exact ⟨rfl, hp, rdF_r, fun z => by cases z⟩))
                                        · first
                                            | (exfalso; first | exact absurd h90 (by decide) | exact h90 (by decide) | (simp at h90; done))
                                            | (refine xG_run 2 rfl (by repeat' (first | exact trivial | assumption | exact xob_b rfl | exact xal_b rfl | (apply And.intro) | decide)) ?_
                                               try dsimp only [xsto1, xsto2, xkill, xget, xset, gd_0, gd_s]
                                               refine r2_z rfl rfl (by first | decide | assumption) ?_
                                               first
                                                 | (rw [stS_p hc112 hRR, rd1_f rfl]
                                                    exact ⟨rfl, hq3, rdF_t (rdF_i (Or.inl rfl)) hF3, fun z => by cases z⟩)
                                                 | (rw [stS_p hc112 hRR, rd1_cf (by decide) (by decide) hc59]
                                                    exact ⟨rfl, hq3, rdF_t (rdF_i (Or.inl rfl)) hF3, fun z => by cases z⟩)
                                                 | (rw [stS_p hc112 hRR, rd1_ct (it := 59) (by decide) (by decide) hc59]
                                                    refine ⟨rfl, gI_self _ _ _ _, rdF_t (rdF_i (Or.inl rfl)) (rdF_t hF3 (rdF_i (Or.inl rfl))), fun _ => ⟨?_, ?_, ?_⟩⟩
                                                    · exact fun _ i hi => (gI_ne (Or.inl (by decide))).trans (htd3 rfl i hi)
                                                    · exact fun z => absurd (hc112.symm.trans z) (by decide)
                                                    · exact fun z => absurd (hc112.symm.trans z) (by decide))
                                                 | (rw [stS_r hc114 hRR, rd1_f rfl]
                                                    exact ⟨rfl, hq3, rdF_t (rdF_i (Or.inl rfl)) hF3, fun z => by cases z⟩)
                                                 | (rw [stS_r hc114 hRR, rd1_cf (by decide) (by decide) hc59]
                                                    exact ⟨rfl, hq3, rdF_t (rdF_i (Or.inl rfl)) hF3, fun z => by cases z⟩)
                                                 | (rw [stS_r hc114 hRR, rd1_ct (it := 59) (by decide) (by decide) hc59]
                                                    refine ⟨rfl, gI_self _ _ _ _, rdF_t (rdF_i (Or.inl rfl)) (rdF_t hF3 (rdF_i (Or.inl rfl))), fun _ => ⟨?_, ?_, ?_⟩⟩
                                                    · exact fun z => absurd (hc114.symm.trans z) (by decide)
                                                    · exact fun _ i hi => (gI_ne (Or.inl (by decide))).trans (htd3 rfl i hi)
                                                    · exact fun z => absurd (hc114.symm.trans z) (by decide))
                                                 | (rw [stS_f hc102 hRR, rd1_f rfl]
                                                    exact ⟨rfl, hq3, rdF_t (rdF_i (Or.inl rfl)) hF3, fun z => by cases z⟩)
                                                 | (rw [stS_f hc102 hRR, rd1_cf (by decide) (by decide) hc59]
                                                    exact ⟨rfl, hq3, rdF_t (rdF_i (Or.inl rfl)) hF3, fun z => by cases z⟩)
                                                 | (rw [stS_f hc102 hRR, rd1_ct (it := 59) (by decide) (by decide) hc59]
                                                    refine ⟨rfl, gI_self _ _ _ _, rdF_t (rdF_i (Or.inl rfl)) (rdF_t hF3 (rdF_i (Or.inl rfl))), fun _ => ⟨?_, ?_, ?_⟩⟩
                                                    · exact fun z => absurd (hc102.symm.trans z) (by decide)
                                                    · exact fun z => absurd (hc102.symm.trans z) (by decide)
                                                    · exact fun _ => (gI_ne (Or.inl (by decide))).trans (htd3 rfl 0 (by omega)))
                                                 | (rw [stS_n hc112 hc114 hc102]; exact ⟨rfl, hp, rdF_r, fun z => by cases z⟩))
                                      · dsimp only [Option.toList, List.cons_append, List.nil_append]
                                        refine xG_br rfl (fun h90 => ?_) (fun h90 => ?_)
                                        · first
                                            | (exfalso; first | exact absurd h90 (by decide) | exact h90 (by decide) | (simp at h90; done))
                                            | (refine xG_run 1 rfl (by repeat' (first | exact trivial | assumption | exact xob_b rfl | exact xal_b rfl | (apply And.intro) | decide)) ?_
                                               try dsimp only [xsto1, xsto2, xkill, xget, xset, gd_0, gd_s]
                                               refine r2_z rfl rfl (by first | decide | assumption) ?_
                                               first
                                                 | (rw [stS_p hc112 hRR, rd1_f rfl]
                                                    exact ⟨rfl, hq3, rdF_t (rdF_i (Or.inl rfl)) hF3, fun z => by cases z⟩)
                                                 | (rw [stS_p hc112 hRR, rd1_cf (by decide) (by decide) hc59]
                                                    exact ⟨rfl, hq3, rdF_t (rdF_i (Or.inl rfl)) hF3, fun z => by cases z⟩)
                                                 | (rw [stS_p hc112 hRR, rd1_ct (it := 59) (by decide) (by decide) hc59]
                                                    refine ⟨rfl, gI_self _ _ _ _, rdF_t (rdF_i (Or.inl rfl)) (rdF_t hF3 (rdF_i (Or.inl rfl))), fun _ => ⟨?_, ?_, ?_⟩⟩
                                                    · exact fun _ i hi => (gI_ne (Or.inl (by decide))).trans (htd3 rfl i hi)
                                                    · exact fun z => absurd (hc112.symm.trans z) (by decide)
                                                    · exact fun z => absurd (hc112.symm.trans z) (by decide))
                                                 | (rw [stS_r hc114 hRR, rd1_f rfl]
                                                    exact ⟨rfl, hq3, rdF_t (rdF_i (Or.inl rfl)) hF3, fun z => by cases z⟩)
                                                 | (rw [stS_r hc114 hRR, rd1_cf (by decide) (by decide) hc59]
                                                    exact ⟨rfl, hq3, rdF_t (rdF_i (Or.inl rfl)) hF3, fun z => by cases z⟩)
                                                 | (rw [stS_r hc114 hRR, rd1_ct (it := 59) (by decide) (by decide) hc59]
                                                    refine ⟨rfl, gI_self _ _ _ _, rdF_t (rdF_i (Or.inl rfl)) (rdF_t hF3 (rdF_i (Or.inl rfl))), fun _ => ⟨?_, ?_, ?_⟩⟩
                                                    · exact fun z => absurd (hc114.symm.trans z) (by decide)
                                                    · exact fun _ i hi => (gI_ne (Or.inl (by decide))).trans (htd3 rfl i hi)
                                                    · exact fun z => absurd (hc114.symm.trans z) (by decide))
                                                 | (rw [stS_f hc102 hRR, rd1_f rfl]
                                                    exact ⟨rfl, hq3, rdF_t (rdF_i (Or.inl rfl)) hF3, fun z => by cases z⟩)
                                                 | (rw [stS_f hc102 hRR, rd1_cf (by decide) (by decide) hc59]
                                                    exact ⟨rfl, hq3, rdF_t (rdF_i (Or.inl rfl)) hF3, fun z => by cases z⟩)
                                                 | (rw [stS_f hc102 hRR, rd1_ct (it := 59) (by decide) (by decide) hc59]
                                                    refine ⟨rfl, gI_self _ _ _ _, rdF_t (rdF_i (Or.inl rfl)) (rdF_t hF3 (rdF_i (Or.inl rfl))), fun _ => ⟨?_, ?_, ?_⟩⟩
                                                    · exact fun z => absurd (hc102.symm.trans z) (by decide)
                                                    · exact fun z => absurd (hc102.symm.trans z) (by decide)
                                                    · exact fun _ => (gI_ne (Or.inl (by decide))).trans (htd3 rfl 0 (by omega)))
                                                 | (rw [stS_n hc112 hc114 hc102]; exact ⟨rfl, hp, rdF_r, fun z => by cases z⟩))
                                        · first
                                            | (exfalso; first | exact absurd h90 (by decide) | exact h90 (by decide) | (simp at h90; done))
                                            | (refine xG_run 2 rfl (by repeat' (first | exact trivial | assumption | exact xob_b rfl | exact xal_b rfl | (apply And.intro) | decide)) ?_
                                               try dsimp only [xsto1, xsto2, xkill, xget, xset, gd_0, gd_s]
                                               refine r2_z rfl rfl (by first | decide | assumption) ?_
                                               first
                                                 | (rw [stS_p hc112 hRR, rd1_f rfl]
                                                    exact ⟨rfl, hq3, rdF_t (rdF_i (Or.inl rfl)) hF3, fun z => by cases z⟩)
                                                 | (rw [stS_p hc112 hRR, rd1_cf (by decide) (by decide) hc59]
                                                    exact ⟨rfl, hq3, rdF_t (rdF_i (Or.inl rfl)) hF3, fun z => by cases z⟩)
                                                 | (rw [stS_p hc112 hRR, rd1_ct (it := 59) (by decide) (by decide) hc59]
                                                    refine ⟨rfl, gI_self _ _ _ _, rdF_t (rdF_i (Or.inl rfl)) (rdF_t hF3 (rdF_i (Or.inl rfl))), fun _ => ⟨?_, ?_, ?_⟩⟩
                                                    · exact fun _ i hi => (gI_ne (Or.inl (by decide))).trans (htd3 rfl i hi)
                                                    · exact fun z => absurd (hc112.symm.trans z) (by decide)
                                                    · exact fun z => absurd (hc112.symm.trans z) (by decide))
                                                 | (rw [stS_r hc114 hRR, rd1_f rfl]
                                                    exact ⟨rfl, hq3, rdF_t (rdF_i (Or.inl rfl)) hF3, fun z => by cases z⟩)
                                                 | (rw [stS_r hc114 hRR, rd1_cf (by decide) (by decide) hc59]
                                                    exact ⟨rfl, hq3, rdF_t (rdF_i (Or.inl rfl)) hF3, fun z => by cases z⟩)
                                                 | (rw [stS_r hc114 hRR, rd1_ct (it := 59) (by decide) (by decide) hc59]
                                                    refine ⟨rfl, gI_self _ _ _ _, rdF_t (rdF_i (Or.inl rfl)) (rdF_t hF3 (rdF_i (Or.inl rfl))), fun _ => ⟨?_, ?_, ?_⟩⟩
                                                    · exact fun z => absurd (hc114.symm.trans z) (by decide)
                                                    · exact fun _ i hi => (gI_ne (Or.inl (by decide))).trans (htd3 rfl i hi)
                                                    · exact fun z => absurd (hc114.symm.trans z) (by decide))
                                                 | (rw [stS_f hc102 hRR, rd1_f rfl]
                                                    exact ⟨rfl, hq3, rdF_t (rdF_i (Or.inl rfl)) hF3, fun z => by cases z⟩)
                                                 | (rw [stS_f hc102 hRR, rd1_cf (by decide) (by decide) hc59]
                                                    exact ⟨rfl, hq3, rdF_t (rdF_i (Or.inl rfl)) hF3, fun z => by cases z⟩)
                                                 | (rw [stS_f hc102 hRR, rd1_ct (it := 59) (by decide) (by decide) hc59]
                                                    refine ⟨rfl, gI_self _ _ _ _, rdF_t (rdF_i (Or.inl rfl)) (rdF_t hF3 (rdF_i (Or.inl rfl))), fun _ => ⟨?_, ?_, ?_⟩⟩
                                                    · exact fun z => absurd (hc102.symm.trans z) (by decide)
                                                    · exact fun z => absurd (hc102.symm.trans z) (by decide)
                                                    · exact fun _ => (gI_ne (Or.inl (by decide))).trans (htd3 rfl 0 (by omega)))
                                                 | (rw [stS_n hc112 hc114 hc102]; exact ⟨rfl, hp, rdF_r, fun z => by cases z⟩))))
                    · dsimp only [Option.toList, List.cons_append, List.nil_append]
                      refine xG_br rfl (fun h72 => ?_) (fun h72 => ?_)
                      · first
                          | (exfalso; first | exact absurd h72 (by decide) | exact h72 (by decide) | (simp at h72; done))
                          | (refine xG_run 1 rfl (by repeat' (first | exact trivial | assumption | exact xob_b rfl | exact xal_b rfl | (apply And.intro) | decide)) ?_
                             try dsimp only [xsto1, xsto2, xkill, xget, xset, gd_0, gd_s]
                             refine r2_z rfl rfl (by first | decide | assumption) ?_
                             first
                               | (rw [stS_p hc112 hRR, rd1_f rfl]
                                  exact ⟨rfl, hq3, rdF_t (rdF_i (Or.inl rfl)) hF3, fun z => by cases z⟩)
                               | (rw [stS_p hc112 hRR, rd1_cf (by decide) (by decide) hc59]
                                  exact ⟨rfl, hq3, rdF_t (rdF_i (Or.inl rfl)) hF3, fun z => by cases z⟩)
                               | (rw [stS_p hc112 hRR, rd1_ct (it := 59) (by decide) (by decide) hc59]
                                  refine ⟨rfl, gI_self _ _ _ _, rdF_t (rdF_i (Or.inl rfl)) (rdF_t hF3 (rdF_i (Or.inl rfl))), fun _ => ⟨?_, ?_, ?_⟩⟩
                                  · exact fun _ i hi => (gI_ne (Or.inl (by decide))).trans (htd3 rfl i hi)
                                  · exact fun z => absurd (hc112.symm.trans z) (by decide)
                                  · exact fun z => absurd (hc112.symm.trans z) (by decide))
                               | (rw [stS_r hc114 hRR, rd1_f rfl]
                                  exact ⟨rfl, hq3, rdF_t (rdF_i (Or.inl rfl)) hF3, fun z => by cases z⟩)
                               | (rw [stS_r hc114 hRR, rd1_cf (by decide) (by decide) hc59]
                                  exact ⟨rfl, hq3, rdF_t (rdF_i (Or.inl rfl)) hF3, fun z => by cases z⟩)
                               | (rw [stS_r hc114 hRR, rd1_ct (it := 59) (by decide) (by decide) hc59]
                                  refine ⟨rfl, gI_self _ _ _ _, rdF_t (rdF_i (Or.inl rfl)) (rdF_t hF3 (rdF_i (Or.inl rfl))), fun _ => ⟨?_, ?_, ?_⟩⟩
                                  · exact fun z => absurd (hc114.symm.trans z) (by decide)
                                  · exact fun _ i hi => (gI_ne (Or.inl (by decide))).trans (htd3 rfl i hi)
                                  · exact fun z => absurd (hc114.symm.trans z) (by decide))
                               | (rw [stS_f hc102 hRR, rd1_f rfl]
                                  exact ⟨rfl, hq3, rdF_t (rdF_i (Or.inl rfl)) hF3, fun z => by cases z⟩)
                               | (rw [stS_f hc102 hRR, rd1_cf (by decide) (by decide) hc59]
                                  exact ⟨rfl, hq3, rdF_t (rdF_i (Or.inl rfl)) hF3, fun z => by cases z⟩)
                               | (rw [stS_f hc102 hRR, rd1_ct (it := 59) (by decide) (by decide) hc59]
                                  refine ⟨rfl, gI_self _ _ _ _, rdF_t (rdF_i (Or.inl rfl)) (rdF_t hF3 (rdF_i (Or.inl rfl))), fun _ => ⟨?_, ?_, ?_⟩⟩
                                  · exact fun z => absurd (hc102.symm.trans z) (by decide)
                                  · exact fun z => absurd (hc102.symm.trans z) (by decide)
                                  · exact fun _ => (gI_ne (Or.inl (by decide))).trans (htd3 rfl 0 (by omega)))
                               | (rw [stS_n hc112 hc114 hc102]; exact ⟨rfl, hp, rdF_r, fun z => by cases z⟩))
                      · first
                          | (exfalso; first | exact absurd h72 (by decide) | exact h72 (by decide) | (simp at h72; done))
                          | (refine xG_run 3 rfl (by repeat' (first | exact trivial | assumption | exact xob_b rfl | exact xal_b rfl | (apply And.intro) | decide)) ?_
                             try dsimp only [xsto1, xsto2, xkill, xget, xset, gd_0, gd_s]
                             refine xG_c2 2 rfl (by repeat' (first | exact trivial | assumption | exact xob_b rfl | exact xal_b rfl | (apply And.intro) | decide)) rfl rfl (by decide) cw_X12_readsNumbers (d' := d - 1) (e_readsNumbersU (m := 1) (p := p + 1) (sv := 0) hTa (gI_self _ _ _ _) (by omega) (by omega) (by omega)) (by omega) ?_
                             rintro v M3 ⟨rfl, hq3, hF3, htd3⟩
                             rcases hRR : rdS T n (itK false 1) (true, p + 1, [], 0) with ⟨ok, q, l, sx⟩
                             try rw [hRR] at hq3 htd3
                             dsimp only at hq3 htd3
                             cases ok
                             · dsimp only [Option.toList, List.cons_append, List.nil_append]
                               refine xG_br rfl (fun h81 => ?_) (fun h81 => ?_)
                               · first
                                   | (exfalso; first | exact absurd h81 (by decide) | exact h81 (by decide) | (simp at h81; done))
                                   | (refine xG_run 1 rfl (by repeat' (first | exact trivial | assumption | exact xob_b rfl | exact xal_b rfl | (apply And.intro) | decide)) ?_
                                      try dsimp only [xsto1, xsto2, xkill, xget, xset, gd_0, gd_s]
                                      refine r2_z rfl rfl (by first | decide | assumption) ?_
                                      first
                                        | (rw [stS_p hc112 hRR, rd1_f rfl]
                                           exact ⟨rfl, hq3, rdF_t (rdF_i (Or.inl rfl)) hF3, fun z => by cases z⟩)
                                        | (rw [stS_p hc112 hRR, rd1_cf (by decide) (by decide) hc59]
                                           exact ⟨rfl, hq3, rdF_t (rdF_i (Or.inl rfl)) hF3, fun z => by cases z⟩)
                                        | (rw [stS_p hc112 hRR, rd1_ct (it := 59) (by decide) (by decide) hc59]
                                           refine ⟨rfl, gI_self _ _ _ _, rdF_t (rdF_i (Or.inl rfl)) (rdF_t hF3 (rdF_i (Or.inl rfl))), fun _ => ⟨?_, ?_, ?_⟩⟩
                                           · exact fun _ i hi => (gI_ne (Or.inl (by decide))).trans (htd3 rfl i hi)
                                           · exact fun z => absurd (hc112.symm.trans z) (by decide)
                                           · exact fun z => absurd (hc112.symm.trans z) (by decide))
                                        | (rw [stS_r hc114 hRR, rd1_f rfl]
                                           exact ⟨rfl, hq3, rdF_t (rdF_i (Or.inl rfl)) hF3, fun z => by cases z⟩)
                                        | (rw [stS_r hc114 hRR, rd1_cf (by decide) (by decide) hc59]
                                           exact ⟨rfl, hq3, rdF_t (rdF_i (Or.inl rfl)) hF3, fun z => by cases z⟩)
                                        | (rw [stS_r hc114 hRR, rd1_ct (it := 59) (by decide) (by decide) hc59]
                                           refine ⟨rfl, gI_self _ _ _ _, rdF_t (rdF_i (Or.inl rfl)) (rdF_t hF3 (rdF_i (Or.inl rfl))), fun _ => ⟨?_, ?_, ?_⟩⟩
                                           · exact fun z => absurd (hc114.symm.trans z) (by decide)
                                           · exact fun _ i hi => (gI_ne (Or.inl (by decide))).trans (htd3 rfl i hi)
                                           · exact fun z => absurd (hc114.symm.trans z) (by decide))
                                        | (rw [stS_f hc102 hRR, rd1_f rfl]
                                           exact ⟨rfl, hq3, rdF_t (rdF_i (Or.inl rfl)) hF3, fun z => by cases z⟩)
                                        | (rw [stS_f hc102 hRR, rd1_cf (by decide) (by decide) hc59]
                                           exact ⟨rfl, hq3, rdF_t (rdF_i (Or.inl rfl)) hF3, fun z => by cases z⟩)
                                        | (rw [stS_f hc102 hRR, rd1_ct (it := 59) (by decide) (by decide) hc59]
                                           refine ⟨rfl, gI_self _ _ _ _, rdF_t (rdF_i (Or.inl rfl)) (rdF_t hF3 (rdF_i (Or.inl rfl))), fun _ => ⟨?_, ?_, ?_⟩⟩
                                           · exact fun z => absurd (hc102.symm.trans z) (by decide)
                                           · exact fun z => absurd (hc102.symm.trans z) (by decide)
                                           · exact fun _ => (gI_ne (Or.inl (by decide))).trans (htd3 rfl 0 (by omega)))
                                        | (rw [stS_n hc112 hc114 hc102]; exact ⟨rfl, hp, rdF_r, fun z => by cases z⟩))
                               · first
                                   | (exfalso; first | exact absurd h81 (by decide) | exact h81 (by decide) | (simp at h81; done))
                                   | (refine xG_run 2 rfl (by repeat' (first | exact trivial | assumption | exact xob_b rfl | exact xal_b rfl | (apply And.intro) | decide)) ?_
                                      try dsimp only [xsto1, xsto2, xkill, xget, xset, gd_0, gd_s]
                                      refine xG_c2 1 rfl (by repeat' (first | exact trivial | assumption | exact xob_b rfl | exact xal_b rfl | (apply And.intro) | decide)) rfl rfl (by decide) cw_X12_takes (d' := d - 1) (e_takes (p := q) (c := 59) hT3 hq3 (by omega) (by omega)) (by omega) ?_
                                      rintro v M4 (⟨hc59, rfl, rfl⟩ | ⟨hc59, rfl, rfl⟩)
                                      · dsimp only [Option.toList, List.cons_append, List.nil_append]
                                        refine xG_br rfl (fun h90 => ?_) (fun h90 => ?_)
                                        · first
                                            | (exfalso; first | exact absurd h90 (by decide) | exact h90 (by decide) | (simp at h90; done))
                                            | (refine xG_run 1 rfl (by repeat' (first | exact trivial | assumption | exact xob_b rfl | exact xal_b rfl | (apply And.intro) | decide)) ?_
                                               try dsimp only [xsto1, xsto2, xkill, xget, xset, gd_0, gd_s]
                                               refine r2_z rfl rfl (by first | decide | assumption) ?_
                                               first
                                                 | (rw [stS_p hc112 hRR, rd1_f rfl]
                                                    exact ⟨rfl, hq3, rdF_t (rdF_i (Or.inl rfl)) hF3, fun z => by cases z⟩)
                                                 | (rw [stS_p hc112 hRR, rd1_cf (by decide) (by decide) hc59]
                                                    exact ⟨rfl, hq3, rdF_t (rdF_i (Or.inl rfl)) hF3, fun z => by cases z⟩)
                                                 | (rw [stS_p hc112 hRR, rd1_ct (it := 59) (by decide) (by decide) hc59]
                                                    refine ⟨rfl, gI_self _ _ _ _, rdF_t (rdF_i (Or.inl rfl)) (rdF_t hF3 (rdF_i (Or.inl rfl))), fun _ => ⟨?_, ?_, ?_⟩⟩
                                                    · exact fun _ i hi => (gI_ne (Or.inl (by decide))).trans (htd3 rfl i hi)
                                                    · exact fun z => absurd (hc112.symm.trans z) (by decide)
                                                    · exact fun z => absurd (hc112.symm.trans z) (by decide))
                                                 | (rw [stS_r hc114 hRR, rd1_f rfl]
                                                    exact ⟨rfl, hq3, rdF_t (rdF_i (Or.inl rfl)) hF3, fun z => by cases z⟩)
                                                 | (rw [stS_r hc114 hRR, rd1_cf (by decide) (by decide) hc59]
                                                    exact ⟨rfl, hq3, rdF_t (rdF_i (Or.inl rfl)) hF3, fun z => by cases z⟩)
                                                 | (rw [stS_r hc114 hRR, rd1_ct (it := 59) (by decide) (by decide) hc59]
                                                    refine ⟨rfl, gI_self _ _ _ _, rdF_t (rdF_i (Or.inl rfl)) (rdF_t hF3 (rdF_i (Or.inl rfl))), fun _ => ⟨?_, ?_, ?_⟩⟩
                                                    · exact fun z => absurd (hc114.symm.trans z) (by decide)
                                                    · exact fun _ i hi => (gI_ne (Or.inl (by decide))).trans (htd3 rfl i hi)
                                                    · exact fun z => absurd (hc114.symm.trans z) (by decide))
                                                 | (rw [stS_f hc102 hRR, rd1_f rfl]
                                                    exact ⟨rfl, hq3, rdF_t (rdF_i (Or.inl rfl)) hF3, fun z => by cases z⟩)
                                                 | (rw [stS_f hc102 hRR, rd1_cf (by decide) (by decide) hc59]
                                                    exact ⟨rfl, hq3, rdF_t (rdF_i (Or.inl rfl)) hF3, fun z => by cases z⟩)
                                                 | (rw [stS_f hc102 hRR, rd1_ct (it := 59) (by decide) (by decide) hc59]
                                                    refine ⟨rfl, gI_self _ _ _ _, rdF_t (rdF_i (Or.inl rfl)) (rdF_t hF3 (rdF_i (Or.inl rfl))), fun _ => ⟨?_, ?_, ?_⟩⟩
                                                    · exact fun z => absurd (hc102.symm.trans z) (by decide)
                                                    · exact fun z => absurd (hc102.symm.trans z) (by decide)
                                                    · exact fun _ => (gI_ne (Or.inl (by decide))).trans (htd3 rfl 0 (by omega)))
                                                 | (rw [stS_n hc112 hc114 hc102]; exact ⟨rfl, hp, rdF_r, fun z => by cases z⟩))
                                        · first
                                            | (exfalso; first | exact absurd h90 (by decide) | exact h90 (by decide) | (simp at h90; done))
                                            | (refine xG_run 2 rfl (by repeat' (first | exact trivial | assumption | exact xob_b rfl | exact xal_b rfl | (apply And.intro) | decide)) ?_
                                               try dsimp only [xsto1, xsto2, xkill, xget, xset, gd_0, gd_s]
                                               refine r2_z rfl rfl (by first | decide | assumption) ?_
                                               first
                                                 | (rw [stS_p hc112 hRR, rd1_f rfl]
                                                    exact ⟨rfl, hq3, rdF_t (rdF_i (Or.inl rfl)) hF3, fun z => by cases z⟩)
                                                 | (rw [stS_p hc112 hRR, rd1_cf (by decide) (by decide) hc59]
                                                    exact ⟨rfl, hq3, rdF_t (rdF_i (Or.inl rfl)) hF3, fun z => by cases z⟩)
                                                 | (rw [stS_p hc112 hRR, rd1_ct (it := 59) (by decide) (by decide) hc59]
                                                    refine ⟨rfl, gI_self _ _ _ _, rdF_t (rdF_i (Or.inl rfl)) (rdF_t hF3 (rdF_i (Or.inl rfl))), fun _ => ⟨?_, ?_, ?_⟩⟩
                                                    · exact fun _ i hi => (gI_ne (Or.inl (by decide))).trans (htd3 rfl i hi)
                                                    · exact fun z => absurd (hc112.symm.trans z) (by decide)
                                                    · exact fun z => absurd (hc112.symm.trans z) (by decide))
                                                 | (rw [stS_r hc114 hRR, rd1_f rfl]
                                                    exact ⟨rfl, hq3, rdF_t (rdF_i (Or.inl rfl)) hF3, fun z => by cases z⟩)
                                                 | (rw [stS_r hc114 hRR, rd1_cf (by decide) (by decide) hc59]
                                                    exact ⟨rfl, hq3, rdF_t (rdF_i (Or.inl rfl)) hF3, fun z => by cases z⟩)
                                                 | (rw [stS_r hc114 hRR, rd1_ct (it := 59) (by decide) (by decide) hc59]
                                                    refine ⟨rfl, gI_self _ _ _ _, rdF_t (rdF_i (Or.inl rfl)) (rdF_t hF3 (rdF_i (Or.inl rfl))), fun _ => ⟨?_, ?_, ?_⟩⟩
                                                    · exact fun z => absurd (hc114.symm.trans z) (by decide)
                                                    · exact fun _ i hi => (gI_ne (Or.inl (by decide))).trans (htd3 rfl i hi)
                                                    · exact fun z => absurd (hc114.symm.trans z) (by decide))
                                                 | (rw [stS_f hc102 hRR, rd1_f rfl]
                                                    exact ⟨rfl, hq3, rdF_t (rdF_i (Or.inl rfl)) hF3, fun z => by cases z⟩)
                                                 | (rw [stS_f hc102 hRR, rd1_cf (by decide) (by decide) hc59]
                                                    exact ⟨rfl, hq3, rdF_t (rdF_i (Or.inl rfl)) hF3, fun z => by cases z⟩)
                                                 | (rw [stS_f hc102 hRR, rd1_ct (it := 59) (by decide) (by decide) hc59]
                                                    refine ⟨rfl, gI_self _ _ _ _, rdF_t (rdF_i (Or.inl rfl)) (rdF_t hF3 (rdF_i (Or.inl rfl))), fun _ => ⟨?_, ?_, ?_⟩⟩
                                                    · exact fun z => absurd (hc102.symm.trans z) (by decide)
                                                    · exact fun z => absurd (hc102.symm.trans z) (by decide)
                                                    · exact fun _ => (gI_ne (Or.inl (by decide))).trans (htd3 rfl 0 (by omega)))
                                                 | (rw [stS_n hc112 hc114 hc102]; exact ⟨rfl, hp, rdF_r, fun z => by cases z⟩))
                                      · dsimp only [Option.toList, List.cons_append, List.nil_append]
                                        refine xG_br rfl (fun h90 => ?_) (fun h90 => ?_)
                                        · first
                                            | (exfalso; first | exact absurd h90 (by decide) | exact h90 (by decide) | (simp at h90; done))
                                            | (refine xG_run 1 rfl (by repeat' (first | exact trivial | assumption | exact xob_b rfl | exact xal_b rfl | (apply And.intro) | decide)) ?_
                                               try dsimp only [xsto1, xsto2, xkill, xget, xset, gd_0, gd_s]
                                               refine r2_z rfl rfl (by first | decide | assumption) ?_
                                               first
                                                 | (rw [stS_p hc112 hRR, rd1_f rfl]
                                                    exact ⟨rfl, hq3, rdF_t (rdF_i (Or.inl rfl)) hF3, fun z => by cases z⟩)
                                                 | (rw [stS_p hc112 hRR, rd1_cf (by decide) (by decide) hc59]
                                                    exact ⟨rfl, hq3, rdF_t (rdF_i (Or.inl rfl)) hF3, fun z => by cases z⟩)
                                                 | (rw [stS_p hc112 hRR, rd1_ct (it := 59) (by decide) (by decide) hc59]
                                                    refine ⟨rfl, gI_self _ _ _ _, rdF_t (rdF_i (Or.inl rfl)) (rdF_t hF3 (rdF_i (Or.inl rfl))), fun _ => ⟨?_, ?_, ?_⟩⟩
                                                    · exact fun _ i hi => (gI_ne (Or.inl (by decide))).trans (htd3 rfl i hi)
                                                    · exact fun z => absurd (hc112.symm.trans z) (by decide)
                                                    · exact fun z => absurd (hc112.symm.trans z) (by decide))
                                                 | (rw [stS_r hc114 hRR, rd1_f rfl]
                                                    exact ⟨rfl, hq3, rdF_t (rdF_i (Or.inl rfl)) hF3, fun z => by cases z⟩)
                                                 | (rw [stS_r hc114 hRR, rd1_cf (by decide) (by decide) hc59]
                                                    exact ⟨rfl, hq3, rdF_t (rdF_i (Or.inl rfl)) hF3, fun z => by cases z⟩)
                                                 | (rw [stS_r hc114 hRR, rd1_ct (it := 59) (by decide) (by decide) hc59]
                                                    refine ⟨rfl, gI_self _ _ _ _, rdF_t (rdF_i (Or.inl rfl)) (rdF_t hF3 (rdF_i (Or.inl rfl))), fun _ => ⟨?_, ?_, ?_⟩⟩
                                                    · exact fun z => absurd (hc114.symm.trans z) (by decide)
                                                    · exact fun _ i hi => (gI_ne (Or.inl (by decide))).trans (htd3 rfl i hi)
                                                    · exact fun z => absurd (hc114.symm.trans z) (by decide))
                                                 | (rw [stS_f hc102 hRR, rd1_f rfl]
                                                    exact ⟨rfl, hq3, rdF_t (rdF_i (Or.inl rfl)) hF3, fun z => by cases z⟩)
                                                 | (rw [stS_f hc102 hRR, rd1_cf (by decide) (by decide) hc59]
                                                    exact ⟨rfl, hq3, rdF_t (rdF_i (Or.inl rfl)) hF3, fun z => by cases z⟩)
                                                 | (rw [stS_f hc102 hRR, rd1_ct (it := 59) (by decide) (by decide) hc59]
                                                    refine ⟨rfl, gI_self _ _ _ _, rdF_t (rdF_i (Or.inl rfl)) (rdF_t hF3 (rdF_i (Or.inl rfl))), fun _ => ⟨?_, ?_, ?_⟩⟩
                                                    · exact fun z => absurd (hc102.symm.trans z) (by decide)
                                                    · exact fun z => absurd (hc102.symm.trans z) (by decide)
                                                    · exact fun _ => (gI_ne (Or.inl (by decide))).trans (htd3 rfl 0 (by omega)))
                                                 | (rw [stS_n hc112 hc114 hc102]; exact ⟨rfl, hp, rdF_r, fun z => by cases z⟩))
                                        · first
                                            | (exfalso; first | exact absurd h90 (by decide) | exact h90 (by decide) | (simp at h90; done))
                                            | (refine xG_run 2 rfl (by repeat' (first | exact trivial | assumption | exact xob_b rfl | exact xal_b rfl | (apply And.intro) | decide)) ?_
                                               try dsimp only [xsto1, xsto2, xkill, xget, xset, gd_0, gd_s]
                                               refine r2_z rfl rfl (by first | decide | assumption) ?_
                                               first
                                                 | (rw [stS_p hc112 hRR, rd1_f rfl]
                                                    exact ⟨rfl, hq3, rdF_t (rdF_i (Or.inl rfl)) hF3, fun z => by cases z⟩)
                                                 | (rw [stS_p hc112 hRR, rd1_cf (by decide) (by decide) hc59]
                                                    exact ⟨rfl, hq3, rdF_t (rdF_i (Or.inl rfl)) hF3, fun z => by cases z⟩)
                                                 | (rw [stS_p hc112 hRR, rd1_ct (it := 59) (by decide) (by decide) hc59]
                                                    refine ⟨rfl, gI_self _ _ _ _, rdF_t (rdF_i (Or.inl rfl)) (rdF_t hF3 (rdF_i (Or.inl rfl))), fun _ => ⟨?_, ?_, ?_⟩⟩
                                                    · exact fun _ i hi => (gI_ne (Or.inl (by decide))).trans (htd3 rfl i hi)
                                                    · exact fun z => absurd (hc112.symm.trans z) (by decide)
                                                    · exact fun z => absurd (hc112.symm.trans z) (by decide))
                                                 | (rw [stS_r hc114 hRR, rd1_f rfl]
                                                    exact ⟨rfl, hq3, rdF_t (rdF_i (Or.inl rfl)) hF3, fun z => by cases z⟩)
                                                 | (rw [stS_r hc114 hRR, rd1_cf (by decide) (by decide) hc59]
                                                    exact ⟨rfl, hq3, rdF_t (rdF_i (Or.inl rfl)) hF3, fun z => by cases z⟩)
                                                 | (rw [stS_r hc114 hRR, rd1_ct (it := 59) (by decide) (by decide) hc59]
                                                    refine ⟨rfl, gI_self _ _ _ _, rdF_t (rdF_i (Or.inl rfl)) (rdF_t hF3 (rdF_i (Or.inl rfl))), fun _ => ⟨?_, ?_, ?_⟩⟩
                                                    · exact fun z => absurd (hc114.symm.trans z) (by decide)
                                                    · exact fun _ i hi => (gI_ne (Or.inl (by decide))).trans (htd3 rfl i hi)
                                                    · exact fun z => absurd (hc114.symm.trans z) (by decide))
                                                 | (rw [stS_f hc102 hRR, rd1_f rfl]
                                                    exact ⟨rfl, hq3, rdF_t (rdF_i (Or.inl rfl)) hF3, fun z => by cases z⟩)
                                                 | (rw [stS_f hc102 hRR, rd1_cf (by decide) (by decide) hc59]
                                                    exact ⟨rfl, hq3, rdF_t (rdF_i (Or.inl rfl)) hF3, fun z => by cases z⟩)
                                                 | (rw [stS_f hc102 hRR, rd1_ct (it := 59) (by decide) (by decide) hc59]
                                                    refine ⟨rfl, gI_self _ _ _ _, rdF_t (rdF_i (Or.inl rfl)) (rdF_t hF3 (rdF_i (Or.inl rfl))), fun _ => ⟨?_, ?_, ?_⟩⟩
                                                    · exact fun z => absurd (hc102.symm.trans z) (by decide)
                                                    · exact fun z => absurd (hc102.symm.trans z) (by decide)
                                                    · exact fun _ => (gI_ne (Or.inl (by decide))).trans (htd3 rfl 0 (by omega)))
                                                 | (rw [stS_n hc112 hc114 hc102]; exact ⟨rfl, hp, rdF_r, fun z => by cases z⟩)))
                             · dsimp only [Option.toList, List.cons_append, List.nil_append]
                               have hT3 := rT_F hTa hF3
                               have hq9 : q ≤ n := by
                                 have e := rdS_le (T := T) (n := n) (l := itK false 1) (s := (true, p + 1, [], 0)) (by show p + 1 ≤ n; omega) (itK_le 1)
                                 rw [hRR] at e
                                 exact e
                               refine xG_br rfl (fun h81 => ?_) (fun h81 => ?_)
                               · first
                                   | (exfalso; first | exact absurd h81 (by decide) | exact h81 (by decide) | (simp at h81; done))
                                   | (refine xG_run 1 rfl (by repeat' (first | exact trivial | assumption | exact xob_b rfl | exact xal_b rfl | (apply And.intro) | decide)) ?_
                                      try dsimp only [xsto1, xsto2, xkill, xget, xset, gd_0, gd_s]
                                      refine r2_z rfl rfl (by first | decide | assumption) ?_
                                      first
                                        | (rw [stS_p hc112 hRR, rd1_f rfl]
                                           exact ⟨rfl, hq3, rdF_t (rdF_i (Or.inl rfl)) hF3, fun z => by cases z⟩)
                                        | (rw [stS_p hc112 hRR, rd1_cf (by decide) (by decide) hc59]
                                           exact ⟨rfl, hq3, rdF_t (rdF_i (Or.inl rfl)) hF3, fun z => by cases z⟩)
                                        | (rw [stS_p hc112 hRR, rd1_ct (it := 59) (by decide) (by decide) hc59]
                                           refine ⟨rfl, gI_self _ _ _ _, rdF_t (rdF_i (Or.inl rfl)) (rdF_t hF3 (rdF_i (Or.inl rfl))), fun _ => ⟨?_, ?_, ?_⟩⟩
                                           · exact fun _ i hi => (gI_ne (Or.inl (by decide))).trans (htd3 rfl i hi)
                                           · exact fun z => absurd (hc112.symm.trans z) (by decide)
                                           · exact fun z => absurd (hc112.symm.trans z) (by decide))
                                        | (rw [stS_r hc114 hRR, rd1_f rfl]
                                           exact ⟨rfl, hq3, rdF_t (rdF_i (Or.inl rfl)) hF3, fun z => by cases z⟩)
                                        | (rw [stS_r hc114 hRR, rd1_cf (by decide) (by decide) hc59]
                                           exact ⟨rfl, hq3, rdF_t (rdF_i (Or.inl rfl)) hF3, fun z => by cases z⟩)
                                        | (rw [stS_r hc114 hRR, rd1_ct (it := 59) (by decide) (by decide) hc59]
                                           refine ⟨rfl, gI_self _ _ _ _, rdF_t (rdF_i (Or.inl rfl)) (rdF_t hF3 (rdF_i (Or.inl rfl))), fun _ => ⟨?_, ?_, ?_⟩⟩
                                           · exact fun z => absurd (hc114.symm.trans z) (by decide)
                                           · exact fun _ i hi => (gI_ne (Or.inl (by decide))).trans (htd3 rfl i hi)
                                           · exact fun z => absurd (hc114.symm.trans z) (by decide))
                                        | (rw [stS_f hc102 hRR, rd1_f rfl]
                                           exact ⟨rfl, hq3, rdF_t (rdF_i (Or.inl rfl)) hF3, fun z => by cases z⟩)
                                        | (rw [stS_f hc102 hRR, rd1_cf (by decide) (by decide) hc59]
                                           exact ⟨rfl, hq3, rdF_t (rdF_i (Or.inl rfl)) hF3, fun z => by cases z⟩)
                                        | (rw [stS_f hc102 hRR, rd1_ct (it := 59) (by decide) (by decide) hc59]
                                           refine ⟨rfl, gI_self _ _ _ _, rdF_t (rdF_i (Or.inl rfl)) (rdF_t hF3 (rdF_i (Or.inl rfl))), fun _ => ⟨?_, ?_, ?_⟩⟩
                                           · exact fun z => absurd (hc102.symm.trans z) (by decide)
                                           · exact fun z => absurd (hc102.symm.trans z) (by decide)
                                           · exact fun _ => (gI_ne (Or.inl (by decide))).trans (htd3 rfl 0 (by omega)))
                                        | (rw [stS_n hc112 hc114 hc102]; exact ⟨rfl, hp, rdF_r, fun z => by cases z⟩))
                               · first
                                   | (exfalso; first | exact absurd h81 (by decide) | exact h81 (by decide) | (simp at h81; done))
                                   | (refine xG_run 2 rfl (by repeat' (first | exact trivial | assumption | exact xob_b rfl | exact xal_b rfl | (apply And.intro) | decide)) ?_
                                      try dsimp only [xsto1, xsto2, xkill, xget, xset, gd_0, gd_s]
                                      refine xG_c2 1 rfl (by repeat' (first | exact trivial | assumption | exact xob_b rfl | exact xal_b rfl | (apply And.intro) | decide)) rfl rfl (by decide) cw_X12_takes (d' := d - 1) (e_takes (p := q) (c := 59) hT3 hq3 (by omega) (by omega)) (by omega) ?_
                                      rintro v M4 (⟨hc59, rfl, rfl⟩ | ⟨hc59, rfl, rfl⟩)
                                      · dsimp only [Option.toList, List.cons_append, List.nil_append]
                                        refine xG_br rfl (fun h90 => ?_) (fun h90 => ?_)
                                        · first
                                            | (exfalso; first | exact absurd h90 (by decide) | exact h90 (by decide) | (simp at h90; done))
                                            | (refine xG_run 1 rfl (by repeat' (first | exact trivial | assumption | exact xob_b rfl | exact xal_b rfl | (apply And.intro) | decide)) ?_
                                               try dsimp only [xsto1, xsto2, xkill, xget, xset, gd_0, gd_s]
                                               refine r2_z rfl rfl (by first | decide | assumption) ?_
                                               first
                                                 | (rw [stS_p hc112 hRR, rd1_f rfl]
                                                    exact ⟨rfl, hq3, rdF_t (rdF_i (Or.inl rfl)) hF3, fun z => by cases z⟩)
                                                 | (rw [stS_p hc112 hRR, rd1_cf (by decide) (by decide) hc59]
                                                    exact ⟨rfl, hq3, rdF_t (rdF_i (Or.inl rfl)) hF3, fun z => by cases z⟩)
                                                 | (rw [stS_p hc112 hRR, rd1_ct (it := 59) (by decide) (by decide) hc59]
                                                    refine ⟨rfl, gI_self _ _ _ _, rdF_t (rdF_i (Or.inl rfl)) (rdF_t hF3 (rdF_i (Or.inl rfl))), fun _ => ⟨?_, ?_, ?_⟩⟩
                                                    · exact fun _ i hi => (gI_ne (Or.inl (by decide))).trans (htd3 rfl i hi)
                                                    · exact fun z => absurd (hc112.symm.trans z) (by decide)
                                                    · exact fun z => absurd (hc112.symm.trans z) (by decide))
                                                 | (rw [stS_r hc114 hRR, rd1_f rfl]
                                                    exact ⟨rfl, hq3, rdF_t (rdF_i (Or.inl rfl)) hF3, fun z => by cases z⟩)
                                                 | (rw [stS_r hc114 hRR, rd1_cf (by decide) (by decide) hc59]
                                                    exact ⟨rfl, hq3, rdF_t (rdF_i (Or.inl rfl)) hF3, fun z => by cases z⟩)
                                                 | (rw [stS_r hc114 hRR, rd1_ct (it := 59) (by decide) (by decide) hc59]
                                                    refine ⟨rfl, gI_self _ _ _ _, rdF_t (rdF_i (Or.inl rfl)) (rdF_t hF3 (rdF_i (Or.inl rfl))), fun _ => ⟨?_, ?_, ?_⟩⟩
                                                    · exact fun z => absurd (hc114.symm.trans z) (by decide)
                                                    · exact fun _ i hi => (gI_ne (Or.inl (by decide))).trans (htd3 rfl i hi)
                                                    · exact fun z => absurd (hc114.symm.trans z) (by decide))
                                                 | (rw [stS_f hc102 hRR, rd1_f rfl]
                                                    exact ⟨rfl, hq3, rdF_t (rdF_i (Or.inl rfl)) hF3, fun z => by cases z⟩)
                                                 | (rw [stS_f hc102 hRR, rd1_cf (by decide) (by decide) hc59]
                                                    exact ⟨rfl, hq3, rdF_t (rdF_i (Or.inl rfl)) hF3, fun z => by cases z⟩)
                                                 | (rw [stS_f hc102 hRR, rd1_ct (it := 59) (by decide) (by decide) hc59]
                                                    refine ⟨rfl, gI_self _ _ _ _, rdF_t (rdF_i (Or.inl rfl)) (rdF_t hF3 (rdF_i (Or.inl rfl))), fun _ => ⟨?_, ?_, ?_⟩⟩
                                                    · exact fun z => absurd (hc102.symm.trans z) (by decide)
                                                    · exact fun z => absurd (hc102.symm.trans z) (by decide)
                                                    · exact fun _ => (gI_ne (Or.inl (by decide))).trans (htd3 rfl 0 (by omega)))
                                                 | (rw [stS_n hc112 hc114 hc102]; exact ⟨rfl, hp, rdF_r, fun z => by cases z⟩))
                                        · first
                                            | (exfalso; first | exact absurd h90 (by decide) | exact h90 (by decide) | (simp at h90; done))
                                            | (refine xG_run 2 rfl (by repeat' (first | exact trivial | assumption | exact xob_b rfl | exact xal_b rfl | (apply And.intro) | decide)) ?_
                                               try dsimp only [xsto1, xsto2, xkill, xget, xset, gd_0, gd_s]
                                               refine r2_z rfl rfl (by first | decide | assumption) ?_
                                               first
                                                 | (rw [stS_p hc112 hRR, rd1_f rfl]
                                                    exact ⟨rfl, hq3, rdF_t (rdF_i (Or.inl rfl)) hF3, fun z => by cases z⟩)
                                                 | (rw [stS_p hc112 hRR, rd1_cf (by decide) (by decide) hc59]
                                                    exact ⟨rfl, hq3, rdF_t (rdF_i (Or.inl rfl)) hF3, fun z => by cases z⟩)
                                                 | (rw [stS_p hc112 hRR, rd1_ct (it := 59) (by decide) (by decide) hc59]
                                                    refine ⟨rfl, gI_self _ _ _ _, rdF_t (rdF_i (Or.inl rfl)) (rdF_t hF3 (rdF_i (Or.inl rfl))), fun _ => ⟨?_, ?_, ?_⟩⟩
                                                    · exact fun _ i hi => (gI_ne (Or.inl (by decide))).trans (htd3 rfl i hi)
                                                    · exact fun z => absurd (hc112.symm.trans z) (by decide)
                                                    · exact fun z => absurd (hc112.symm.trans z) (by decide))
                                                 | (rw [stS_r hc114 hRR, rd1_f rfl]
                                                    exact ⟨rfl, hq3, rdF_t (rdF_i (Or.inl rfl)) hF3, fun z => by cases z⟩)
                                                 | (rw [stS_r hc114 hRR, rd1_cf (by decide) (by decide) hc59]
                                                    exact ⟨rfl, hq3, rdF_t (rdF_i (Or.inl rfl)) hF3, fun z => by cases z⟩)
                                                 | (rw [stS_r hc114 hRR, rd1_ct (it := 59) (by decide) (by decide) hc59]
                                                    refine ⟨rfl, gI_self _ _ _ _, rdF_t (rdF_i (Or.inl rfl)) (rdF_t hF3 (rdF_i (Or.inl rfl))), fun _ => ⟨?_, ?_, ?_⟩⟩
                                                    · exact fun z => absurd (hc114.symm.trans z) (by decide)
                                                    · exact fun _ i hi => (gI_ne (Or.inl (by decide))).trans (htd3 rfl i hi)
                                                    · exact fun z => absurd (hc114.symm.trans z) (by decide))
                                                 | (rw [stS_f hc102 hRR, rd1_f rfl]
                                                    exact ⟨rfl, hq3, rdF_t (rdF_i (Or.inl rfl)) hF3, fun z => by cases z⟩)
                                                 | (rw [stS_f hc102 hRR, rd1_cf (by decide) (by decide) hc59]
                                                    exact ⟨rfl, hq3, rdF_t (rdF_i (Or.inl rfl)) hF3, fun z => by cases z⟩)
                                                 | (rw [stS_f hc102 hRR, rd1_ct (it := 59) (by decide) (by decide) hc59]
                                                    refine ⟨rfl, gI_self _ _ _ _, rdF_t (rdF_i (Or.inl rfl)) (rdF_t hF3 (rdF_i (Or.inl rfl))), fun _ => ⟨?_, ?_, ?_⟩⟩
                                                    · exact fun z => absurd (hc102.symm.trans z) (by decide)
                                                    · exact fun z => absurd (hc102.symm.trans z) (by decide)
                                                    · exact fun _ => (gI_ne (Or.inl (by decide))).trans (htd3 rfl 0 (by omega)))
                                                 | (rw [stS_n hc112 hc114 hc102]; exact ⟨rfl, hp, rdF_r, fun z => by cases z⟩))
                                      · dsimp only [Option.toList, List.cons_append, List.nil_append]
                                        refine xG_br rfl (fun h90 => ?_) (fun h90 => ?_)
                                        · first
                                            | (exfalso; first | exact absurd h90 (by decide) | exact h90 (by decide) | (simp at h90; done))
                                            | (refine xG_run 1 rfl (by repeat' (first | exact trivial | assumption | exact xob_b rfl | exact xal_b rfl | (apply And.intro) | decide)) ?_
                                               try dsimp only [xsto1, xsto2, xkill, xget, xset, gd_0, gd_s]
                                               refine r2_z rfl rfl (by first | decide | assumption) ?_
                                               first
                                                 | (rw [stS_p hc112 hRR, rd1_f rfl]
                                                    exact ⟨rfl, hq3, rdF_t (rdF_i (Or.inl rfl)) hF3, fun z => by cases z⟩)
                                                 | (rw [stS_p hc112 hRR, rd1_cf (by decide) (by decide) hc59]
                                                    exact ⟨rfl, hq3, rdF_t (rdF_i (Or.inl rfl)) hF3, fun z => by cases z⟩)
                                                 | (rw [stS_p hc112 hRR, rd1_ct (it := 59) (by decide) (by decide) hc59]
                                                    refine ⟨rfl, gI_self _ _ _ _, rdF_t (rdF_i (Or.inl rfl)) (rdF_t hF3 (rdF_i (Or.inl rfl))), fun _ => ⟨?_, ?_, ?_⟩⟩
                                                    · exact fun _ i hi => (gI_ne (Or.inl (by decide))).trans (htd3 rfl i hi)
                                                    · exact fun z => absurd (hc112.symm.trans z) (by decide)
                                                    · exact fun z => absurd (hc112.symm.trans z) (by decide))
                                                 | (rw [stS_r hc114 hRR, rd1_f rfl]
                                                    exact ⟨rfl, hq3, rdF_t (rdF_i (Or.inl rfl)) hF3, fun z => by cases z⟩)
                                                 | (rw [stS_r hc114 hRR, rd1_cf (by decide) (by decide) hc59]
                                                    exact ⟨rfl, hq3, rdF_t (rdF_i (Or.inl rfl)) hF3, fun z => by cases z⟩)
                                                 | (rw [stS_r hc114 hRR, rd1_ct (it := 59) (by decide) (by decide) hc59]
                                                    refine ⟨rfl, gI_self _ _ _ _, rdF_t (rdF_i (Or.inl rfl)) (rdF_t hF3 (rdF_i (Or.inl rfl))), fun _ => ⟨?_, ?_, ?_⟩⟩
                                                    · exact fun z => absurd (hc114.symm.trans z) (by decide)
                                                    · exact fun _ i hi => (gI_ne (Or.inl (by decide))).trans (htd3 rfl i hi)
                                                    · exact fun z => absurd (hc114.symm.trans z) (by decide))
                                                 | (rw [stS_f hc102 hRR, rd1_f rfl]
                                                    exact ⟨rfl, hq3, rdF_t (rdF_i (Or.inl rfl)) hF3, fun z => by cases z⟩)
                                                 | (rw [stS_f hc102 hRR, rd1_cf (by decide) (by decide) hc59]
                                                    exact ⟨rfl, hq3, rdF_t (rdF_i (Or.inl rfl)) hF3, fun z => by cases z⟩)
                                                 | (rw [stS_f hc102 hRR, rd1_ct (it := 59) (by decide) (by decide) hc59]
                                                    refine ⟨rfl, gI_self _ _ _ _, rdF_t (rdF_i (Or.inl rfl)) (rdF_t hF3 (rdF_i (Or.inl rfl))), fun _ => ⟨?_, ?_, ?_⟩⟩
                                                    · exact fun z => absurd (hc102.symm.trans z) (by decide)
                                                    · exact fun z => absurd (hc102.symm.trans z) (by decide)
                                                    · exact fun _ => (gI_ne (Or.inl (by decide))).trans (htd3 rfl 0 (by omega)))
                                                 | (rw [stS_n hc112 hc114 hc102]; exact ⟨rfl, hp, rdF_r, fun z => by cases z⟩))
                                        · first
                                            | (exfalso; first | exact absurd h90 (by decide) | exact h90 (by decide) | (simp at h90; done))
                                            | (refine xG_run 2 rfl (by repeat' (first | exact trivial | assumption | exact xob_b rfl | exact xal_b rfl | (apply And.intro) | decide)) ?_
                                               try dsimp only [xsto1, xsto2, xkill, xget, xset, gd_0, gd_s]
                                               refine r2_z rfl rfl (by first | decide | assumption) ?_
                                               first
                                                 | (rw [stS_p hc112 hRR, rd1_f rfl]
                                                    exact ⟨rfl, hq3, rdF_t (rdF_i (Or.inl rfl)) hF3, fun z => by cases z⟩)
                                                 | (rw [stS_p hc112 hRR, rd1_cf (by decide) (by decide) hc59]
                                                    exact ⟨rfl, hq3, rdF_t (rdF_i (Or.inl rfl)) hF3, fun z => by cases z⟩)
                                                 | (rw [stS_p hc112 hRR, rd1_ct (it := 59) (by decide) (by decide) hc59]
                                                    refine ⟨rfl, gI_self _ _ _ _, rdF_t (rdF_i (Or.inl rfl)) (rdF_t hF3 (rdF_i (Or.inl rfl))), fun _ => ⟨?_, ?_, ?_⟩⟩
                                                    · exact fun _ i hi => (gI_ne (Or.inl (by decide))).trans (htd3 rfl i hi)
                                                    · exact fun z => absurd (hc112.symm.trans z) (by decide)
                                                    · exact fun z => absurd (hc112.symm.trans z) (by decide))
                                                 | (rw [stS_r hc114 hRR, rd1_f rfl]
                                                    exact ⟨rfl, hq3, rdF_t (rdF_i (Or.inl rfl)) hF3, fun z => by cases z⟩)
                                                 | (rw [stS_r hc114 hRR, rd1_cf (by decide) (by decide) hc59]
                                                    exact ⟨rfl, hq3, rdF_t (rdF_i (Or.inl rfl)) hF3, fun z => by cases z⟩)
                                                 | (rw [stS_r hc114 hRR, rd1_ct (it := 59) (by decide) (by decide) hc59]
                                                    refine ⟨rfl, gI_self _ _ _ _, rdF_t (rdF_i (Or.inl rfl)) (rdF_t hF3 (rdF_i (Or.inl rfl))), fun _ => ⟨?_, ?_, ?_⟩⟩
                                                    · exact fun z => absurd (hc114.symm.trans z) (by decide)
                                                    · exact fun _ i hi => (gI_ne (Or.inl (by decide))).trans (htd3 rfl i hi)
                                                    · exact fun z => absurd (hc114.symm.trans z) (by decide))
                                                 | (rw [stS_f hc102 hRR, rd1_f rfl]
                                                    exact ⟨rfl, hq3, rdF_t (rdF_i (Or.inl rfl)) hF3, fun z => by cases z⟩)
                                                 | (rw [stS_f hc102 hRR, rd1_cf (by decide) (by decide) hc59]
                                                    exact ⟨rfl, hq3, rdF_t (rdF_i (Or.inl rfl)) hF3, fun z => by cases z⟩)
                                                 | (rw [stS_f hc102 hRR, rd1_ct (it := 59) (by decide) (by decide) hc59]
                                                    refine ⟨rfl, gI_self _ _ _ _, rdF_t (rdF_i (Or.inl rfl)) (rdF_t hF3 (rdF_i (Or.inl rfl))), fun _ => ⟨?_, ?_, ?_⟩⟩
                                                    · exact fun z => absurd (hc102.symm.trans z) (by decide)
                                                    · exact fun z => absurd (hc102.symm.trans z) (by decide)
                                                    · exact fun _ => (gI_ne (Or.inl (by decide))).trans (htd3 rfl 0 (by omega)))
                                                 | (rw [stS_n hc112 hc114 hc102]; exact ⟨rfl, hp, rdF_r, fun z => by cases z⟩)))))
             · first
                 | (exfalso; first | exact absurd h39 (by decide) | exact h39 (by decide) | (simp at h39; done))
                 | (refine xG_run 3 rfl (by repeat' (first | exact trivial | assumption | exact xob_b rfl | exact xal_b rfl | (apply And.intro) | decide)) ?_
                    try dsimp only [xsto1, xsto2, xkill, xget, xset, gd_0, gd_s]
                    refine xG_c2 2 rfl (by repeat' (first | exact trivial | assumption | exact xob_b rfl | exact xal_b rfl | (apply And.intro) | decide)) rfl rfl (by decide) cw_X12_readsNumbers (d' := d - 1) (e_readsNumbersS (m := 5) (p := p + 1) (sv := 0) hTa (gI_self _ _ _ _) (by omega) (by omega) (by omega)) (by omega) ?_
                    rintro v M3 ⟨rfl, hq3, hF3, htd3⟩
                    rcases hRR : rdS T n (itK true 5) (true, p + 1, [], 0) with ⟨ok, q, l, sx⟩
                    try rw [hRR] at hq3 htd3
                    dsimp only at hq3 htd3
                    cases ok
                    · dsimp only [Option.toList, List.cons_append, List.nil_append]
                      refine xG_br rfl (fun h48 => ?_) (fun h48 => ?_)
                      · first
                          | (exfalso; first | exact absurd h48 (by decide) | exact h48 (by decide) | (simp at h48; done))
                          | (refine xG_run 1 rfl (by repeat' (first | exact trivial | assumption | exact xob_b rfl | exact xal_b rfl | (apply And.intro) | decide)) ?_
                             try dsimp only [xsto1, xsto2, xkill, xget, xset, gd_0, gd_s]
                             refine r2_z rfl rfl (by first | decide | assumption) ?_
                             first
                               | (rw [stS_p hc112 hRR, rd1_f rfl]
                                  exact ⟨rfl, hq3, rdF_t (rdF_i (Or.inl rfl)) hF3, fun z => by cases z⟩)
                               | (rw [stS_p hc112 hRR, rd1_cf (by decide) (by decide) hc59]
                                  exact ⟨rfl, hq3, rdF_t (rdF_i (Or.inl rfl)) hF3, fun z => by cases z⟩)
                               | (rw [stS_p hc112 hRR, rd1_ct (it := 59) (by decide) (by decide) hc59]
                                  refine ⟨rfl, gI_self _ _ _ _, rdF_t (rdF_i (Or.inl rfl)) (rdF_t hF3 (rdF_i (Or.inl rfl))), fun _ => ⟨?_, ?_, ?_⟩⟩
                                  · exact fun _ i hi => (gI_ne (Or.inl (by decide))).trans (htd3 rfl i hi)
                                  · exact fun z => absurd (hc112.symm.trans z) (by decide)
                                  · exact fun z => absurd (hc112.symm.trans z) (by decide))
                               | (rw [stS_r hc114 hRR, rd1_f rfl]
                                  exact ⟨rfl, hq3, rdF_t (rdF_i (Or.inl rfl)) hF3, fun z => by cases z⟩)
                               | (rw [stS_r hc114 hRR, rd1_cf (by decide) (by decide) hc59]
                                  exact ⟨rfl, hq3, rdF_t (rdF_i (Or.inl rfl)) hF3, fun z => by cases z⟩)
                               | (rw [stS_r hc114 hRR, rd1_ct (it := 59) (by decide) (by decide) hc59]
                                  refine ⟨rfl, gI_self _ _ _ _, rdF_t (rdF_i (Or.inl rfl)) (rdF_t hF3 (rdF_i (Or.inl rfl))), fun _ => ⟨?_, ?_, ?_⟩⟩
                                  · exact fun z => absurd (hc114.symm.trans z) (by decide)
                                  · exact fun _ i hi => (gI_ne (Or.inl (by decide))).trans (htd3 rfl i hi)
                                  · exact fun z => absurd (hc114.symm.trans z) (by decide))
                               | (rw [stS_f hc102 hRR, rd1_f rfl]
                                  exact ⟨rfl, hq3, rdF_t (rdF_i (Or.inl rfl)) hF3, fun z => by cases z⟩)
                               | (rw [stS_f hc102 hRR, rd1_cf (by decide) (by decide) hc59]
                                  exact ⟨rfl, hq3, rdF_t (rdF_i (Or.inl rfl)) hF3, fun z => by cases z⟩)
                               | (rw [stS_f hc102 hRR, rd1_ct (it := 59) (by decide) (by decide) hc59]
                                  refine ⟨rfl, gI_self _ _ _ _, rdF_t (rdF_i (Or.inl rfl)) (rdF_t hF3 (rdF_i (Or.inl rfl))), fun _ => ⟨?_, ?_, ?_⟩⟩
                                  · exact fun z => absurd (hc102.symm.trans z) (by decide)
                                  · exact fun z => absurd (hc102.symm.trans z) (by decide)
                                  · exact fun _ => (gI_ne (Or.inl (by decide))).trans (htd3 rfl 0 (by omega)))
                               | (rw [stS_n hc112 hc114 hc102]; exact ⟨rfl, hp, rdF_r, fun z => by cases z⟩))
                      · first
                          | (exfalso; first | exact absurd h48 (by decide) | exact h48 (by decide) | (simp at h48; done))
                          | (refine xG_run 2 rfl (by repeat' (first | exact trivial | assumption | exact xob_b rfl | exact xal_b rfl | (apply And.intro) | decide)) ?_
                             try dsimp only [xsto1, xsto2, xkill, xget, xset, gd_0, gd_s]
                             refine xG_c2 1 rfl (by repeat' (first | exact trivial | assumption | exact xob_b rfl | exact xal_b rfl | (apply And.intro) | decide)) rfl rfl (by decide) cw_X12_takes (d' := d - 1) (e_takes (p := q) (c := 59) hT3 hq3 (by omega) (by omega)) (by omega) ?_
                             rintro v M4 (⟨hc59, rfl, rfl⟩ | ⟨hc59, rfl, rfl⟩)
                             · dsimp only [Option.toList, List.cons_append, List.nil_append]
                               refine xG_br rfl (fun h57 => ?_) (fun h57 => ?_)
                               · first
                                   | (exfalso; first | exact absurd h57 (by decide) | exact h57 (by decide) | (simp at h57; done))
                                   | (refine xG_run 1 rfl (by repeat' (first | exact trivial | assumption | exact xob_b rfl | exact xal_b rfl | (apply And.intro) | decide)) ?_
                                      try dsimp only [xsto1, xsto2, xkill, xget, xset, gd_0, gd_s]
                                      refine r2_z rfl rfl (by first | decide | assumption) ?_
                                      first
                                        | (rw [stS_p hc112 hRR, rd1_f rfl]
                                           exact ⟨rfl, hq3, rdF_t (rdF_i (Or.inl rfl)) hF3, fun z => by cases z⟩)
                                        | (rw [stS_p hc112 hRR, rd1_cf (by decide) (by decide) hc59]
                                           exact ⟨rfl, hq3, rdF_t (rdF_i (Or.inl rfl)) hF3, fun z => by cases z⟩)
                                        | (rw [stS_p hc112 hRR, rd1_ct (it := 59) (by decide) (by decide) hc59]
                                           refine ⟨rfl, gI_self _ _ _ _, rdF_t (rdF_i (Or.inl rfl)) (rdF_t hF3 (rdF_i (Or.inl rfl))), fun _ => ⟨?_, ?_, ?_⟩⟩
                                           · exact fun _ i hi => (gI_ne (Or.inl (by decide))).trans (htd3 rfl i hi)
                                           · exact fun z => absurd (hc112.symm.trans z) (by decide)
                                           · exact fun z => absurd (hc112.symm.trans z) (by decide))
                                        | (rw [stS_r hc114 hRR, rd1_f rfl]
                                           exact ⟨rfl, hq3, rdF_t (rdF_i (Or.inl rfl)) hF3, fun z => by cases z⟩)
                                        | (rw [stS_r hc114 hRR, rd1_cf (by decide) (by decide) hc59]
                                           exact ⟨rfl, hq3, rdF_t (rdF_i (Or.inl rfl)) hF3, fun z => by cases z⟩)
                                        | (rw [stS_r hc114 hRR, rd1_ct (it := 59) (by decide) (by decide) hc59]
                                           refine ⟨rfl, gI_self _ _ _ _, rdF_t (rdF_i (Or.inl rfl)) (rdF_t hF3 (rdF_i (Or.inl rfl))), fun _ => ⟨?_, ?_, ?_⟩⟩
                                           · exact fun z => absurd (hc114.symm.trans z) (by decide)
                                           · exact fun _ i hi => (gI_ne (Or.inl (by decide))).trans (htd3 rfl i hi)
                                           · exact fun z => absurd (hc114.symm.trans z) (by decide))
                                        | (rw [stS_f hc102 hRR, rd1_f rfl]
                                           exact ⟨rfl, hq3, rdF_t (rdF_i (Or.inl rfl)) hF3, fun z => by cases z⟩)
                                        | (rw [stS_f hc102 hRR, rd1_cf (by decide) (by decide) hc59]
                                           exact ⟨rfl, hq3, rdF_t (rdF_i (Or.inl rfl)) hF3, fun z => by cases z⟩)
                                        | (rw [stS_f hc102 hRR, rd1_ct (it := 59) (by decide) (by decide) hc59]
                                           refine ⟨rfl, gI_self _ _ _ _, rdF_t (rdF_i (Or.inl rfl)) (rdF_t hF3 (rdF_i (Or.inl rfl))), fun _ => ⟨?_, ?_, ?_⟩⟩
                                           · exact fun z => absurd (hc102.symm.trans z) (by decide)
                                           · exact fun z => absurd (hc102.symm.trans z) (by decide)
                                           · exact fun _ => (gI_ne (Or.inl (by decide))).trans (htd3 rfl 0 (by omega)))
                                        | (rw [stS_n hc112 hc114 hc102]; exact ⟨rfl, hp, rdF_r, fun z => by cases z⟩))
                               · first
                                   | (exfalso; first | exact absurd h57 (by decide) | exact h57 (by decide) | (simp at h57; done))
                                   | (refine xG_run 2 rfl (by repeat' (first | exact trivial | assumption | exact xob_b rfl | exact xal_b rfl | (apply And.intro) | decide)) ?_
                                      try dsimp only [xsto1, xsto2, xkill, xget, xset, gd_0, gd_s]
                                      refine r2_z rfl rfl (by first | decide | assumption) ?_
                                      first
                                        | (rw [stS_p hc112 hRR, rd1_f rfl]
                                           exact ⟨rfl, hq3, rdF_t (rdF_i (Or.inl rfl)) hF3, fun z => by cases z⟩)
                                        | (rw [stS_p hc112 hRR, rd1_cf (by decide) (by decide) hc59]
                                           exact ⟨rfl, hq3, rdF_t (rdF_i (Or.inl rfl)) hF3, fun z => by cases z⟩)
                                        | (rw [stS_p hc112 hRR, rd1_ct (it := 59) (by decide) (by decide) hc59]
                                           refine ⟨rfl, gI_self _ _ _ _, rdF_t (rdF_i (Or.inl rfl)) (rdF_t hF3 (rdF_i (Or.inl rfl))), fun _ => ⟨?_, ?_, ?_⟩⟩
                                           · exact fun _ i hi => (gI_ne (Or.inl (by decide))).trans (htd3 rfl i hi)
                                           · exact fun z => absurd (hc112.symm.trans z) (by decide)
                                           · exact fun z => absurd (hc112.symm.trans z) (by decide))
                                        | (rw [stS_r hc114 hRR, rd1_f rfl]
                                           exact ⟨rfl, hq3, rdF_t (rdF_i (Or.inl rfl)) hF3, fun z => by cases z⟩)
                                        | (rw [stS_r hc114 hRR, rd1_cf (by decide) (by decide) hc59]
                                           exact ⟨rfl, hq3, rdF_t (rdF_i (Or.inl rfl)) hF3, fun z => by cases z⟩)
                                        | (rw [stS_r hc114 hRR, rd1_ct (it := 59) (by decide) (by decide) hc59]
                                           refine ⟨rfl, gI_self _ _ _ _, rdF_t (rdF_i (Or.inl rfl)) (rdF_t hF3 (rdF_i (Or.inl rfl))), fun _ => ⟨?_, ?_, ?_⟩⟩
                                           · exact fun z => absurd (hc114.symm.trans z) (by decide)
                                           · exact fun _ i hi => (gI_ne (Or.inl (by decide))).trans (htd3 rfl i hi)
                                           · exact fun z => absurd (hc114.symm.trans z) (by decide))
                                        | (rw [stS_f hc102 hRR, rd1_f rfl]
                                           exact ⟨rfl, hq3, rdF_t (rdF_i (Or.inl rfl)) hF3, fun z => by cases z⟩)
                                        | (rw [stS_f hc102 hRR, rd1_cf (by decide) (by decide) hc59]
                                           exact ⟨rfl, hq3, rdF_t (rdF_i (Or.inl rfl)) hF3, fun z => by cases z⟩)
                                        | (rw [stS_f hc102 hRR, rd1_ct (it := 59) (by decide) (by decide) hc59]
                                           refine ⟨rfl, gI_self _ _ _ _, rdF_t (rdF_i (Or.inl rfl)) (rdF_t hF3 (rdF_i (Or.inl rfl))), fun _ => ⟨?_, ?_, ?_⟩⟩
                                           · exact fun z => absurd (hc102.symm.trans z) (by decide)
                                           · exact fun z => absurd (hc102.symm.trans z) (by decide)
                                           · exact fun _ => (gI_ne (Or.inl (by decide))).trans (htd3 rfl 0 (by omega)))
                                        | (rw [stS_n hc112 hc114 hc102]; exact ⟨rfl, hp, rdF_r, fun z => by cases z⟩))
                             · dsimp only [Option.toList, List.cons_append, List.nil_append]
                               refine xG_br rfl (fun h57 => ?_) (fun h57 => ?_)
                               · first
                                   | (exfalso; first | exact absurd h57 (by decide) | exact h57 (by decide) | (simp at h57; done))
                                   | (refine xG_run 1 rfl (by repeat' (first | exact trivial | assumption | exact xob_b rfl | exact xal_b rfl | (apply And.intro) | decide)) ?_
                                      try dsimp only [xsto1, xsto2, xkill, xget, xset, gd_0, gd_s]
                                      refine r2_z rfl rfl (by first | decide | assumption) ?_
                                      first
                                        | (rw [stS_p hc112 hRR, rd1_f rfl]
                                           exact ⟨rfl, hq3, rdF_t (rdF_i (Or.inl rfl)) hF3, fun z => by cases z⟩)
                                        | (rw [stS_p hc112 hRR, rd1_cf (by decide) (by decide) hc59]
                                           exact ⟨rfl, hq3, rdF_t (rdF_i (Or.inl rfl)) hF3, fun z => by cases z⟩)
                                        | (rw [stS_p hc112 hRR, rd1_ct (it := 59) (by decide) (by decide) hc59]
                                           refine ⟨rfl, gI_self _ _ _ _, rdF_t (rdF_i (Or.inl rfl)) (rdF_t hF3 (rdF_i (Or.inl rfl))), fun _ => ⟨?_, ?_, ?_⟩⟩
                                           · exact fun _ i hi => (gI_ne (Or.inl (by decide))).trans (htd3 rfl i hi)
                                           · exact fun z => absurd (hc112.symm.trans z) (by decide)
                                           · exact fun z => absurd (hc112.symm.trans z) (by decide))
                                        | (rw [stS_r hc114 hRR, rd1_f rfl]
                                           exact ⟨rfl, hq3, rdF_t (rdF_i (Or.inl rfl)) hF3, fun z => by cases z⟩)
                                        | (rw [stS_r hc114 hRR, rd1_cf (by decide) (by decide) hc59]
                                           exact ⟨rfl, hq3, rdF_t (rdF_i (Or.inl rfl)) hF3, fun z => by cases z⟩)
                                        | (rw [stS_r hc114 hRR, rd1_ct (it := 59) (by decide) (by decide) hc59]
                                           refine ⟨rfl, gI_self _ _ _ _, rdF_t (rdF_i (Or.inl rfl)) (rdF_t hF3 (rdF_i (Or.inl rfl))), fun _ => ⟨?_, ?_, ?_⟩⟩
                                           · exact fun z => absurd (hc114.symm.trans z) (by decide)
                                           · exact fun _ i hi => (gI_ne (Or.inl (by decide))).trans (htd3 rfl i hi)
                                           · exact fun z => absurd (hc114.symm.trans z) (by decide))
                                        | (rw [stS_f hc102 hRR, rd1_f rfl]
                                           exact ⟨rfl, hq3, rdF_t (rdF_i (Or.inl rfl)) hF3, fun z => by cases z⟩)
                                        | (rw [stS_f hc102 hRR, rd1_cf (by decide) (by decide) hc59]
                                           exact ⟨rfl, hq3, rdF_t (rdF_i (Or.inl rfl)) hF3, fun z => by cases z⟩)
                                        | (rw [stS_f hc102 hRR, rd1_ct (it := 59) (by decide) (by decide) hc59]
                                           refine ⟨rfl, gI_self _ _ _ _, rdF_t (rdF_i (Or.inl rfl)) (rdF_t hF3 (rdF_i (Or.inl rfl))), fun _ => ⟨?_, ?_, ?_⟩⟩
                                           · exact fun z => absurd (hc102.symm.trans z) (by decide)
                                           · exact fun z => absurd (hc102.symm.trans z) (by decide)
                                           · exact fun _ => (gI_ne (Or.inl (by decide))).trans (htd3 rfl 0 (by omega)))
                                        | (rw [stS_n hc112 hc114 hc102]; exact ⟨rfl, hp, rdF_r, fun z => by cases z⟩))
                               · first
                                   | (exfalso; first | exact absurd h57 (by decide) | exact h57 (by decide) | (simp at h57; done))
                                   | (refine xG_run 2 rfl (by repeat' (first | exact trivial | assumption | exact xob_b rfl | exact xal_b rfl | (apply And.intro) | decide)) ?_
                                      try dsimp only [xsto1, xsto2, xkill, xget, xset, gd_0, gd_s]
                                      refine r2_z rfl rfl (by first | decide | assumption) ?_
                                      first
                                        | (rw [stS_p hc112 hRR, rd1_f rfl]
                                           exact ⟨rfl, hq3, rdF_t (rdF_i (Or.inl rfl)) hF3, fun z => by cases z⟩)
                                        | (rw [stS_p hc112 hRR, rd1_cf (by decide) (by decide) hc59]
                                           exact ⟨rfl, hq3, rdF_t (rdF_i (Or.inl rfl)) hF3, fun z => by cases z⟩)
                                        | (rw [stS_p hc112 hRR, rd1_ct (it := 59) (by decide) (by decide) hc59]
                                           refine ⟨rfl, gI_self _ _ _ _, rdF_t (rdF_i (Or.inl rfl)) (rdF_t hF3 (rdF_i (Or.inl rfl))), fun _ => ⟨?_, ?_, ?_⟩⟩
                                           · exact fun _ i hi => (gI_ne (Or.inl (by decide))).trans (htd3 rfl i hi)
                                           · exact fun z => absurd (hc112.symm.trans z) (by decide)
                                           · exact fun z => absurd (hc112.symm.trans z) (by decide))
                                        | (rw [stS_r hc114 hRR, rd1_f rfl]
                                           exact ⟨rfl, hq3, rdF_t (rdF_i (Or.inl rfl)) hF3, fun z => by cases z⟩)
                                        | (rw [stS_r hc114 hRR, rd1_cf (by decide) (by decide) hc59]
                                           exact ⟨rfl, hq3, rdF_t (rdF_i (Or.inl rfl)) hF3, fun z => by cases z⟩)
                                        | (rw [stS_r hc114 hRR, rd1_ct (it := 59) (by decide) (by decide) hc59]
                                           refine ⟨rfl, gI_self _ _ _ _, rdF_t (rdF_i (Or.inl rfl)) (rdF_t hF3 (rdF_i (Or.inl rfl))), fun _ => ⟨?_, ?_, ?_⟩⟩
                                           · exact fun z => absurd (hc114.symm.trans z) (by decide)
                                           · exact fun _ i hi => (gI_ne (Or.inl (by decide))).trans (htd3 rfl i hi)
                                           · exact fun z => absurd (hc114.symm.trans z) (by decide))
                                        | (rw [stS_f hc102 hRR, rd1_f rfl]
                                           exact ⟨rfl, hq3, rdF_t (rdF_i (Or.inl rfl)) hF3, fun z => by cases z⟩)
                                        | (rw [stS_f hc102 hRR, rd1_cf (by decide) (by decide) hc59]
                                           exact ⟨rfl, hq3, rdF_t (rdF_i (Or.inl rfl)) hF3, fun z => by cases z⟩)
                                        | (rw [stS_f hc102 hRR, rd1_ct (it := 59) (by decide) (by decide) hc59]
                                           refine ⟨rfl, gI_self _ _ _ _, rdF_t (rdF_i (Or.inl rfl)) (rdF_t hF3 (rdF_i (Or.inl rfl))), fun _ => ⟨?_, ?_, ?_⟩⟩
                                           · exact fun z => absurd (hc102.symm.trans z) (by decide)
                                           · exact fun z => absurd (hc102.symm.trans z) (by decide)
                                           · exact fun _ => (gI_ne (Or.inl (by decide))).trans (htd3 rfl 0 (by omega)))
                                        | (rw [stS_n hc112 hc114 hc102]; exact ⟨rfl, hp, rdF_r, fun z => by cases z⟩)))
                    · dsimp only [Option.toList, List.cons_append, List.nil_append]
                      have hT3 := rT_F hTa hF3
                      have hq9 : q ≤ n := by
                        have e := rdS_le (T := T) (n := n) (l := itK true 5) (s := (true, p + 1, [], 0)) (by show p + 1 ≤ n; omega) (itK_le 5)
                        rw [hRR] at e
                        exact e
                      refine xG_br rfl (fun h48 => ?_) (fun h48 => ?_)
                      · first
                          | (exfalso; first | exact absurd h48 (by decide) | exact h48 (by decide) | (simp at h48; done))
                          | (refine xG_run 1 rfl (by repeat' (first | exact trivial | assumption | exact xob_b rfl | exact xal_b rfl | (apply And.intro) | decide)) ?_
                             try dsimp only [xsto1, xsto2, xkill, xget, xset, gd_0, gd_s]
                             refine r2_z rfl rfl (by first | decide | assumption) ?_
                             first
                               | (rw [stS_p hc112 hRR, rd1_f rfl]
                                  exact ⟨rfl, hq3, rdF_t (rdF_i (Or.inl rfl)) hF3, fun z => by cases z⟩)
                               | (rw [stS_p hc112 hRR, rd1_cf (by decide) (by decide) hc59]
                                  exact ⟨rfl, hq3, rdF_t (rdF_i (Or.inl rfl)) hF3, fun z => by cases z⟩)
                               | (rw [stS_p hc112 hRR, rd1_ct (it := 59) (by decide) (by decide) hc59]
                                  refine ⟨rfl, gI_self _ _ _ _, rdF_t (rdF_i (Or.inl rfl)) (rdF_t hF3 (rdF_i (Or.inl rfl))), fun _ => ⟨?_, ?_, ?_⟩⟩
                                  · exact fun _ i hi => (gI_ne (Or.inl (by decide))).trans (htd3 rfl i hi)
                                  · exact fun z => absurd (hc112.symm.trans z) (by decide)
                                  · exact fun z => absurd (hc112.symm.trans z) (by decide))
                               | (rw [stS_r hc114 hRR, rd1_f rfl]
                                  exact ⟨rfl, hq3, rdF_t (rdF_i (Or.inl rfl)) hF3, fun z => by cases z⟩)
                               | (rw [stS_r hc114 hRR, rd1_cf (by decide) (by decide) hc59]
                                  exact ⟨rfl, hq3, rdF_t (rdF_i (Or.inl rfl)) hF3, fun z => by cases z⟩)
                               | (rw [stS_r hc114 hRR, rd1_ct (it := 59) (by decide) (by decide) hc59]
                                  refine ⟨rfl, gI_self _ _ _ _, rdF_t (rdF_i (Or.inl rfl)) (rdF_t hF3 (rdF_i (Or.inl rfl))), fun _ => ⟨?_, ?_, ?_⟩⟩
                                  · exact fun z => absurd (hc114.symm.trans z) (by decide)
                                  · exact fun _ i hi => (gI_ne (Or.inl (by decide))).trans (htd3 rfl i hi)
                                  · exact fun z => absurd (hc114.symm.trans z) (by decide))
                               | (rw [stS_f hc102 hRR, rd1_f rfl]
                                  exact ⟨rfl, hq3, rdF_t (rdF_i (Or.inl rfl)) hF3, fun z => by cases z⟩)
                               | (rw [stS_f hc102 hRR, rd1_cf (by decide) (by decide) hc59]
                                  exact ⟨rfl, hq3, rdF_t (rdF_i (Or.inl rfl)) hF3, fun z => by cases z⟩)
                               | (rw [stS_f hc102 hRR, rd1_ct (it := 59) (by decide) (by decide) hc59]
                                  refine ⟨rfl, gI_self _ _ _ _, rdF_t (rdF_i (Or.inl rfl)) (rdF_t hF3 (rdF_i (Or.inl rfl))), fun _ => ⟨?_, ?_, ?_⟩⟩
                                  · exact fun z => absurd (hc102.symm.trans z) (by decide)
                                  · exact fun z => absurd (hc102.symm.trans z) (by decide)
                                  · exact fun _ => (gI_ne (Or.inl (by decide))).trans (htd3 rfl 0 (by omega)))
                               | (rw [stS_n hc112 hc114 hc102]; exact ⟨rfl, hp, rdF_r, fun z => by cases z⟩))
                      · first
                          | (exfalso; first | exact absurd h48 (by decide) | exact h48 (by decide) | (simp at h48; done))
                          | (refine xG_run 2 rfl (by repeat' (first | exact trivial | assumption | exact xob_b rfl | exact xal_b rfl | (apply And.intro) | decide)) ?_
                             try dsimp only [xsto1, xsto2, xkill, xget, xset, gd_0, gd_s]
                             refine xG_c2 1 rfl (by repeat' (first | exact trivial | assumption | exact xob_b rfl | exact xal_b rfl | (apply And.intro) | decide)) rfl rfl (by decide) cw_X12_takes (d' := d - 1) (e_takes (p := q) (c := 59) hT3 hq3 (by omega) (by omega)) (by omega) ?_
                             rintro v M4 (⟨hc59, rfl, rfl⟩ | ⟨hc59, rfl, rfl⟩)
                             · dsimp only [Option.toList, List.cons_append, List.nil_append]
                               refine xG_br rfl (fun h57 => ?_) (fun h57 => ?_)
                               · first
                                   | (exfalso; first | exact absurd h57 (by decide) | exact h57 (by decide) | (simp at h57; done))
                                   | (refine xG_run 1 rfl (by repeat' (first | exact trivial | assumption | exact xob_b rfl | exact xal_b rfl | (apply And.intro) | decide)) ?_
                                      try dsimp only [xsto1, xsto2, xkill, xget, xset, gd_0, gd_s]
                                      refine r2_z rfl rfl (by first | decide | assumption) ?_
                                      first
                                        | (rw [stS_p hc112 hRR, rd1_f rfl]
                                           exact ⟨rfl, hq3, rdF_t (rdF_i (Or.inl rfl)) hF3, fun z => by cases z⟩)
                                        | (rw [stS_p hc112 hRR, rd1_cf (by decide) (by decide) hc59]
                                           exact ⟨rfl, hq3, rdF_t (rdF_i (Or.inl rfl)) hF3, fun z => by cases z⟩)
                                        | (rw [stS_p hc112 hRR, rd1_ct (it := 59) (by decide) (by decide) hc59]
                                           refine ⟨rfl, gI_self _ _ _ _, rdF_t (rdF_i (Or.inl rfl)) (rdF_t hF3 (rdF_i (Or.inl rfl))), fun _ => ⟨?_, ?_, ?_⟩⟩
                                           · exact fun _ i hi => (gI_ne (Or.inl (by decide))).trans (htd3 rfl i hi)
                                           · exact fun z => absurd (hc112.symm.trans z) (by decide)
                                           · exact fun z => absurd (hc112.symm.trans z) (by decide))
                                        | (rw [stS_r hc114 hRR, rd1_f rfl]
                                           exact ⟨rfl, hq3, rdF_t (rdF_i (Or.inl rfl)) hF3, fun z => by cases z⟩)
                                        | (rw [stS_r hc114 hRR, rd1_cf (by decide) (by decide) hc59]
                                           exact ⟨rfl, hq3, rdF_t (rdF_i (Or.inl rfl)) hF3, fun z => by cases z⟩)
                                        | (rw [stS_r hc114 hRR, rd1_ct (it := 59) (by decide) (by decide) hc59]
                                           refine ⟨rfl, gI_self _ _ _ _, rdF_t (rdF_i (Or.inl rfl)) (rdF_t hF3 (rdF_i (Or.inl rfl))), fun _ => ⟨?_, ?_, ?_⟩⟩
                                           · exact fun z => absurd (hc114.symm.trans z) (by decide)
                                           · exact fun _ i hi => (gI_ne (Or.inl (by decide))).trans (htd3 rfl i hi)
                                           · exact fun z => absurd (hc114.symm.trans z) (by decide))
                                        | (rw [stS_f hc102 hRR, rd1_f rfl]
                                           exact ⟨rfl, hq3, rdF_t (rdF_i (Or.inl rfl)) hF3, fun z => by cases z⟩)
                                        | (rw [stS_f hc102 hRR, rd1_cf (by decide) (by decide) hc59]
                                           exact ⟨rfl, hq3, rdF_t (rdF_i (Or.inl rfl)) hF3, fun z => by cases z⟩)
                                        | (rw [stS_f hc102 hRR, rd1_ct (it := 59) (by decide) (by decide) hc59]
                                           refine ⟨rfl, gI_self _ _ _ _, rdF_t (rdF_i (Or.inl rfl)) (rdF_t hF3 (rdF_i (Or.inl rfl))), fun _ => ⟨?_, ?_, ?_⟩⟩
                                           · exact fun z => absurd (hc102.symm.trans z) (by decide)
                                           · exact fun z => absurd (hc102.symm.trans z) (by decide)
                                           · exact fun _ => (gI_ne (Or.inl (by decide))).trans (htd3 rfl 0 (by omega)))
                                        | (rw [stS_n hc112 hc114 hc102]; exact ⟨rfl, hp, rdF_r, fun z => by cases z⟩))
                               · first
                                   | (exfalso; first | exact absurd h57 (by decide) | exact h57 (by decide) | (simp at h57; done))
                                   | (refine xG_run 2 rfl (by repeat' (first | exact trivial | assumption | exact xob_b rfl | exact xal_b rfl | (apply And.intro) | decide)) ?_
                                      try dsimp only [xsto1, xsto2, xkill, xget, xset, gd_0, gd_s]
                                      refine r2_z rfl rfl (by first | decide | assumption) ?_
                                      first
                                        | (rw [stS_p hc112 hRR, rd1_f rfl]
                                           exact ⟨rfl, hq3, rdF_t (rdF_i (Or.inl rfl)) hF3, fun z => by cases z⟩)
                                        | (rw [stS_p hc112 hRR, rd1_cf (by decide) (by decide) hc59]
                                           exact ⟨rfl, hq3, rdF_t (rdF_i (Or.inl rfl)) hF3, fun z => by cases z⟩)
                                        | (rw [stS_p hc112 hRR, rd1_ct (it := 59) (by decide) (by decide) hc59]
                                           refine ⟨rfl, gI_self _ _ _ _, rdF_t (rdF_i (Or.inl rfl)) (rdF_t hF3 (rdF_i (Or.inl rfl))), fun _ => ⟨?_, ?_, ?_⟩⟩
                                           · exact fun _ i hi => (gI_ne (Or.inl (by decide))).trans (htd3 rfl i hi)
                                           · exact fun z => absurd (hc112.symm.trans z) (by decide)
                                           · exact fun z => absurd (hc112.symm.trans z) (by decide))
                                        | (rw [stS_r hc114 hRR, rd1_f rfl]
                                           exact ⟨rfl, hq3, rdF_t (rdF_i (Or.inl rfl)) hF3, fun z => by cases z⟩)
                                        | (rw [stS_r hc114 hRR, rd1_cf (by decide) (by decide) hc59]
                                           exact ⟨rfl, hq3, rdF_t (rdF_i (Or.inl rfl)) hF3, fun z => by cases z⟩)
                                        | (rw [stS_r hc114 hRR, rd1_ct (it := 59) (by decide) (by decide) hc59]
                                           refine ⟨rfl, gI_self _ _ _ _, rdF_t (rdF_i (Or.inl rfl)) (rdF_t hF3 (rdF_i (Or.inl rfl))), fun _ => ⟨?_, ?_, ?_⟩⟩
                                           · exact fun z => absurd (hc114.symm.trans z) (by decide)
                                           · exact fun _ i hi => (gI_ne (Or.inl (by decide))).trans (htd3 rfl i hi)
                                           · exact fun z => absurd (hc114.symm.trans z) (by decide))
                                        | (rw [stS_f hc102 hRR, rd1_f rfl]
                                           exact ⟨rfl, hq3, rdF_t (rdF_i (Or.inl rfl)) hF3, fun z => by cases z⟩)
                                        | (rw [stS_f hc102 hRR, rd1_cf (by decide) (by decide) hc59]
                                           exact ⟨rfl, hq3, rdF_t (rdF_i (Or.inl rfl)) hF3, fun z => by cases z⟩)
                                        | (rw [stS_f hc102 hRR, rd1_ct (it := 59) (by decide) (by decide) hc59]
                                           refine ⟨rfl, gI_self _ _ _ _, rdF_t (rdF_i (Or.inl rfl)) (rdF_t hF3 (rdF_i (Or.inl rfl))), fun _ => ⟨?_, ?_, ?_⟩⟩
                                           · exact fun z => absurd (hc102.symm.trans z) (by decide)
                                           · exact fun z => absurd (hc102.symm.trans z) (by decide)
                                           · exact fun _ => (gI_ne (Or.inl (by decide))).trans (htd3 rfl 0 (by omega)))
                                        | (rw [stS_n hc112 hc114 hc102]; exact ⟨rfl, hp, rdF_r, fun z => by cases z⟩))
                             · dsimp only [Option.toList, List.cons_append, List.nil_append]
                               refine xG_br rfl (fun h57 => ?_) (fun h57 => ?_)
                               · first
                                   | (exfalso; first | exact absurd h57 (by decide) | exact h57 (by decide) | (simp at h57; done))
                                   | (refine xG_run 1 rfl (by repeat' (first | exact trivial | assumption | exact xob_b rfl | exact xal_b rfl | (apply And.intro) | decide)) ?_
                                      try dsimp only [xsto1, xsto2, xkill, xget, xset, gd_0, gd_s]
                                      refine r2_z rfl rfl (by first | decide | assumption) ?_
                                      first
                                        | (rw [stS_p hc112 hRR, rd1_f rfl]
                                           exact ⟨rfl, hq3, rdF_t (rdF_i (Or.inl rfl)) hF3, fun z => by cases z⟩)
                                        | (rw [stS_p hc112 hRR, rd1_cf (by decide) (by decide) hc59]
                                           exact ⟨rfl, hq3, rdF_t (rdF_i (Or.inl rfl)) hF3, fun z => by cases z⟩)
                                        | (rw [stS_p hc112 hRR, rd1_ct (it := 59) (by decide) (by decide) hc59]
                                           refine ⟨rfl, gI_self _ _ _ _, rdF_t (rdF_i (Or.inl rfl)) (rdF_t hF3 (rdF_i (Or.inl rfl))), fun _ => ⟨?_, ?_, ?_⟩⟩
                                           · exact fun _ i hi => (gI_ne (Or.inl (by decide))).trans (htd3 rfl i hi)
                                           · exact fun z => absurd (hc112.symm.trans z) (by decide)
                                           · exact fun z => absurd (hc112.symm.trans z) (by decide))
                                        | (rw [stS_r hc114 hRR, rd1_f rfl]
                                           exact ⟨rfl, hq3, rdF_t (rdF_i (Or.inl rfl)) hF3, fun z => by cases z⟩)
                                        | (rw [stS_r hc114 hRR, rd1_cf (by decide) (by decide) hc59]
                                           exact ⟨rfl, hq3, rdF_t (rdF_i (Or.inl rfl)) hF3, fun z => by cases z⟩)
                                        | (rw [stS_r hc114 hRR, rd1_ct (it := 59) (by decide) (by decide) hc59]
                                           refine ⟨rfl, gI_self _ _ _ _, rdF_t (rdF_i (Or.inl rfl)) (rdF_t hF3 (rdF_i (Or.inl rfl))), fun _ => ⟨?_, ?_, ?_⟩⟩
                                           · exact fun z => absurd (hc114.symm.trans z) (by decide)
                                           · exact fun _ i hi => (gI_ne (Or.inl (by decide))).trans (htd3 rfl i hi)
                                           · exact fun z => absurd (hc114.symm.trans z) (by decide))
                                        | (rw [stS_f hc102 hRR, rd1_f rfl]
                                           exact ⟨rfl, hq3, rdF_t (rdF_i (Or.inl rfl)) hF3, fun z => by cases z⟩)
                                        | (rw [stS_f hc102 hRR, rd1_cf (by decide) (by decide) hc59]
                                           exact ⟨rfl, hq3, rdF_t (rdF_i (Or.inl rfl)) hF3, fun z => by cases z⟩)
                                        | (rw [stS_f hc102 hRR, rd1_ct (it := 59) (by decide) (by decide) hc59]
                                           refine ⟨rfl, gI_self _ _ _ _, rdF_t (rdF_i (Or.inl rfl)) (rdF_t hF3 (rdF_i (Or.inl rfl))), fun _ => ⟨?_, ?_, ?_⟩⟩
                                           · exact fun z => absurd (hc102.symm.trans z) (by decide)
                                           · exact fun z => absurd (hc102.symm.trans z) (by decide)
                                           · exact fun _ => (gI_ne (Or.inl (by decide))).trans (htd3 rfl 0 (by omega)))
                                        | (rw [stS_n hc112 hc114 hc102]; exact ⟨rfl, hp, rdF_r, fun z => by cases z⟩))
                               · first
                                   | (exfalso; first | exact absurd h57 (by decide) | exact h57 (by decide) | (simp at h57; done))
                                   | (refine xG_run 2 rfl (by repeat' (first | exact trivial | assumption | exact xob_b rfl | exact xal_b rfl | (apply And.intro) | decide)) ?_
                                      try dsimp only [xsto1, xsto2, xkill, xget, xset, gd_0, gd_s]
                                      refine r2_z rfl rfl (by first | decide | assumption) ?_
                                      first
                                        | (rw [stS_p hc112 hRR, rd1_f rfl]
                                           exact ⟨rfl, hq3, rdF_t (rdF_i (Or.inl rfl)) hF3, fun z => by cases z⟩)
                                        | (rw [stS_p hc112 hRR, rd1_cf (by decide) (by decide) hc59]
                                           exact ⟨rfl, hq3, rdF_t (rdF_i (Or.inl rfl)) hF3, fun z => by cases z⟩)
                                        | (rw [stS_p hc112 hRR, rd1_ct (it := 59) (by decide) (by decide) hc59]
                                           refine ⟨rfl, gI_self _ _ _ _, rdF_t (rdF_i (Or.inl rfl)) (rdF_t hF3 (rdF_i (Or.inl rfl))), fun _ => ⟨?_, ?_, ?_⟩⟩
                                           · exact fun _ i hi => (gI_ne (Or.inl (by decide))).trans (htd3 rfl i hi)
                                           · exact fun z => absurd (hc112.symm.trans z) (by decide)
                                           · exact fun z => absurd (hc112.symm.trans z) (by decide))
                                        | (rw [stS_r hc114 hRR, rd1_f rfl]
                                           exact ⟨rfl, hq3, rdF_t (rdF_i (Or.inl rfl)) hF3, fun z => by cases z⟩)
                                        | (rw [stS_r hc114 hRR, rd1_cf (by decide) (by decide) hc59]
                                           exact ⟨rfl, hq3, rdF_t (rdF_i (Or.inl rfl)) hF3, fun z => by cases z⟩)
                                        | (rw [stS_r hc114 hRR, rd1_ct (it := 59) (by decide) (by decide) hc59]
                                           refine ⟨rfl, gI_self _ _ _ _, rdF_t (rdF_i (Or.inl rfl)) (rdF_t hF3 (rdF_i (Or.inl rfl))), fun _ => ⟨?_, ?_, ?_⟩⟩
                                           · exact fun z => absurd (hc114.symm.trans z) (by decide)
                                           · exact fun _ i hi => (gI_ne (Or.inl (by decide))).trans (htd3 rfl i hi)
                                           · exact fun z => absurd (hc114.symm.trans z) (by decide))
                                        | (rw [stS_f hc102 hRR, rd1_f rfl]
                                           exact ⟨rfl, hq3, rdF_t (rdF_i (Or.inl rfl)) hF3, fun z => by cases z⟩)
                                        | (rw [stS_f hc102 hRR, rd1_cf (by decide) (by decide) hc59]
                                           exact ⟨rfl, hq3, rdF_t (rdF_i (Or.inl rfl)) hF3, fun z => by cases z⟩)
                                        | (rw [stS_f hc102 hRR, rd1_ct (it := 59) (by decide) (by decide) hc59]
                                           refine ⟨rfl, gI_self _ _ _ _, rdF_t (rdF_i (Or.inl rfl)) (rdF_t hF3 (rdF_i (Or.inl rfl))), fun _ => ⟨?_, ?_, ?_⟩⟩
                                           · exact fun z => absurd (hc102.symm.trans z) (by decide)
                                           · exact fun z => absurd (hc102.symm.trans z) (by decide)
                                           · exact fun _ => (gI_ne (Or.inl (by decide))).trans (htd3 rfl 0 (by omega)))
                                        | (rw [stS_n hc112 hc114 hc102]; exact ⟨rfl, hp, rdF_r, fun z => by cases z⟩)))))
    · first
        | (exfalso; first | exact absurd h6 (by decide) | exact h6 (by decide) | (simp at h6; done))
        | (refine xG_run 3 rfl (by repeat' (first | exact trivial | assumption | exact xob_b rfl | exact xal_b rfl | (apply And.intro) | decide)) ?_
           try dsimp only [xsto1, xsto2, xkill, xget, xset, gd_0, gd_s]
           refine xG_c2 2 rfl (by repeat' (first | exact trivial | assumption | exact xob_b rfl | exact xal_b rfl | (apply And.intro) | decide)) rfl rfl (by decide) cw_X12_readsNumbers (d' := d - 1) (e_readsNumbersU (m := 5) (p := p + 1) (sv := 0) hTa (gI_self _ _ _ _) (by omega) (by omega) (by omega)) (by omega) ?_
           rintro v M3 ⟨rfl, hq3, hF3, htd3⟩
           rcases hRR : rdS T n (itK false 5) (true, p + 1, [], 0) with ⟨ok, q, l, sx⟩
           try rw [hRR] at hq3 htd3
           dsimp only at hq3 htd3
           cases ok
           · dsimp only [Option.toList, List.cons_append, List.nil_append]
             refine xG_br rfl (fun h15 => ?_) (fun h15 => ?_)
             · first
                 | (exfalso; first | exact absurd h15 (by decide) | exact h15 (by decide) | (simp at h15; done))
                 | (refine xG_run 1 rfl (by repeat' (first | exact trivial | assumption | exact xob_b rfl | exact xal_b rfl | (apply And.intro) | decide)) ?_
                    try dsimp only [xsto1, xsto2, xkill, xget, xset, gd_0, gd_s]
                    refine r2_z rfl rfl (by first | decide | assumption) ?_
                    first
                      | (rw [stS_p hc112 hRR, rd1_f rfl]
                         exact ⟨rfl, hq3, rdF_t (rdF_i (Or.inl rfl)) hF3, fun z => by cases z⟩)
                      | (rw [stS_p hc112 hRR, rd1_cf (by decide) (by decide) hc59]
                         exact ⟨rfl, hq3, rdF_t (rdF_i (Or.inl rfl)) hF3, fun z => by cases z⟩)
                      | (rw [stS_p hc112 hRR, rd1_ct (it := 59) (by decide) (by decide) hc59]
                         refine ⟨rfl, gI_self _ _ _ _, rdF_t (rdF_i (Or.inl rfl)) (rdF_t hF3 (rdF_i (Or.inl rfl))), fun _ => ⟨?_, ?_, ?_⟩⟩
                         · exact fun _ i hi => (gI_ne (Or.inl (by decide))).trans (htd3 rfl i hi)
                         · exact fun z => absurd (hc112.symm.trans z) (by decide)
                         · exact fun z => absurd (hc112.symm.trans z) (by decide))
                      | (rw [stS_r hc114 hRR, rd1_f rfl]
                         exact ⟨rfl, hq3, rdF_t (rdF_i (Or.inl rfl)) hF3, fun z => by cases z⟩)
                      | (rw [stS_r hc114 hRR, rd1_cf (by decide) (by decide) hc59]
                         exact ⟨rfl, hq3, rdF_t (rdF_i (Or.inl rfl)) hF3, fun z => by cases z⟩)
                      | (rw [stS_r hc114 hRR, rd1_ct (it := 59) (by decide) (by decide) hc59]
                         refine ⟨rfl, gI_self _ _ _ _, rdF_t (rdF_i (Or.inl rfl)) (rdF_t hF3 (rdF_i (Or.inl rfl))), fun _ => ⟨?_, ?_, ?_⟩⟩
                         · exact fun z => absurd (hc114.symm.trans z) (by decide)
                         · exact fun _ i hi => (gI_ne (Or.inl (by decide))).trans (htd3 rfl i hi)
                         · exact fun z => absurd (hc114.symm.trans z) (by decide))
                      | (rw [stS_f hc102 hRR, rd1_f rfl]
                         exact ⟨rfl, hq3, rdF_t (rdF_i (Or.inl rfl)) hF3, fun z => by cases z⟩)
                      | (rw [stS_f hc102 hRR, rd1_cf (by decide) (by decide) hc59]
                         exact ⟨rfl, hq3, rdF_t (rdF_i (Or.inl rfl)) hF3, fun z => by cases z⟩)
                      | (rw [stS_f hc102 hRR, rd1_ct (it := 59) (by decide) (by decide) hc59]
                         refine ⟨rfl, gI_self _ _ _ _, rdF_t (rdF_i (Or.inl rfl)) (rdF_t hF3 (rdF_i (Or.inl rfl))), fun _ => ⟨?_, ?_, ?_⟩⟩
                         · exact fun z => absurd (hc102.symm.trans z) (by decide)
                         · exact fun z => absurd (hc102.symm.trans z) (by decide)
                         · exact fun _ => (gI_ne (Or.inl (by decide))).trans (htd3 rfl 0 (by omega)))
                      | (rw [stS_n hc112 hc114 hc102]; exact ⟨rfl, hp, rdF_r, fun z => by cases z⟩))
             · first
                 | (exfalso; first | exact absurd h15 (by decide) | exact h15 (by decide) | (simp at h15; done))
                 | (refine xG_run 2 rfl (by repeat' (first | exact trivial | assumption | exact xob_b rfl | exact xal_b rfl | (apply And.intro) | decide)) ?_
                    try dsimp only [xsto1, xsto2, xkill, xget, xset, gd_0, gd_s]
                    refine xG_c2 1 rfl (by repeat' (first | exact trivial | assumption | exact xob_b rfl | exact xal_b rfl | (apply And.intro) | decide)) rfl rfl (by decide) cw_X12_takes (d' := d - 1) (e_takes (p := q) (c := 59) hT3 hq3 (by omega) (by omega)) (by omega) ?_
                    rintro v M4 (⟨hc59, rfl, rfl⟩ | ⟨hc59, rfl, rfl⟩)
                    · dsimp only [Option.toList, List.cons_append, List.nil_append]
                      refine xG_br rfl (fun h24 => ?_) (fun h24 => ?_)
                      · first
                          | (exfalso; first | exact absurd h24 (by decide) | exact h24 (by decide) | (simp at h24; done))
                          | (refine xG_run 1 rfl (by repeat' (first | exact trivial | assumption | exact xob_b rfl | exact xal_b rfl | (apply And.intro) | decide)) ?_
                             try dsimp only [xsto1, xsto2, xkill, xget, xset, gd_0, gd_s]
                             refine r2_z rfl rfl (by first | decide | assumption) ?_
                             first
                               | (rw [stS_p hc112 hRR, rd1_f rfl]
                                  exact ⟨rfl, hq3, rdF_t (rdF_i (Or.inl rfl)) hF3, fun z => by cases z⟩)
                               | (rw [stS_p hc112 hRR, rd1_cf (by decide) (by decide) hc59]
                                  exact ⟨rfl, hq3, rdF_t (rdF_i (Or.inl rfl)) hF3, fun z => by cases z⟩)
                               | (rw [stS_p hc112 hRR, rd1_ct (it := 59) (by decide) (by decide) hc59]
                                  refine ⟨rfl, gI_self _ _ _ _, rdF_t (rdF_i (Or.inl rfl)) (rdF_t hF3 (rdF_i (Or.inl rfl))), fun _ => ⟨?_, ?_, ?_⟩⟩
                                  · exact fun _ i hi => (gI_ne (Or.inl (by decide))).trans (htd3 rfl i hi)
                                  · exact fun z => absurd (hc112.symm.trans z) (by decide)
                                  · exact fun z => absurd (hc112.symm.trans z) (by decide))
                               | (rw [stS_r hc114 hRR, rd1_f rfl]
                                  exact ⟨rfl, hq3, rdF_t (rdF_i (Or.inl rfl)) hF3, fun z => by cases z⟩)
                               | (rw [stS_r hc114 hRR, rd1_cf (by decide) (by decide) hc59]
                                  exact ⟨rfl, hq3, rdF_t (rdF_i (Or.inl rfl)) hF3, fun z => by cases z⟩)
                               | (rw [stS_r hc114 hRR, rd1_ct (it := 59) (by decide) (by decide) hc59]
                                  refine ⟨rfl, gI_self _ _ _ _, rdF_t (rdF_i (Or.inl rfl)) (rdF_t hF3 (rdF_i (Or.inl rfl))), fun _ => ⟨?_, ?_, ?_⟩⟩
                                  · exact fun z => absurd (hc114.symm.trans z) (by decide)
                                  · exact fun _ i hi => (gI_ne (Or.inl (by decide))).trans (htd3 rfl i hi)
                                  · exact fun z => absurd (hc114.symm.trans z) (by decide))
                               | (rw [stS_f hc102 hRR, rd1_f rfl]
                                  exact ⟨rfl, hq3, rdF_t (rdF_i (Or.inl rfl)) hF3, fun z => by cases z⟩)
                               | (rw [stS_f hc102 hRR, rd1_cf (by decide) (by decide) hc59]
                                  exact ⟨rfl, hq3, rdF_t (rdF_i (Or.inl rfl)) hF3, fun z => by cases z⟩)
                               | (rw [stS_f hc102 hRR, rd1_ct (it := 59) (by decide) (by decide) hc59]
                                  refine ⟨rfl, gI_self _ _ _ _, rdF_t (rdF_i (Or.inl rfl)) (rdF_t hF3 (rdF_i (Or.inl rfl))), fun _ => ⟨?_, ?_, ?_⟩⟩
                                  · exact fun z => absurd (hc102.symm.trans z) (by decide)
                                  · exact fun z => absurd (hc102.symm.trans z) (by decide)
                                  · exact fun _ => (gI_ne (Or.inl (by decide))).trans (htd3 rfl 0 (by omega)))
                               | (rw [stS_n hc112 hc114 hc102]; exact ⟨rfl, hp, rdF_r, fun z => by cases z⟩))
                      · first
                          | (exfalso; first | exact absurd h24 (by decide) | exact h24 (by decide) | (simp at h24; done))
                          | (refine xG_run 2 rfl (by repeat' (first | exact trivial | assumption | exact xob_b rfl | exact xal_b rfl | (apply And.intro) | decide)) ?_
                             try dsimp only [xsto1, xsto2, xkill, xget, xset, gd_0, gd_s]
                             refine r2_z rfl rfl (by first | decide | assumption) ?_
                             first
                               | (rw [stS_p hc112 hRR, rd1_f rfl]
                                  exact ⟨rfl, hq3, rdF_t (rdF_i (Or.inl rfl)) hF3, fun z => by cases z⟩)
                               | (rw [stS_p hc112 hRR, rd1_cf (by decide) (by decide) hc59]
                                  exact ⟨rfl, hq3, rdF_t (rdF_i (Or.inl rfl)) hF3, fun z => by cases z⟩)
                               | (rw [stS_p hc112 hRR, rd1_ct (it := 59) (by decide) (by decide) hc59]
                                  refine ⟨rfl, gI_self _ _ _ _, rdF_t (rdF_i (Or.inl rfl)) (rdF_t hF3 (rdF_i (Or.inl rfl))), fun _ => ⟨?_, ?_, ?_⟩⟩
                                  · exact fun _ i hi => (gI_ne (Or.inl (by decide))).trans (htd3 rfl i hi)
                                  · exact fun z => absurd (hc112.symm.trans z) (by decide)
                                  · exact fun z => absurd (hc112.symm.trans z) (by decide))
                               | (rw [stS_r hc114 hRR, rd1_f rfl]
                                  exact ⟨rfl, hq3, rdF_t (rdF_i (Or.inl rfl)) hF3, fun z => by cases z⟩)
                               | (rw [stS_r hc114 hRR, rd1_cf (by decide) (by decide) hc59]
                                  exact ⟨rfl, hq3, rdF_t (rdF_i (Or.inl rfl)) hF3, fun z => by cases z⟩)
                               | (rw [stS_r hc114 hRR, rd1_ct (it := 59) (by decide) (by decide) hc59]
                                  refine ⟨rfl, gI_self _ _ _ _, rdF_t (rdF_i (Or.inl rfl)) (rdF_t hF3 (rdF_i (Or.inl rfl))), fun _ => ⟨?_, ?_, ?_⟩⟩
                                  · exact fun z => absurd (hc114.symm.trans z) (by decide)
                                  · exact fun _ i hi => (gI_ne (Or.inl (by decide))).trans (htd3 rfl i hi)
                                  · exact fun z => absurd (hc114.symm.trans z) (by decide))
                               | (rw [stS_f hc102 hRR, rd1_f rfl]
                                  exact ⟨rfl, hq3, rdF_t (rdF_i (Or.inl rfl)) hF3, fun z => by cases z⟩)
                               | (rw [stS_f hc102 hRR, rd1_cf (by decide) (by decide) hc59]
                                  exact ⟨rfl, hq3, rdF_t (rdF_i (Or.inl rfl)) hF3, fun z => by cases z⟩)
                               | (rw [stS_f hc102 hRR, rd1_ct (it := 59) (by decide) (by decide) hc59]
                                  refine ⟨rfl, gI_self _ _ _ _, rdF_t (rdF_i (Or.inl rfl)) (rdF_t hF3 (rdF_i (Or.inl rfl))), fun _ => ⟨?_, ?_, ?_⟩⟩
                                  · exact fun z => absurd (hc102.symm.trans z) (by decide)
                                  · exact fun z => absurd (hc102.symm.trans z) (by decide)
                                  · exact fun _ => (gI_ne (Or.inl (by decide))).trans (htd3 rfl 0 (by omega)))
                               | (rw [stS_n hc112 hc114 hc102]; exact ⟨rfl, hp, rdF_r, fun z => by cases z⟩))
                    · dsimp only [Option.toList, List.cons_append, List.nil_append]
                      refine xG_br rfl (fun h24 => ?_) (fun h24 => ?_)
                      · first
                          | (exfalso; first | exact absurd h24 (by decide) | exact h24 (by decide) | (simp at h24; done))
                          | (refine xG_run 1 rfl (by repeat' (first | exact trivial | assumption | exact xob_b rfl | exact xal_b rfl | (apply And.intro) | decide)) ?_
                             try dsimp only [xsto1, xsto2, xkill, xget, xset, gd_0, gd_s]
                             refine r2_z rfl rfl (by first | decide | assumption) ?_
                             first
                               | (rw [stS_p hc112 hRR, rd1_f rfl]
                                  exact ⟨rfl, hq3, rdF_t (rdF_i (Or.inl rfl)) hF3, fun z => by cases z⟩)
                               | (rw [stS_p hc112 hRR, rd1_cf (by decide) (by decide) hc59]
                                  exact ⟨rfl, hq3, rdF_t (rdF_i (Or.inl rfl)) hF3, fun z => by cases z⟩)
                               | (rw [stS_p hc112 hRR, rd1_ct (it := 59) (by decide) (by decide) hc59]
                                  refine ⟨rfl, gI_self _ _ _ _, rdF_t (rdF_i (Or.inl rfl)) (rdF_t hF3 (rdF_i (Or.inl rfl))), fun _ => ⟨?_, ?_, ?_⟩⟩
                                  · exact fun _ i hi => (gI_ne (Or.inl (by decide))).trans (htd3 rfl i hi)
                                  · exact fun z => absurd (hc112.symm.trans z) (by decide)
                                  · exact fun z => absurd (hc112.symm.trans z) (by decide))
                               | (rw [stS_r hc114 hRR, rd1_f rfl]
                                  exact ⟨rfl, hq3, rdF_t (rdF_i (Or.inl rfl)) hF3, fun z => by cases z⟩)
                               | (rw [stS_r hc114 hRR, rd1_cf (by decide) (by decide) hc59]
                                  exact ⟨rfl, hq3, rdF_t (rdF_i (Or.inl rfl)) hF3, fun z => by cases z⟩)
                               | (rw [stS_r hc114 hRR, rd1_ct (it := 59) (by decide) (by decide) hc59]
                                  refine ⟨rfl, gI_self _ _ _ _, rdF_t (rdF_i (Or.inl rfl)) (rdF_t hF3 (rdF_i (Or.inl rfl))), fun _ => ⟨?_, ?_, ?_⟩⟩
                                  · exact fun z => absurd (hc114.symm.trans z) (by decide)
                                  · exact fun _ i hi => (gI_ne (Or.inl (by decide))).trans (htd3 rfl i hi)
                                  · exact fun z => absurd (hc114.symm.trans z) (by decide))
                               | (rw [stS_f hc102 hRR, rd1_f rfl]
                                  exact ⟨rfl, hq3, rdF_t (rdF_i (Or.inl rfl)) hF3, fun z => by cases z⟩)
                               | (rw [stS_f hc102 hRR, rd1_cf (by decide) (by decide) hc59]
                                  exact ⟨rfl, hq3, rdF_t (rdF_i (Or.inl rfl)) hF3, fun z => by cases z⟩)
                               | (rw [stS_f hc102 hRR, rd1_ct (it := 59) (by decide) (by decide) hc59]
                                  refine ⟨rfl, gI_self _ _ _ _, rdF_t (rdF_i (Or.inl rfl)) (rdF_t hF3 (rdF_i (Or.inl rfl))), fun _ => ⟨?_, ?_, ?_⟩⟩
                                  · exact fun z => absurd (hc102.symm.trans z) (by decide)
                                  · exact fun z => absurd (hc102.symm.trans z) (by decide)
                                  · exact fun _ => (gI_ne (Or.inl (by decide))).trans (htd3 rfl 0 (by omega)))
                               | (rw [stS_n hc112 hc114 hc102]; exact ⟨rfl, hp, rdF_r, fun z => by cases z⟩))
                      · first
                          | (exfalso; first | exact absurd h24 (by decide) | exact h24 (by decide) | (simp at h24; done))
                          | (refine xG_run 2 rfl (by repeat' (first | exact trivial | assumption | exact xob_b rfl | exact xal_b rfl | (apply And.intro) | decide)) ?_
                             try dsimp only [xsto1, xsto2, xkill, xget, xset, gd_0, gd_s]
                             refine r2_z rfl rfl (by first | decide | assumption) ?_
                             first
                               | (rw [stS_p hc112 hRR, rd1_f rfl]
                                  exact ⟨rfl, hq3, rdF_t (rdF_i (Or.inl rfl)) hF3, fun z => by cases z⟩)
                               | (rw [stS_p hc112 hRR, rd1_cf (by decide) (by decide) hc59]
                                  exact ⟨rfl, hq3, rdF_t (rdF_i (Or.inl rfl)) hF3, fun z => by cases z⟩)
                               | (rw [stS_p hc112 hRR, rd1_ct (it := 59) (by decide) (by decide) hc59]
                                  refine ⟨rfl, gI_self _ _ _ _, rdF_t (rdF_i (Or.inl rfl)) (rdF_t hF3 (rdF_i (Or.inl rfl))), fun _ => ⟨?_, ?_, ?_⟩⟩
                                  · exact fun _ i hi => (gI_ne (Or.inl (by decide))).trans (htd3 rfl i hi)
                                  · exact fun z => absurd (hc112.symm.trans z) (by decide)
                                  · exact fun z => absurd (hc112.symm.trans z) (by decide))
                               | (rw [stS_r hc114 hRR, rd1_f rfl]
                                  exact ⟨rfl, hq3, rdF_t (rdF_i (Or.inl rfl)) hF3, fun z => by cases z⟩)
                               | (rw [stS_r hc114 hRR, rd1_cf (by decide) (by decide) hc59]
                                  exact ⟨rfl, hq3, rdF_t (rdF_i (Or.inl rfl)) hF3, fun z => by cases z⟩)
                               | (rw [stS_r hc114 hRR, rd1_ct (it := 59) (by decide) (by decide) hc59]
                                  refine ⟨rfl, gI_self _ _ _ _, rdF_t (rdF_i (Or.inl rfl)) (rdF_t hF3 (rdF_i (Or.inl rfl))), fun _ => ⟨?_, ?_, ?_⟩⟩
                                  · exact fun z => absurd (hc114.symm.trans z) (by decide)
                                  · exact fun _ i hi => (gI_ne (Or.inl (by decide))).trans (htd3 rfl i hi)
                                  · exact fun z => absurd (hc114.symm.trans z) (by decide))
                               | (rw [stS_f hc102 hRR, rd1_f rfl]
                                  exact ⟨rfl, hq3, rdF_t (rdF_i (Or.inl rfl)) hF3, fun z => by cases z⟩)
                               | (rw [stS_f hc102 hRR, rd1_cf (by decide) (by decide) hc59]
                                  exact ⟨rfl, hq3, rdF_t (rdF_i (Or.inl rfl)) hF3, fun z => by cases z⟩)
                               | (rw [stS_f hc102 hRR, rd1_ct (it := 59) (by decide) (by decide) hc59]
                                  refine ⟨rfl, gI_self _ _ _ _, rdF_t (rdF_i (Or.inl rfl)) (rdF_t hF3 (rdF_i (Or.inl rfl))), fun _ => ⟨?_, ?_, ?_⟩⟩
                                  · exact fun z => absurd (hc102.symm.trans z) (by decide)
                                  · exact fun z => absurd (hc102.symm.trans z) (by decide)
                                  · exact fun _ => (gI_ne (Or.inl (by decide))).trans (htd3 rfl 0 (by omega)))
                               | (rw [stS_n hc112 hc114 hc102]; exact ⟨rfl, hp, rdF_r, fun z => by cases z⟩)))
           · dsimp only [Option.toList, List.cons_append, List.nil_append]
             have hT3 := rT_F hTa hF3
             have hq9 : q ≤ n := by
               have e := rdS_le (T := T) (n := n) (l := itK false 5) (s := (true, p + 1, [], 0)) (by show p + 1 ≤ n; omega) (itK_le 5)
               rw [hRR] at e
               exact e
             refine xG_br rfl (fun h15 => ?_) (fun h15 => ?_)
             · first
                 | (exfalso; first | exact absurd h15 (by decide) | exact h15 (by decide) | (simp at h15; done))
                 | (refine xG_run 1 rfl (by repeat' (first | exact trivial | assumption | exact xob_b rfl | exact xal_b rfl | (apply And.intro) | decide)) ?_
                    try dsimp only [xsto1, xsto2, xkill, xget, xset, gd_0, gd_s]
                    refine r2_z rfl rfl (by first | decide | assumption) ?_
                    first
                      | (rw [stS_p hc112 hRR, rd1_f rfl]
                         exact ⟨rfl, hq3, rdF_t (rdF_i (Or.inl rfl)) hF3, fun z => by cases z⟩)
                      | (rw [stS_p hc112 hRR, rd1_cf (by decide) (by decide) hc59]
                         exact ⟨rfl, hq3, rdF_t (rdF_i (Or.inl rfl)) hF3, fun z => by cases z⟩)
                      | (rw [stS_p hc112 hRR, rd1_ct (it := 59) (by decide) (by decide) hc59]
                         refine ⟨rfl, gI_self _ _ _ _, rdF_t (rdF_i (Or.inl rfl)) (rdF_t hF3 (rdF_i (Or.inl rfl))), fun _ => ⟨?_, ?_, ?_⟩⟩
                         · exact fun _ i hi => (gI_ne (Or.inl (by decide))).trans (htd3 rfl i hi)
                         · exact fun z => absurd (hc112.symm.trans z) (by decide)
                         · exact fun z => absurd (hc112.symm.trans z) (by decide))
                      | (rw [stS_r hc114 hRR, rd1_f rfl]
                         exact ⟨rfl, hq3, rdF_t (rdF_i (Or.inl rfl)) hF3, fun z => by cases z⟩)
                      | (rw [stS_r hc114 hRR, rd1_cf (by decide) (by decide) hc59]
                         exact ⟨rfl, hq3, rdF_t (rdF_i (Or.inl rfl)) hF3, fun z => by cases z⟩)
                      | (rw [stS_r hc114 hRR, rd1_ct (it := 59) (by decide) (by decide) hc59]
                         refine ⟨rfl, gI_self _ _ _ _, rdF_t (rdF_i (Or.inl rfl)) (rdF_t hF3 (rdF_i (Or.inl rfl))), fun _ => ⟨?_, ?_, ?_⟩⟩
                         · exact fun z => absurd (hc114.symm.trans z) (by decide)
                         · exact fun _ i hi => (gI_ne (Or.inl (by decide))).trans (htd3 rfl i hi)
                         · exact fun z => absurd (hc114.symm.trans z) (by decide))
                      | (rw [stS_f hc102 hRR, rd1_f rfl]
                         exact ⟨rfl, hq3, rdF_t (rdF_i (Or.inl rfl)) hF3, fun z => by cases z⟩)
                      | (rw [stS_f hc102 hRR, rd1_cf (by decide) (by decide) hc59]
                         exact ⟨rfl, hq3, rdF_t (rdF_i (Or.inl rfl)) hF3, fun z => by cases z⟩)
                      | (rw [stS_f hc102 hRR, rd1_ct (it := 59) (by decide) (by decide) hc59]
                         refine ⟨rfl, gI_self _ _ _ _, rdF_t (rdF_i (Or.inl rfl)) (rdF_t hF3 (rdF_i (Or.inl rfl))), fun _ => ⟨?_, ?_, ?_⟩⟩
                         · exact fun z => absurd (hc102.symm.trans z) (by decide)
                         · exact fun z => absurd (hc102.symm.trans z) (by decide)
                         · exact fun _ => (gI_ne (Or.inl (by decide))).trans (htd3 rfl 0 (by omega)))
                      | (rw [stS_n hc112 hc114 hc102]; exact ⟨rfl, hp, rdF_r, fun z => by cases z⟩))
             · first
                 | (exfalso; first | exact absurd h15 (by decide) | exact h15 (by decide) | (simp at h15; done))
                 | (refine xG_run 2 rfl (by repeat' (first | exact trivial | assumption | exact xob_b rfl | exact xal_b rfl | (apply And.intro) | decide)) ?_
                    try dsimp only [xsto1, xsto2, xkill, xget, xset, gd_0, gd_s]
                    refine xG_c2 1 rfl (by repeat' (first | exact trivial | assumption | exact xob_b rfl | exact xal_b rfl | (apply And.intro) | decide)) rfl rfl (by decide) cw_X12_takes (d' := d - 1) (e_takes (p := q) (c := 59) hT3 hq3 (by omega) (by omega)) (by omega) ?_
                    rintro v M4 (⟨hc59, rfl, rfl⟩ | ⟨hc59, rfl, rfl⟩)
                    · dsimp only [Option.toList, List.cons_append, List.nil_append]
                      refine xG_br rfl (fun h24 => ?_) (fun h24 => ?_)
                      · first
                          | (exfalso; first | exact absurd h24 (by decide) | exact h24 (by decide) | (simp at h24; done))
                          | (refine xG_run 1 rfl (by repeat' (first | exact trivial | assumption | exact xob_b rfl | exact xal_b rfl | (apply And.intro) | decide)) ?_
                             try dsimp only [xsto1, xsto2, xkill, xget, xset, gd_0, gd_s]
                             refine r2_z rfl rfl (by first | decide | assumption) ?_
                             first
                               | (rw [stS_p hc112 hRR, rd1_f rfl]
                                  exact ⟨rfl, hq3, rdF_t (rdF_i (Or.inl rfl)) hF3, fun z => by cases z⟩)
                               | (rw [stS_p hc112 hRR, rd1_cf (by decide) (by decide) hc59]
                                  exact ⟨rfl, hq3, rdF_t (rdF_i (Or.inl rfl)) hF3, fun z => by cases z⟩)
                               | (rw [stS_p hc112 hRR, rd1_ct (it := 59) (by decide) (by decide) hc59]
                                  refine ⟨rfl, gI_self _ _ _ _, rdF_t (rdF_i (Or.inl rfl)) (rdF_t hF3 (rdF_i (Or.inl rfl))), fun _ => ⟨?_, ?_, ?_⟩⟩
                                  · exact fun _ i hi => (gI_ne (Or.inl (by decide))).trans (htd3 rfl i hi)
                                  · exact fun z => absurd (hc112.symm.trans z) (by decide)
                                  · exact fun z => absurd (hc112.symm.trans z) (by decide))
                               | (rw [stS_r hc114 hRR, rd1_f rfl]
                                  exact ⟨rfl, hq3, rdF_t (rdF_i (Or.inl rfl)) hF3, fun z => by cases z⟩)
                               | (rw [stS_r hc114 hRR, rd1_cf (by decide) (by decide) hc59]
                                  exact ⟨rfl, hq3, rdF_t (rdF_i (Or.inl rfl)) hF3, fun z => by cases z⟩)
                               | (rw [stS_r hc114 hRR, rd1_ct (it := 59) (by decide) (by decide) hc59]
                                  refine ⟨rfl, gI_self _ _ _ _, rdF_t (rdF_i (Or.inl rfl)) (rdF_t hF3 (rdF_i (Or.inl rfl))), fun _ => ⟨?_, ?_, ?_⟩⟩
                                  · exact fun z => absurd (hc114.symm.trans z) (by decide)
                                  · exact fun _ i hi => (gI_ne (Or.inl (by decide))).trans (htd3 rfl i hi)
                                  · exact fun z => absurd (hc114.symm.trans z) (by decide))
                               | (rw [stS_f hc102 hRR, rd1_f rfl]
                                  exact ⟨rfl, hq3, rdF_t (rdF_i (Or.inl rfl)) hF3, fun z => by cases z⟩)
                               | (rw [stS_f hc102 hRR, rd1_cf (by decide) (by decide) hc59]
                                  exact ⟨rfl, hq3, rdF_t (rdF_i (Or.inl rfl)) hF3, fun z => by cases z⟩)
                               | (rw [stS_f hc102 hRR, rd1_ct (it := 59) (by decide) (by decide) hc59]
                                  refine ⟨rfl, gI_self _ _ _ _, rdF_t (rdF_i (Or.inl rfl)) (rdF_t hF3 (rdF_i (Or.inl rfl))), fun _ => ⟨?_, ?_, ?_⟩⟩
                                  · exact fun z => absurd (hc102.symm.trans z) (by decide)
                                  · exact fun z => absurd (hc102.symm.trans z) (by decide)
                                  · exact fun _ => (gI_ne (Or.inl (by decide))).trans (htd3 rfl 0 (by omega)))
                               | (rw [stS_n hc112 hc114 hc102]; exact ⟨rfl, hp, rdF_r, fun z => by cases z⟩))
                      · first
                          | (exfalso; first | exact absurd h24 (by decide) | exact h24 (by decide) | (simp at h24; done))
                          | (refine xG_run 2 rfl (by repeat' (first | exact trivial | assumption | exact xob_b rfl | exact xal_b rfl | (apply And.intro) | decide)) ?_
                             try dsimp only [xsto1, xsto2, xkill, xget, xset, gd_0, gd_s]
                             refine r2_z rfl rfl (by first | decide | assumption) ?_
                             first
                               | (rw [stS_p hc112 hRR, rd1_f rfl]
                                  exact ⟨rfl, hq3, rdF_t (rdF_i (Or.inl rfl)) hF3, fun z => by cases z⟩)
                               | (rw [stS_p hc112 hRR, rd1_cf (by decide) (by decide) hc59]
                                  exact ⟨rfl, hq3, rdF_t (rdF_i (Or.inl rfl)) hF3, fun z => by cases z⟩)
                               | (rw [stS_p hc112 hRR, rd1_ct (it := 59) (by decide) (by decide) hc59]
                                  refine ⟨rfl, gI_self _ _ _ _, rdF_t (rdF_i (Or.inl rfl)) (rdF_t hF3 (rdF_i (Or.inl rfl))), fun _ => ⟨?_, ?_, ?_⟩⟩
                                  · exact fun _ i hi => (gI_ne (Or.inl (by decide))).trans (htd3 rfl i hi)
                                  · exact fun z => absurd (hc112.symm.trans z) (by decide)
                                  · exact fun z => absurd (hc112.symm.trans z) (by decide))
                               | (rw [stS_r hc114 hRR, rd1_f rfl]
                                  exact ⟨rfl, hq3, rdF_t (rdF_i (Or.inl rfl)) hF3, fun z => by cases z⟩)
                               | (rw [stS_r hc114 hRR, rd1_cf (by decide) (by decide) hc59]
                                  exact ⟨rfl, hq3, rdF_t (rdF_i (Or.inl rfl)) hF3, fun z => by cases z⟩)
                               | (rw [stS_r hc114 hRR, rd1_ct (it := 59) (by decide) (by decide) hc59]
                                  refine ⟨rfl, gI_self _ _ _ _, rdF_t (rdF_i (Or.inl rfl)) (rdF_t hF3 (rdF_i (Or.inl rfl))), fun _ => ⟨?_, ?_, ?_⟩⟩
                                  · exact fun z => absurd (hc114.symm.trans z) (by decide)
                                  · exact fun _ i hi => (gI_ne (Or.inl (by decide))).trans (htd3 rfl i hi)
                                  · exact fun z => absurd (hc114.symm.trans z) (by decide))
                               | (rw [stS_f hc102 hRR, rd1_f rfl]
                                  exact ⟨rfl, hq3, rdF_t (rdF_i (Or.inl rfl)) hF3, fun z => by cases z⟩)
                               | (rw [stS_f hc102 hRR, rd1_cf (by decide) (by decide) hc59]
                                  exact ⟨rfl, hq3, rdF_t (rdF_i (Or.inl rfl)) hF3, fun z => by cases z⟩)
                               | (rw [stS_f hc102 hRR, rd1_ct (it := 59) (by decide) (by decide) hc59]
                                  refine ⟨rfl, gI_self _ _ _ _, rdF_t (rdF_i (Or.inl rfl)) (rdF_t hF3 (rdF_i (Or.inl rfl))), fun _ => ⟨?_, ?_, ?_⟩⟩
                                  · exact fun z => absurd (hc102.symm.trans z) (by decide)
                                  · exact fun z => absurd (hc102.symm.trans z) (by decide)
                                  · exact fun _ => (gI_ne (Or.inl (by decide))).trans (htd3 rfl 0 (by omega)))
                               | (rw [stS_n hc112 hc114 hc102]; exact ⟨rfl, hp, rdF_r, fun z => by cases z⟩))
                    · dsimp only [Option.toList, List.cons_append, List.nil_append]
                      refine xG_br rfl (fun h24 => ?_) (fun h24 => ?_)
                      · first
                          | (exfalso; first | exact absurd h24 (by decide) | exact h24 (by decide) | (simp at h24; done))
                          | (refine xG_run 1 rfl (by repeat' (first | exact trivial | assumption | exact xob_b rfl | exact xal_b rfl | (apply And.intro) | decide)) ?_
                             try dsimp only [xsto1, xsto2, xkill, xget, xset, gd_0, gd_s]
                             refine r2_z rfl rfl (by first | decide | assumption) ?_
                             first
                               | (rw [stS_p hc112 hRR, rd1_f rfl]
                                  exact ⟨rfl, hq3, rdF_t (rdF_i (Or.inl rfl)) hF3, fun z => by cases z⟩)
                               | (rw [stS_p hc112 hRR, rd1_cf (by decide) (by decide) hc59]
                                  exact ⟨rfl, hq3, rdF_t (rdF_i (Or.inl rfl)) hF3, fun z => by cases z⟩)
                               | (rw [stS_p hc112 hRR, rd1_ct (it := 59) (by decide) (by decide) hc59]
                                  refine ⟨rfl, gI_self _ _ _ _, rdF_t (rdF_i (Or.inl rfl)) (rdF_t hF3 (rdF_i (Or.inl rfl))), fun _ => ⟨?_, ?_, ?_⟩⟩
                                  · exact fun _ i hi => (gI_ne (Or.inl (by decide))).trans (htd3 rfl i hi)
                                  · exact fun z => absurd (hc112.symm.trans z) (by decide)
                                  · exact fun z => absurd (hc112.symm.trans z) (by decide))
                               | (rw [stS_r hc114 hRR, rd1_f rfl]
                                  exact ⟨rfl, hq3, rdF_t (rdF_i (Or.inl rfl)) hF3, fun z => by cases z⟩)
                               | (rw [stS_r hc114 hRR, rd1_cf (by decide) (by decide) hc59]
                                  exact ⟨rfl, hq3, rdF_t (rdF_i (Or.inl rfl)) hF3, fun z => by cases z⟩)
                               | (rw [stS_r hc114 hRR, rd1_ct (it := 59) (by decide) (by decide) hc59]
                                  refine ⟨rfl, gI_self _ _ _ _, rdF_t (rdF_i (Or.inl rfl)) (rdF_t hF3 (rdF_i (Or.inl rfl))), fun _ => ⟨?_, ?_, ?_⟩⟩
                                  · exact fun z => absurd (hc114.symm.trans z) (by decide)
                                  · exact fun _ i hi => (gI_ne (Or.inl (by decide))).trans (htd3 rfl i hi)
                                  · exact fun z => absurd (hc114.symm.trans z) (by decide))
                               | (rw [stS_f hc102 hRR, rd1_f rfl]
                                  exact ⟨rfl, hq3, rdF_t (rdF_i (Or.inl rfl)) hF3, fun z => by cases z⟩)
                               | (rw [stS_f hc102 hRR, rd1_cf (by decide) (by decide) hc59]
                                  exact ⟨rfl, hq3, rdF_t (rdF_i (Or.inl rfl)) hF3, fun z => by cases z⟩)
                               | (rw [stS_f hc102 hRR, rd1_ct (it := 59) (by decide) (by decide) hc59]
                                  refine ⟨rfl, gI_self _ _ _ _, rdF_t (rdF_i (Or.inl rfl)) (rdF_t hF3 (rdF_i (Or.inl rfl))), fun _ => ⟨?_, ?_, ?_⟩⟩
                                  · exact fun z => absurd (hc102.symm.trans z) (by decide)
                                  · exact fun z => absurd (hc102.symm.trans z) (by decide)
                                  · exact fun _ => (gI_ne (Or.inl (by decide))).trans (htd3 rfl 0 (by omega)))
                               | (rw [stS_n hc112 hc114 hc102]; exact ⟨rfl, hp, rdF_r, fun z => by cases z⟩))
                      · first
                          | (exfalso; first | exact absurd h24 (by decide) | exact h24 (by decide) | (simp at h24; done))
                          | (refine xG_run 2 rfl (by repeat' (first | exact trivial | assumption | exact xob_b rfl | exact xal_b rfl | (apply And.intro) | decide)) ?_
                             try dsimp only [xsto1, xsto2, xkill, xget, xset, gd_0, gd_s]
                             refine r2_z rfl rfl (by first | decide | assumption) ?_
                             first
                               | (rw [stS_p hc112 hRR, rd1_f rfl]
                                  exact ⟨rfl, hq3, rdF_t (rdF_i (Or.inl rfl)) hF3, fun z => by cases z⟩)
                               | (rw [stS_p hc112 hRR, rd1_cf (by decide) (by decide) hc59]
                                  exact ⟨rfl, hq3, rdF_t (rdF_i (Or.inl rfl)) hF3, fun z => by cases z⟩)
                               | (rw [stS_p hc112 hRR, rd1_ct (it := 59) (by decide) (by decide) hc59]
                                  refine ⟨rfl, gI_self _ _ _ _, rdF_t (rdF_i (Or.inl rfl)) (rdF_t hF3 (rdF_i (Or.inl rfl))), fun _ => ⟨?_, ?_, ?_⟩⟩
                                  · exact fun _ i hi => (gI_ne (Or.inl (by decide))).trans (htd3 rfl i hi)
                                  · exact fun z => absurd (hc112.symm.trans z) (by decide)
                                  · exact fun z => absurd (hc112.symm.trans z) (by decide))
                               | (rw [stS_r hc114 hRR, rd1_f rfl]
                                  exact ⟨rfl, hq3, rdF_t (rdF_i (Or.inl rfl)) hF3, fun z => by cases z⟩)
                               | (rw [stS_r hc114 hRR, rd1_cf (by decide) (by decide) hc59]
                                  exact ⟨rfl, hq3, rdF_t (rdF_i (Or.inl rfl)) hF3, fun z => by cases z⟩)
                               | (rw [stS_r hc114 hRR, rd1_ct (it := 59) (by decide) (by decide) hc59]
                                  refine ⟨rfl, gI_self _ _ _ _, rdF_t (rdF_i (Or.inl rfl)) (rdF_t hF3 (rdF_i (Or.inl rfl))), fun _ => ⟨?_, ?_, ?_⟩⟩
                                  · exact fun z => absurd (hc114.symm.trans z) (by decide)
                                  · exact fun _ i hi => (gI_ne (Or.inl (by decide))).trans (htd3 rfl i hi)
                                  · exact fun z => absurd (hc114.symm.trans z) (by decide))
                               | (rw [stS_f hc102 hRR, rd1_f rfl]
                                  exact ⟨rfl, hq3, rdF_t (rdF_i (Or.inl rfl)) hF3, fun z => by cases z⟩)
                               | (rw [stS_f hc102 hRR, rd1_cf (by decide) (by decide) hc59]
                                  exact ⟨rfl, hq3, rdF_t (rdF_i (Or.inl rfl)) hF3, fun z => by cases z⟩)
                               | (rw [stS_f hc102 hRR, rd1_ct (it := 59) (by decide) (by decide) hc59]
                                  refine ⟨rfl, gI_self _ _ _ _, rdF_t (rdF_i (Or.inl rfl)) (rdF_t hF3 (rdF_i (Or.inl rfl))), fun _ => ⟨?_, ?_, ?_⟩⟩
                                  · exact fun z => absurd (hc102.symm.trans z) (by decide)
                                  · exact fun z => absurd (hc102.symm.trans z) (by decide)
                                  · exact fun _ => (gI_ne (Or.inl (by decide))).trans (htd3 rfl 0 (by omega)))
                               | (rw [stS_n hc112 hc114 hc102]; exact ⟨rfl, hp, rdF_r, fun z => by cases z⟩))))
  · dsimp only [Option.toList, List.cons_append, List.nil_append]
    refine xG_br rfl (fun h6 => ?_) (fun h6 => ?_)
    · first
        | (exfalso; first | exact absurd h6 (by decide) | exact h6 (by decide) | (simp at h6; done))
        | (refine xG_run 2 rfl (by repeat' (first | exact trivial | assumption | exact xob_b rfl | exact xal_b rfl | (apply And.intro) | decide)) ?_
           try dsimp only [xsto1, xsto2, xkill, xget, xset, gd_0, gd_s]
           refine xG_c2 1 rfl (by repeat' (first | exact trivial | assumption | exact xob_b rfl | exact xal_b rfl | (apply And.intro) | decide)) rfl rfl (by decide) cw_X12_takes (d' := d - 1) (e_takes (p := p) (c := 114) hT hp (by omega) (by omega)) (by omega) ?_
           rintro v M114 (⟨hc114, rfl, rfl⟩ | ⟨hc114, rfl, rfl⟩)
           · dsimp only [Option.toList, List.cons_append, List.nil_append]
             have hlt114 := chr_p hc114 (by decide)
             have hTa := rT_F hT (rdF_i (k := 12) (v := nI (p + 1)) (Or.inl rfl))
             refine xG_br rfl (fun h39 => ?_) (fun h39 => ?_)
             · first
                 | (exfalso; first | exact absurd h39 (by decide) | exact h39 (by decide) | (simp at h39; done))
                 | (refine xG_run 2 rfl (by repeat' (first | exact trivial | assumption | exact xob_b rfl | exact xal_b rfl | (apply And.intro) | decide)) ?_
                    try dsimp only [xsto1, xsto2, xkill, xget, xset, gd_0, gd_s]
                    refine xG_c2 1 rfl (by repeat' (first | exact trivial | assumption | exact xob_b rfl | exact xal_b rfl | (apply And.intro) | decide)) rfl rfl (by decide) cw_X12_takes (d' := d - 1) (e_takes (p := p) (c := 102) hT hp (by omega) (by omega)) (by omega) ?_
                    rintro v M102 (⟨hc102, rfl, rfl⟩ | ⟨hc102, rfl, rfl⟩)
                    · dsimp only [Option.toList, List.cons_append, List.nil_append]
                      have hlt102 := chr_p hc102 (by decide)
                      have hTa := rT_F hT (rdF_i (k := 12) (v := nI (p + 1)) (Or.inl rfl))
                      refine xG_br rfl (fun h72 => ?_) (fun h72 => ?_)
                      · first
                          | (exfalso; first | exact absurd h72 (by decide) | exact h72 (by decide) | (simp at h72; done))
                          | (refine xG_run 1 rfl (by repeat' (first | exact trivial | assumption | exact xob_b rfl | exact xal_b rfl | (apply And.intro) | decide)) ?_
                             try dsimp only [xsto1, xsto2, xkill, xget, xset, gd_0, gd_s]
                             refine r2_z rfl rfl (by first | decide | assumption) ?_
                             first
                               | (rw [stS_p hc112 hRR, rd1_f rfl]
                                  exact ⟨rfl, hq3, rdF_t (rdF_i (Or.inl rfl)) hF3, fun z => by cases z⟩)
                               | (rw [stS_p hc112 hRR, rd1_cf (by decide) (by decide) hc59]
                                  exact ⟨rfl, hq3, rdF_t (rdF_i (Or.inl rfl)) hF3, fun z => by cases z⟩)
                               | (rw [stS_p hc112 hRR, rd1_ct (it := 59) (by decide) (by decide) hc59]
                                  refine ⟨rfl, gI_self _ _ _ _, rdF_t (rdF_i (Or.inl rfl)) (rdF_t hF3 (rdF_i (Or.inl rfl))), fun _ => ⟨?_, ?_, ?_⟩⟩
                                  · exact fun _ i hi => (gI_ne (Or.inl (by decide))).trans (htd3 rfl i hi)
                                  · exact fun z => absurd (hc112.symm.trans z) (by decide)
                                  · exact fun z => absurd (hc112.symm.trans z) (by decide))
                               | (rw [stS_r hc114 hRR, rd1_f rfl]
                                  exact ⟨rfl, hq3, rdF_t (rdF_i (Or.inl rfl)) hF3, fun z => by cases z⟩)
                               | (rw [stS_r hc114 hRR, rd1_cf (by decide) (by decide) hc59]
                                  exact ⟨rfl, hq3, rdF_t (rdF_i (Or.inl rfl)) hF3, fun z => by cases z⟩)
                               | (rw [stS_r hc114 hRR, rd1_ct (it := 59) (by decide) (by decide) hc59]
                                  refine ⟨rfl, gI_self _ _ _ _, rdF_t (rdF_i (Or.inl rfl)) (rdF_t hF3 (rdF_i (Or.inl rfl))), fun _ => ⟨?_, ?_, ?_⟩⟩
                                  · exact fun z => absurd (hc114.symm.trans z) (by decide)
                                  · exact fun _ i hi => (gI_ne (Or.inl (by decide))).trans (htd3 rfl i hi)
                                  · exact fun z => absurd (hc114.symm.trans z) (by decide))
                               | (rw [stS_f hc102 hRR, rd1_f rfl]
                                  exact ⟨rfl, hq3, rdF_t (rdF_i (Or.inl rfl)) hF3, fun z => by cases z⟩)
                               | (rw [stS_f hc102 hRR, rd1_cf (by decide) (by decide) hc59]
                                  exact ⟨rfl, hq3, rdF_t (rdF_i (Or.inl rfl)) hF3, fun z => by cases z⟩)
                               | (rw [stS_f hc102 hRR, rd1_ct (it := 59) (by decide) (by decide) hc59]
                                  refine ⟨rfl, gI_self _ _ _ _, rdF_t (rdF_i (Or.inl rfl)) (rdF_t hF3 (rdF_i (Or.inl rfl))), fun _ => ⟨?_, ?_, ?_⟩⟩
                                  · exact fun z => absurd (hc102.symm.trans z) (by decide)
                                  · exact fun z => absurd (hc102.symm.trans z) (by decide)
                                  · exact fun _ => (gI_ne (Or.inl (by decide))).trans (htd3 rfl 0 (by omega)))
                               | (rw [stS_n hc112 hc114 hc102]; exact ⟨rfl, hp, rdF_r, fun z => by cases z⟩))
                      · first
                          | (exfalso; first | exact absurd h72 (by decide) | exact h72 (by decide) | (simp at h72; done))
                          | (refine xG_run 3 rfl (by repeat' (first | exact trivial | assumption | exact xob_b rfl | exact xal_b rfl | (apply And.intro) | decide)) ?_
                             try dsimp only [xsto1, xsto2, xkill, xget, xset, gd_0, gd_s]
                             refine xG_c2 2 rfl (by repeat' (first | exact trivial | assumption | exact xob_b rfl | exact xal_b rfl | (apply And.intro) | decide)) rfl rfl (by decide) cw_X12_readsNumbers (d' := d - 1) (e_readsNumbersU (m := 1) (p := p + 1) (sv := 0) hTa (gI_self _ _ _ _) (by omega) (by omega) (by omega)) (by omega) ?_
                             rintro v M3 ⟨rfl, hq3, hF3, htd3⟩
                             rcases hRR : rdS T n (itK false 1) (true, p + 1, [], 0) with ⟨ok, q, l, sx⟩
                             try rw [hRR] at hq3 htd3
                             dsimp only at hq3 htd3
                             cases ok
                             · dsimp only [Option.toList, List.cons_append, List.nil_append]
                               refine xG_br rfl (fun h81 => ?_) (fun h81 => ?_)
                               · first
                                   | (exfalso; first | exact absurd h81 (by decide) | exact h81 (by decide) | (simp at h81; done))
                                   | (refine xG_run 1 rfl (by repeat' (first | exact trivial | assumption | exact xob_b rfl | exact xal_b rfl | (apply And.intro) | decide)) ?_
                                      try dsimp only [xsto1, xsto2, xkill, xget, xset, gd_0, gd_s]
                                      refine r2_z rfl rfl (by first | decide | assumption) ?_
                                      first
                                        | (rw [stS_p hc112 hRR, rd1_f rfl]
                                           exact ⟨rfl, hq3, rdF_t (rdF_i (Or.inl rfl)) hF3, fun z => by cases z⟩)
                                        | (rw [stS_p hc112 hRR, rd1_cf (by decide) (by decide) hc59]
                                           exact ⟨rfl, hq3, rdF_t (rdF_i (Or.inl rfl)) hF3, fun z => by cases z⟩)
                                        | (rw [stS_p hc112 hRR, rd1_ct (it := 59) (by decide) (by decide) hc59]
                                           refine ⟨rfl, gI_self _ _ _ _, rdF_t (rdF_i (Or.inl rfl)) (rdF_t hF3 (rdF_i (Or.inl rfl))), fun _ => ⟨?_, ?_, ?_⟩⟩
                                           · exact fun _ i hi => (gI_ne (Or.inl (by decide))).trans (htd3 rfl i hi)
                                           · exact fun z => absurd (hc112.symm.trans z) (by decide)
                                           · exact fun z => absurd (hc112.symm.trans z) (by decide))
                                        | (rw [stS_r hc114 hRR, rd1_f rfl]
                                           exact ⟨rfl, hq3, rdF_t (rdF_i (Or.inl rfl)) hF3, fun z => by cases z⟩)
                                        | (rw [stS_r hc114 hRR, rd1_cf (by decide) (by decide) hc59]
                                           exact ⟨rfl, hq3, rdF_t (rdF_i (Or.inl rfl)) hF3, fun z => by cases z⟩)
                                        | (rw [stS_r hc114 hRR, rd1_ct (it := 59) (by decide) (by decide) hc59]
                                           refine ⟨rfl, gI_self _ _ _ _, rdF_t (rdF_i (Or.inl rfl)) (rdF_t hF3 (rdF_i (Or.inl rfl))), fun _ => ⟨?_, ?_, ?_⟩⟩
                                           · exact fun z => absurd (hc114.symm.trans z) (by decide)
                                           · exact fun _ i hi => (gI_ne (Or.inl (by decide))).trans (htd3 rfl i hi)
                                           · exact fun z => absurd (hc114.symm.trans z) (by decide))
                                        | (rw [stS_f hc102 hRR, rd1_f rfl]
                                           exact ⟨rfl, hq3, rdF_t (rdF_i (Or.inl rfl)) hF3, fun z => by cases z⟩)
                                        | (rw [stS_f hc102 hRR, rd1_cf (by decide) (by decide) hc59]
                                           exact ⟨rfl, hq3, rdF_t (rdF_i (Or.inl rfl)) hF3, fun z => by cases z⟩)
                                        | (rw [stS_f hc102 hRR, rd1_ct (it := 59) (by decide) (by decide) hc59]
                                           refine ⟨rfl, gI_self _ _ _ _, rdF_t (rdF_i (Or.inl rfl)) (rdF_t hF3 (rdF_i (Or.inl rfl))), fun _ => ⟨?_, ?_, ?_⟩⟩
                                           · exact fun z => absurd (hc102.symm.trans z) (by decide)
                                           · exact fun z => absurd (hc102.symm.trans z) (by decide)
                                           · exact fun _ => (gI_ne (Or.inl (by decide))).trans (htd3 rfl 0 (by omega)))
                                        | (rw [stS_n hc112 hc114 hc102]; exact ⟨rfl, hp, rdF_r, fun z => by cases z⟩))
                               · first
                                   | (exfalso; first | exact absurd h81 (by decide) | exact h81 (by decide) | (simp at h81; done))
                                   | (refine xG_run 2 rfl (by repeat' (first | exact trivial | assumption | exact xob_b rfl | exact xal_b rfl | (apply And.intro) | decide)) ?_
                                      try dsimp only [xsto1, xsto2, xkill, xget, xset, gd_0, gd_s]
                                      refine xG_c2 1 rfl (by repeat' (first | exact trivial | assumption | exact xob_b rfl | exact xal_b rfl | (apply And.intro) | decide)) rfl rfl (by decide) cw_X12_takes (d' := d - 1) (e_takes (p := q) (c := 59) hT3 hq3 (by omega) (by omega)) (by omega) ?_
                                      rintro v M4 (⟨hc59, rfl, rfl⟩ | ⟨hc59, rfl, rfl⟩)
                                      · dsimp only [Option.toList, List.cons_append, List.nil_append]
                                        refine xG_br rfl (fun h90 => ?_) (fun h90 => ?_)
                                        · first
                                            | (exfalso; first | exact absurd h90 (by decide) | exact h90 (by decide) | (simp at h90; done))
                                            | (refine xG_run 1 rfl (by repeat' (first | exact trivial | assumption | exact xob_b rfl | exact xal_b rfl | (apply And.intro) | decide)) ?_
                                               try dsimp only [xsto1, xsto2, xkill, xget, xset, gd_0, gd_s]
                                               refine r2_z rfl rfl (by first | decide | assumption) ?_
                                               first
                                                 | (rw [stS_p hc112 hRR, rd1_f rfl]
                                                    exact ⟨rfl, hq3, rdF_t (rdF_i (Or.inl rfl)) hF3, fun z => by cases z⟩)
                                                 | (rw [stS_p hc112 hRR, rd1_cf (by decide) (by decide) hc59]
                                                    exact ⟨rfl, hq3, rdF_t (rdF_i (Or.inl rfl)) hF3, fun z => by cases z⟩)
                                                 | (rw [stS_p hc112 hRR, rd1_ct (it := 59) (by decide) (by decide) hc59]
                                                    refine ⟨rfl, gI_self _ _ _ _, rdF_t (rdF_i (Or.inl rfl)) (rdF_t hF3 (rdF_i (Or.inl rfl))), fun _ => ⟨?_, ?_, ?_⟩⟩
                                                    · exact fun _ i hi => (gI_ne (Or.inl (by decide))).trans (htd3 rfl i hi)
                                                    · exact fun z => absurd (hc112.symm.trans z) (by decide)
                                                    · exact fun z => absurd (hc112.symm.trans z) (by decide))
                                                 | (rw [stS_r hc114 hRR, rd1_f rfl]
                                                    exact ⟨rfl, hq3, rdF_t (rdF_i (Or.inl rfl)) hF3, fun z => by cases z⟩)
                                                 | (rw [stS_r hc114 hRR, rd1_cf (by decide) (by decide) hc59]
                                                    exact ⟨rfl, hq3, rdF_t (rdF_i (Or.inl rfl)) hF3, fun z => by cases z⟩)
                                                 | (rw [stS_r hc114 hRR, rd1_ct (it := 59) (by decide) (by decide) hc59]
                                                    refine ⟨rfl, gI_self _ _ _ _, rdF_t (rdF_i (Or.inl rfl)) (rdF_t hF3 (rdF_i (Or.inl rfl))), fun _ => ⟨?_, ?_, ?_⟩⟩
                                                    · exact fun z => absurd (hc114.symm.trans z) (by decide)
                                                    · exact fun _ i hi => (gI_ne (Or.inl (by decide))).trans (htd3 rfl i hi)
                                                    · exact fun z => absurd (hc114.symm.trans z) (by decide))
                                                 | (rw [stS_f hc102 hRR, rd1_f rfl]
                                                    exact ⟨rfl, hq3, rdF_t (rdF_i (Or.inl rfl)) hF3, fun z => by cases z⟩)
                                                 | (rw [stS_f hc102 hRR, rd1_cf (by decide) (by decide) hc59]
                                                    exact ⟨rfl, hq3, rdF_t (rdF_i (Or.inl rfl)) hF3, fun z => by cases z⟩)
                                                 | (rw [stS_f hc102 hRR, rd1_ct (it := 59) (by decide) (by decide) hc59]
                                                    refine ⟨rfl, gI_self _ _ _ _, rdF_t (rdF_i (Or.inl rfl)) (rdF_t hF3 (rdF_i (Or.inl rfl))), fun _ => ⟨?_, ?_, ?_⟩⟩
                                                    · exact fun z => absurd (hc102.symm.trans z) (by decide)
                                                    · exact fun z => absurd (hc102.symm.trans z) (by decide)
                                                    · exact fun _ => (gI_ne (Or.inl (by decide))).trans (htd3 rfl 0 (by omega)))
                                                 | (rw [stS_n hc112 hc114 hc102]; exact ⟨rfl, hp, rdF_r, fun z => by cases z⟩))
                                        · first
                                            | (exfalso; first | exact absurd h90 (by decide) | exact h90 (by decide) | (simp at h90; done))
                                            | (refine xG_run 2 rfl (by repeat' (first | exact trivial | assumption | exact xob_b rfl | exact xal_b rfl | (apply And.intro) | decide)) ?_
                                               try dsimp only [xsto1, xsto2, xkill, xget, xset, gd_0, gd_s]
                                               refine r2_z rfl rfl (by first | decide | assumption) ?_
                                               first
                                                 | (rw [stS_p hc112 hRR, rd1_f rfl]
                                                    exact ⟨rfl, hq3, rdF_t (rdF_i (Or.inl rfl)) hF3, fun z => by cases z⟩)
                                                 | (rw [stS_p hc112 hRR, rd1_cf (by decide) (by decide) hc59]
                                                    exact ⟨rfl, hq3, rdF_t (rdF_i (Or.inl rfl)) hF3, fun z => by cases z⟩)
                                                 | (rw [stS_p hc112 hRR, rd1_ct (it := 59) (by decide) (by decide) hc59]
                                                    refine ⟨rfl, gI_self _ _ _ _, rdF_t (rdF_i (Or.inl rfl)) (rdF_t hF3 (rdF_i (Or.inl rfl))), fun _ => ⟨?_, ?_, ?_⟩⟩
                                                    · exact fun _ i hi => (gI_ne (Or.inl (by decide))).trans (htd3 rfl i hi)
                                                    · exact fun z => absurd (hc112.symm.trans z) (by decide)
                                                    · exact fun z => absurd (hc112.symm.trans z) (by decide))
                                                 | (rw [stS_r hc114 hRR, rd1_f rfl]
                                                    exact ⟨rfl, hq3, rdF_t (rdF_i (Or.inl rfl)) hF3, fun z => by cases z⟩)
                                                 | (rw [stS_r hc114 hRR, rd1_cf (by decide) (by decide) hc59]
                                                    exact ⟨rfl, hq3, rdF_t (rdF_i (Or.inl rfl)) hF3, fun z => by cases z⟩)
                                                 | (rw [stS_r hc114 hRR, rd1_ct (it := 59) (by decide) (by decide) hc59]
                                                    refine ⟨rfl, gI_self _ _ _ _, rdF_t (rdF_i (Or.inl rfl)) (rdF_t hF3 (rdF_i (Or.inl rfl))), fun _ => ⟨?_, ?_, ?_⟩⟩
                                                    · exact fun z => absurd (hc114.symm.trans z) (by decide)
                                                    · exact fun _ i hi => (gI_ne (Or.inl (by decide))).trans (htd3 rfl i hi)
                                                    · exact fun z => absurd (hc114.symm.trans z) (by decide))
                                                 | (rw [stS_f hc102 hRR, rd1_f rfl]
                                                    exact ⟨rfl, hq3, rdF_t (rdF_i (Or.inl rfl)) hF3, fun z => by cases z⟩)
                                                 | (rw [stS_f hc102 hRR, rd1_cf (by decide) (by decide) hc59]
                                                    exact ⟨rfl, hq3, rdF_t (rdF_i (Or.inl rfl)) hF3, fun z => by cases z⟩)
                                                 | (rw [stS_f hc102 hRR, rd1_ct (it := 59) (by decide) (by decide) hc59]
                                                    refine ⟨rfl, gI_self _ _ _ _, rdF_t (rdF_i (Or.inl rfl)) (rdF_t hF3 (rdF_i (Or.inl rfl))), fun _ => ⟨?_, ?_, ?_⟩⟩
                                                    · exact fun z => absurd (hc102.symm.trans z) (by decide)
                                                    · exact fun z => absurd (hc102.symm.trans z) (by decide)
                                                    · exact fun _ => (gI_ne (Or.inl (by decide))).trans (htd3 rfl 0 (by omega)))
                                                 | (rw [stS_n hc112 hc114 hc102]; exact ⟨rfl, hp, rdF_r, fun z => by cases z⟩))
                                      · dsimp only [Option.toList, List.cons_append, List.nil_append]
                                        refine xG_br rfl (fun h90 => ?_) (fun h90 => ?_)
                                        · first
                                            | (exfalso; first | exact absurd h90 (by decide) | exact h90 (by decide) | (simp at h90; done))
                                            | (refine xG_run 1 rfl (by repeat' (first | exact trivial | assumption | exact xob_b rfl | exact xal_b rfl | (apply And.intro) | decide)) ?_
                                               try dsimp only [xsto1, xsto2, xkill, xget, xset, gd_0, gd_s]
                                               refine r2_z rfl rfl (by first | decide | assumption) ?_
                                               first
                                                 | (rw [stS_p hc112 hRR, rd1_f rfl]
                                                    exact ⟨rfl, hq3, rdF_t (rdF_i (Or.inl rfl)) hF3, fun z => by cases z⟩)
                                                 | (rw [stS_p hc112 hRR, rd1_cf (by decide) (by decide) hc59]
                                                    exact ⟨rfl, hq3, rdF_t (rdF_i (Or.inl rfl)) hF3, fun z => by cases z⟩)
                                                 | (rw [stS_p hc112 hRR, rd1_ct (it := 59) (by decide) (by decide) hc59]
                                                    refine ⟨rfl, gI_self _ _ _ _, rdF_t (rdF_i (Or.inl rfl)) (rdF_t hF3 (rdF_i (Or.inl rfl))), fun _ => ⟨?_, ?_, ?_⟩⟩
                                                    · exact fun _ i hi => (gI_ne (Or.inl (by decide))).trans (htd3 rfl i hi)
                                                    · exact fun z => absurd (hc112.symm.trans z) (by decide)
                                                    · exact fun z => absurd (hc112.symm.trans z) (by decide))
                                                 | (rw [stS_r hc114 hRR, rd1_f rfl]
                                                    exact ⟨rfl, hq3, rdF_t (rdF_i (Or.inl rfl)) hF3, fun z => by cases z⟩)
                                                 | (rw [stS_r hc114 hRR, rd1_cf (by decide) (by decide) hc59]
                                                    exact ⟨rfl, hq3, rdF_t (rdF_i (Or.inl rfl)) hF3, fun z => by cases z⟩)
                                                 | (rw [stS_r hc114 hRR, rd1_ct (it := 59) (by decide) (by decide) hc59]
                                                    refine ⟨rfl, gI_self _ _ _ _, rdF_t (rdF_i (Or.inl rfl)) (rdF_t hF3 (rdF_i (Or.inl rfl))), fun _ => ⟨?_, ?_, ?_⟩⟩
                                                    · exact fun z => absurd (hc114.symm.trans z) (by decide)
                                                    · exact fun _ i hi => (gI_ne (Or.inl (by decide))).trans (htd3 rfl i hi)
                                                    · exact fun z => absurd (hc114.symm.trans z) (by decide))
                                                 | (rw [stS_f hc102 hRR, rd1_f rfl]
                                                    exact ⟨rfl, hq3, rdF_t (rdF_i (Or.inl rfl)) hF3, fun z => by cases z⟩)
                                                 | (rw [stS_f hc102 hRR, rd1_cf (by decide) (by decide) hc59]
                                                    exact ⟨rfl, hq3, rdF_t (rdF_i (Or.inl rfl)) hF3, fun z => by cases z⟩)
                                                 | (rw [stS_f hc102 hRR, rd1_ct (it := 59) (by decide) (by decide) hc59]
                                                    refine ⟨rfl, gI_self _ _ _ _, rdF_t (rdF_i (Or.inl rfl)) (rdF_t hF3 (rdF_i (Or.inl rfl))), fun _ => ⟨?_, ?_, ?_⟩⟩
                                                    · exact fun z => absurd (hc102.symm.trans z) (by decide)
                                                    · exact fun z => absurd (hc102.symm.trans z) (by decide)
                                                    · exact fun _ => (gI_ne (Or.inl (by decide))).trans (htd3 rfl 0 (by omega)))
                                                 | (rw [stS_n hc112 hc114 hc102]; exact ⟨rfl, hp, rdF_r, fun z => by cases z⟩))
                                        · first
                                            | (exfalso; first | exact absurd h90 (by decide) | exact h90 (by decide) | (simp at h90; done))
                                            | (refine xG_run 2 rfl (by repeat' (first | exact trivial | assumption | exact xob_b rfl | exact xal_b rfl | (apply And.intro) | decide)) ?_
                                               try dsimp only [xsto1, xsto2, xkill, xget, xset, gd_0, gd_s]
                                               refine r2_z rfl rfl (by first | decide | assumption) ?_
                                               first
                                                 | (rw [stS_p hc112 hRR, rd1_f rfl]
                                                    exact ⟨rfl, hq3, rdF_t (rdF_i (Or.inl rfl)) hF3, fun z => by cases z⟩)
                                                 | (rw [stS_p hc112 hRR, rd1_cf (by decide) (by decide) hc59]
                                                    exact ⟨rfl, hq3, rdF_t (rdF_i (Or.inl rfl)) hF3, fun z => by cases z⟩)
                                                 | (rw [stS_p hc112 hRR, rd1_ct (it := 59) (by decide) (by decide) hc59]
                                                    refine ⟨rfl, gI_self _ _ _ _, rdF_t (rdF_i (Or.inl rfl)) (rdF_t hF3 (rdF_i (Or.inl rfl))), fun _ => ⟨?_, ?_, ?_⟩⟩
                                                    · exact fun _ i hi => (gI_ne (Or.inl (by decide))).trans (htd3 rfl i hi)
                                                    · exact fun z => absurd (hc112.symm.trans z) (by decide)
                                                    · exact fun z => absurd (hc112.symm.trans z) (by decide))
                                                 | (rw [stS_r hc114 hRR, rd1_f rfl]
                                                    exact ⟨rfl, hq3, rdF_t (rdF_i (Or.inl rfl)) hF3, fun z => by cases z⟩)
                                                 | (rw [stS_r hc114 hRR, rd1_cf (by decide) (by decide) hc59]
                                                    exact ⟨rfl, hq3, rdF_t (rdF_i (Or.inl rfl)) hF3, fun z => by cases z⟩)
                                                 | (rw [stS_r hc114 hRR, rd1_ct (it := 59) (by decide) (by decide) hc59]
                                                    refine ⟨rfl, gI_self _ _ _ _, rdF_t (rdF_i (Or.inl rfl)) (rdF_t hF3 (rdF_i (Or.inl rfl))), fun _ => ⟨?_, ?_, ?_⟩⟩
                                                    · exact fun z => absurd (hc114.symm.trans z) (by decide)
                                                    · exact fun _ i hi => (gI_ne (Or.inl (by decide))).trans (htd3 rfl i hi)
                                                    · exact fun z => absurd (hc114.symm.trans z) (by decide))
                                                 | (rw [stS_f hc102 hRR, rd1_f rfl]
                                                    exact ⟨rfl, hq3, rdF_t (rdF_i (Or.inl rfl)) hF3, fun z => by cases z⟩)
                                                 | (rw [stS_f hc102 hRR, rd1_cf (by decide) (by decide) hc59]
                                                    exact ⟨rfl, hq3, rdF_t (rdF_i (Or.inl rfl)) hF3, fun z => by cases z⟩)
                                                 | (rw [stS_f hc102 hRR, rd1_ct (it := 59) (by decide) (by decide) hc59]
                                                    refine ⟨rfl, gI_self _ _ _ _, rdF_t (rdF_i (Or.inl rfl)) (rdF_t hF3 (rdF_i (Or.inl rfl))), fun _ => ⟨?_, ?_, ?_⟩⟩
                                                    · exact fun z => absurd (hc102.symm.trans z) (by decide)
                                                    · exact fun z => absurd (hc102.symm.trans z) (by decide)
                                                    · exact fun _ => (gI_ne (Or.inl (by decide))).trans (htd3 rfl 0 (by omega)))
                                                 | (rw [stS_n hc112 hc114 hc102]; exact ⟨rfl, hp, rdF_r, fun z => by cases z⟩)))
                             · dsimp only [Option.toList, List.cons_append, List.nil_append]
                               have hT3 := rT_F hTa hF3
                               have hq9 : q ≤ n := by
                                 have e := rdS_le (T := T) (n := n) (l := itK false 1) (s := (true, p + 1, [], 0)) (by show p + 1 ≤ n; omega) (itK_le 1)
                                 rw [hRR] at e
                                 exact e
                               refine xG_br rfl (fun h81 => ?_) (fun h81 => ?_)
                               · first
                                   | (exfalso; first | exact absurd h81 (by decide) | exact h81 (by decide) | (simp at h81; done))
                                   | (refine xG_run 1 rfl (by repeat' (first | exact trivial | assumption | exact xob_b rfl | exact xal_b rfl | (apply And.intro) | decide)) ?_
                                      try dsimp only [xsto1, xsto2, xkill, xget, xset, gd_0, gd_s]
                                      refine r2_z rfl rfl (by first | decide | assumption) ?_
                                      first
                                        | (rw [stS_p hc112 hRR, rd1_f rfl]
                                           exact ⟨rfl, hq3, rdF_t (rdF_i (Or.inl rfl)) hF3, fun z => by cases z⟩)
                                        | (rw [stS_p hc112 hRR, rd1_cf (by decide) (by decide) hc59]
                                           exact ⟨rfl, hq3, rdF_t (rdF_i (Or.inl rfl)) hF3, fun z => by cases z⟩)
                                        | (rw [stS_p hc112 hRR, rd1_ct (it := 59) (by decide) (by decide) hc59]
                                           refine ⟨rfl, gI_self _ _ _ _, rdF_t (rdF_i (Or.inl rfl)) (rdF_t hF3 (rdF_i (Or.inl rfl))), fun _ => ⟨?_, ?_, ?_⟩⟩
                                           · exact fun _ i hi => (gI_ne (Or.inl (by decide))).trans (htd3 rfl i hi)
                                           · exact fun z => absurd (hc112.symm.trans z) (by decide)
                                           · exact fun z => absurd (hc112.symm.trans z) (by decide))
                                        | (rw [stS_r hc114 hRR, rd1_f rfl]
                                           exact ⟨rfl, hq3, rdF_t (rdF_i (Or.inl rfl)) hF3, fun z => by cases z⟩)
                                        | (rw [stS_r hc114 hRR, rd1_cf (by decide) (by decide) hc59]
                                           exact ⟨rfl, hq3, rdF_t (rdF_i (Or.inl rfl)) hF3, fun z => by cases z⟩)
                                        | (rw [stS_r hc114 hRR, rd1_ct (it := 59) (by decide) (by decide) hc59]
                                           refine ⟨rfl, gI_self _ _ _ _, rdF_t (rdF_i (Or.inl rfl)) (rdF_t hF3 (rdF_i (Or.inl rfl))), fun _ => ⟨?_, ?_, ?_⟩⟩
                                           · exact fun z => absurd (hc114.symm.trans z) (by decide)
                                           · exact fun _ i hi => (gI_ne (Or.inl (by decide))).trans (htd3 rfl i hi)
                                           · exact fun z => absurd (hc114.symm.trans z) (by decide))
                                        | (rw [stS_f hc102 hRR, rd1_f rfl]
                                           exact ⟨rfl, hq3, rdF_t (rdF_i (Or.inl rfl)) hF3, fun z => by cases z⟩)
                                        | (rw [stS_f hc102 hRR, rd1_cf (by decide) (by decide) hc59]
                                           exact ⟨rfl, hq3, rdF_t (rdF_i (Or.inl rfl)) hF3, fun z => by cases z⟩)
                                        | (rw [stS_f hc102 hRR, rd1_ct (it := 59) (by decide) (by decide) hc59]
                                           refine ⟨rfl, gI_self _ _ _ _, rdF_t (rdF_i (Or.inl rfl)) (rdF_t hF3 (rdF_i (Or.inl rfl))), fun _ => ⟨?_, ?_, ?_⟩⟩
                                           · exact fun z => absurd (hc102.symm.trans z) (by decide)
                                           · exact fun z => absurd (hc102.symm.trans z) (by decide)
                                           · exact fun _ => (gI_ne (Or.inl (by decide))).trans (htd3 rfl 0 (by omega)))
                                        | (rw [stS_n hc112 hc114 hc102]; exact ⟨rfl, hp, rdF_r, fun z => by cases z⟩))
                               · first
                                   | (exfalso; first | exact absurd h81 (by decide) | exact h81 (by decide) | (simp at h81; done))
                                   | (refine xG_run 2 rfl (by repeat' (first | exact trivial | assumption | exact xob_b rfl | exact xal_b rfl | (apply And.intro) | decide)) ?_
                                      try dsimp only [xsto1, xsto2, xkill, xget, xset, gd_0, gd_s]
                                      refine xG_c2 1 rfl (by repeat' (first | exact trivial | assumption | exact xob_b rfl | exact xal_b rfl | (apply And.intro) | decide)) rfl rfl (by decide) cw_X12_takes (d' := d - 1) (e_takes (p := q) (c := 59) hT3 hq3 (by omega) (by omega)) (by omega) ?_
                                      rintro v M4 (⟨hc59, rfl, rfl⟩ | ⟨hc59, rfl, rfl⟩)
                                      · dsimp only [Option.toList, List.cons_append, List.nil_append]
                                        refine xG_br rfl (fun h90 => ?_) (fun h90 => ?_)
                                        · first
                                            | (exfalso; first | exact absurd h90 (by decide) | exact h90 (by decide) | (simp at h90; done))
                                            | (refine xG_run 1 rfl (by repeat' (first | exact trivial | assumption | exact xob_b rfl | exact xal_b rfl | (apply And.intro) | decide)) ?_
                                               try dsimp only [xsto1, xsto2, xkill, xget, xset, gd_0, gd_s]
                                               refine r2_z rfl rfl (by first | decide | assumption) ?_
                                               first
                                                 | (rw [stS_p hc112 hRR, rd1_f rfl]
                                                    exact ⟨rfl, hq3, rdF_t (rdF_i (Or.inl rfl)) hF3, fun z => by cases z⟩)
                                                 | (rw [stS_p hc112 hRR, rd1_cf (by decide) (by decide) hc59]
                                                    exact ⟨rfl, hq3, rdF_t (rdF_i (Or.inl rfl)) hF3, fun z => by cases z⟩)
                                                 | (rw [stS_p hc112 hRR, rd1_ct (it := 59) (by decide) (by decide) hc59]
                                                    refine ⟨rfl, gI_self _ _ _ _, rdF_t (rdF_i (Or.inl rfl)) (rdF_t hF3 (rdF_i (Or.inl rfl))), fun _ => ⟨?_, ?_, ?_⟩⟩
                                                    · exact fun _ i hi => (gI_ne (Or.inl (by decide))).trans (htd3 rfl i hi)
                                                    · exact fun z => absurd (hc112.symm.trans z) (by decide)
                                                    · exact fun z => absurd (hc112.symm.trans z) (by decide))
                                                 | (rw [stS_r hc114 hRR, rd1_f rfl]
                                                    exact ⟨rfl, hq3, rdF_t (rdF_i (Or.inl rfl)) hF3, fun z => by cases z⟩)
                                                 | (rw [stS_r hc114 hRR, rd1_cf (by decide) (by decide) hc59]
                                                    exact ⟨rfl, hq3, rdF_t (rdF_i (Or.inl rfl)) hF3, fun z => by cases z⟩)
                                                 | (rw [stS_r hc114 hRR, rd1_ct (it := 59) (by decide) (by decide) hc59]
                                                    refine ⟨rfl, gI_self _ _ _ _, rdF_t (rdF_i (Or.inl rfl)) (rdF_t hF3 (rdF_i (Or.inl rfl))), fun _ => ⟨?_, ?_, ?_⟩⟩
                                                    · exact fun z => absurd (hc114.symm.trans z) (by decide)
                                                    · exact fun _ i hi => (gI_ne (Or.inl (by decide))).trans (htd3 rfl i hi)
                                                    · exact fun z => absurd (hc114.symm.trans z) (by decide))
                                                 | (rw [stS_f hc102 hRR, rd1_f rfl]
                                                    exact ⟨rfl, hq3, rdF_t (rdF_i (Or.inl rfl)) hF3, fun z => by cases z⟩)
                                                 | (rw [stS_f hc102 hRR, rd1_cf (by decide) (by decide) hc59]
                                                    exact ⟨rfl, hq3, rdF_t (rdF_i (Or.inl rfl)) hF3, fun z => by cases z⟩)
                                                 | (rw [stS_f hc102 hRR, rd1_ct (it := 59) (by decide) (by decide) hc59]
                                                    refine ⟨rfl, gI_self _ _ _ _, rdF_t (rdF_i (Or.inl rfl)) (rdF_t hF3 (rdF_i (Or.inl rfl))), fun _ => ⟨?_, ?_, ?_⟩⟩
                                                    · exact fun z => absurd (hc102.symm.trans z) (by decide)
                                                    · exact fun z => absurd (hc102.symm.trans z) (by decide)
                                                    · exact fun _ => (gI_ne (Or.inl (by decide))).trans (htd3 rfl 0 (by omega)))
                                                 | (rw [stS_n hc112 hc114 hc102]; exact ⟨rfl, hp, rdF_r, fun z => by cases z⟩))
                                        · first
                                            | (exfalso; first | exact absurd h90 (by decide) | exact h90 (by decide) | (simp at h90; done))
                                            | (refine xG_run 2 rfl (by repeat' (first | exact trivial | assumption | exact xob_b rfl | exact xal_b rfl | (apply And.intro) | decide)) ?_
                                               try dsimp only [xsto1, xsto2, xkill, xget, xset, gd_0, gd_s]
                                               refine r2_z rfl rfl (by first | decide | assumption) ?_
                                               first
                                                 | (rw [stS_p hc112 hRR, rd1_f rfl]
                                                    exact ⟨rfl, hq3, rdF_t (rdF_i (Or.inl rfl)) hF3, fun z => by cases z⟩)
                                                 | (rw [stS_p hc112 hRR, rd1_cf (by decide) (by decide) hc59]
                                                    exact ⟨rfl, hq3, rdF_t (rdF_i (Or.inl rfl)) hF3, fun z => by cases z⟩)
                                                 | (rw [stS_p hc112 hRR, rd1_ct (it := 59) (by decide) (by decide) hc59]
                                                    refine ⟨rfl, gI_self _ _ _ _, rdF_t (rdF_i (Or.inl rfl)) (rdF_t hF3 (rdF_i (Or.inl rfl))), fun _ => ⟨?_, ?_, ?_⟩⟩
                                                    · exact fun _ i hi => (gI_ne (Or.inl (by decide))).trans (htd3 rfl i hi)
                                                    · exact fun z => absurd (hc112.symm.trans z) (by decide)
                                                    · exact fun z => absurd (hc112.symm.trans z) (by decide))
                                                 | (rw [stS_r hc114 hRR, rd1_f rfl]
                                                    exact ⟨rfl, hq3, rdF_t (rdF_i (Or.inl rfl)) hF3, fun z => by cases z⟩)
                                                 | (rw [stS_r hc114 hRR, rd1_cf (by decide) (by decide) hc59]
                                                    exact ⟨rfl, hq3, rdF_t (rdF_i (Or.inl rfl)) hF3, fun z => by cases z⟩)
                                                 | (rw [stS_r hc114 hRR, rd1_ct (it := 59) (by decide) (by decide) hc59]
                                                    refine ⟨rfl, gI_self _ _ _ _, rdF_t (rdF_i (Or.inl rfl)) (rdF_t hF3 (rdF_i (Or.inl rfl))), fun _ => ⟨?_, ?_, ?_⟩⟩
                                                    · exact fun z => absurd (hc114.symm.trans z) (by decide)
                                                    · exact fun _ i hi => (gI_ne (Or.inl (by decide))).trans (htd3 rfl i hi)
                                                    · exact fun z => absurd (hc114.symm.trans z) (by decide))
                                                 | (rw [stS_f hc102 hRR, rd1_f rfl]
                                                    exact ⟨rfl, hq3, rdF_t (rdF_i (Or.inl rfl)) hF3, fun z => by cases z⟩)
                                                 | (rw [stS_f hc102 hRR, rd1_cf (by decide) (by decide) hc59]
                                                    exact ⟨rfl, hq3, rdF_t (rdF_i (Or.inl rfl)) hF3, fun z => by cases z⟩)
                                                 | (rw [stS_f hc102 hRR, rd1_ct (it := 59) (by decide) (by decide) hc59]
                                                    refine ⟨rfl, gI_self _ _ _ _, rdF_t (rdF_i (Or.inl rfl)) (rdF_t hF3 (rdF_i (Or.inl rfl))), fun _ => ⟨?_, ?_, ?_⟩⟩
                                                    · exact fun z => absurd (hc102.symm.trans z) (by decide)
                                                    · exact fun z => absurd (hc102.symm.trans z) (by decide)
                                                    · exact fun _ => (gI_ne (Or.inl (by decide))).trans (htd3 rfl 0 (by omega)))
                                                 | (rw [stS_n hc112 hc114 hc102]; exact ⟨rfl, hp, rdF_r, fun z => by cases z⟩))
                                      · dsimp only [Option.toList, List.cons_append, List.nil_append]
                                        refine xG_br rfl (fun h90 => ?_) (fun h90 => ?_)
                                        · first
                                            | (exfalso; first | exact absurd h90 (by decide) | exact h90 (by decide) | (simp at h90; done))
                                            | (refine xG_run 1 rfl (by repeat' (first | exact trivial | assumption | exact xob_b rfl | exact xal_b rfl | (apply And.intro) | decide)) ?_
                                               try dsimp only [xsto1, xsto2, xkill, xget, xset, gd_0, gd_s]
                                               refine r2_z rfl rfl (by first | decide | assumption) ?_
                                               first
                                                 | (rw [stS_p hc112 hRR, rd1_f rfl]
                                                    exact ⟨rfl, hq3, rdF_t (rdF_i (Or.inl rfl)) hF3, fun z => by cases z⟩)
                                                 | (rw [stS_p hc112 hRR, rd1_cf (by decide) (by decide) hc59]
                                                    exact ⟨rfl, hq3, rdF_t (rdF_i (Or.inl rfl)) hF3, fun z => by cases z⟩)
                                                 | (rw [stS_p hc112 hRR, rd1_ct (it := 59) (by decide) (by decide) hc59]
                                                    refine ⟨rfl, gI_self _ _ _ _, rdF_t (rdF_i (Or.inl rfl)) (rdF_t hF3 (rdF_i (Or.inl rfl))), fun _ => ⟨?_, ?_, ?_⟩⟩
                                                    · exact fun _ i hi => (gI_ne (Or.inl (by decide))).trans (htd3 rfl i hi)
                                                    · exact fun z => absurd (hc112.symm.trans z) (by decide)
                                                    · exact fun z => absurd (hc112.symm.trans z) (by decide))
                                                 | (rw [stS_r hc114 hRR, rd1_f rfl]
                                                    exact ⟨rfl, hq3, rdF_t (rdF_i (Or.inl rfl)) hF3, fun z => by cases z⟩)
                                                 | (rw [stS_r hc114 hRR, rd1_cf (by decide) (by decide) hc59]
                                                    exact ⟨rfl, hq3, rdF_t (rdF_i (Or.inl rfl)) hF3, fun z => by cases z⟩)
                                                 | (rw [stS_r hc114 hRR, rd1_ct (it := 59) (by decide) (by decide) hc59]
                                                    refine ⟨rfl, gI_self _ _ _ _, rdF_t (rdF_i (Or.inl rfl)) (rdF_t hF3 (rdF_i (Or.inl rfl))), fun _ => ⟨?_, ?_, ?_⟩⟩
                                                    · exact fun z => absurd (hc114.symm.trans z) (by decide)
                                                    · exact fun _ i hi => (gI_ne (Or.inl (by decide))).trans (htd3 rfl i hi)
                                                    · exact fun z => absurd (hc114.symm.trans z) (by decide))
                                                 | (rw [stS_f hc102 hRR, rd1_f rfl]
                                                    exact ⟨rfl, hq3, rdF_t (rdF_i (Or.inl rfl)) hF3, fun z => by cases z⟩)
                                                 | (rw [stS_f hc102 hRR, rd1_cf (by decide) (by decide) hc59]
                                                    exact ⟨rfl, hq3, rdF_t (rdF_i (Or.inl rfl)) hF3, fun z => by cases z⟩)
                                                 | (rw [stS_f hc102 hRR, rd1_ct (it := 59) (by decide) (by decide) hc59]
                                                    refine ⟨rfl, gI_self _ _ _ _, rdF_t (rdF_i (Or.inl rfl)) (rdF_t hF3 (rdF_i (Or.inl rfl))), fun _ => ⟨?_, ?_, ?_⟩⟩
                                                    · exact fun z => absurd (hc102.symm.trans z) (by decide)
                                                    · exact fun z => absurd (hc102.symm.trans z) (by decide)
                                                    · exact fun _ => (gI_ne (Or.inl (by decide))).trans (htd3 rfl 0 (by omega)))
                                                 | (rw [stS_n hc112 hc114 hc102]; exact ⟨rfl, hp, rdF_r, fun z => by cases z⟩))
                                        · first
                                            | (exfalso; first | exact absurd h90 (by decide) | exact h90 (by decide) | (simp at h90; done))
                                            | (refine xG_run 2 rfl (by repeat' (first | exact trivial | assumption | exact xob_b rfl | exact xal_b rfl | (apply And.intro) | decide)) ?_
                                               try dsimp only [xsto1, xsto2, xkill, xget, xset, gd_0, gd_s]
                                               refine r2_z rfl rfl (by first | decide | assumption) ?_
                                               first
                                                 | (rw [stS_p hc112 hRR, rd1_f rfl]
                                                    exact ⟨rfl, hq3, rdF_t (rdF_i (Or.inl rfl)) hF3, fun z => by cases z⟩)
                                                 | (rw [stS_p hc112 hRR, rd1_cf (by decide) (by decide) hc59]
                                                    exact ⟨rfl, hq3, rdF_t (rdF_i (Or.inl rfl)) hF3, fun z => by cases z⟩)
                                                 | (rw [stS_p hc112 hRR, rd1_ct (it := 59) (by decide) (by decide) hc59]
                                                    refine ⟨rfl, gI_self _ _ _ _, rdF_t (rdF_i (Or.inl rfl)) (rdF_t hF3 (rdF_i (Or.inl rfl))), fun _ => ⟨?_, ?_, ?_⟩⟩
                                                    · exact fun _ i hi => (gI_ne (Or.inl (by decide))).trans (htd3 rfl i hi)
                                                    · exact fun z => absurd (hc112.symm.trans z) (by decide)
                                                    · exact fun z => absurd (hc112.symm.trans z) (by decide))
                                                 | (rw [stS_r hc114 hRR, rd1_f rfl]
                                                    exact ⟨rfl, hq3, rdF_t (rdF_i (Or.inl rfl)) hF3, fun z => by cases z⟩)
                                                 | (rw [stS_r hc114 hRR, rd1_cf (by decide) (by decide) hc59]
                                                    exact ⟨rfl, hq3, rdF_t (rdF_i (Or.inl rfl)) hF3, fun z => by cases z⟩)
                                                 | (rw [stS_r hc114 hRR, rd1_ct (it := 59) (by decide) (by decide) hc59]
                                                    refine ⟨rfl, gI_self _ _ _ _, rdF_t (rdF_i (Or.inl rfl)) (rdF_t hF3 (rdF_i (Or.inl rfl))), fun _ => ⟨?_, ?_, ?_⟩⟩
                                                    · exact fun z => absurd (hc114.symm.trans z) (by decide)
                                                    · exact fun _ i hi => (gI_ne (Or.inl (by decide))).trans (htd3 rfl i hi)
                                                    · exact fun z => absurd (hc114.symm.trans z) (by decide))
                                                 | (rw [stS_f hc102 hRR, rd1_f rfl]
                                                    exact ⟨rfl, hq3, rdF_t (rdF_i (Or.inl rfl)) hF3, fun z => by cases z⟩)
                                                 | (rw [stS_f hc102 hRR, rd1_cf (by decide) (by decide) hc59]
                                                    exact ⟨rfl, hq3, rdF_t (rdF_i (Or.inl rfl)) hF3, fun z => by cases z⟩)
                                                 | (rw [stS_f hc102 hRR, rd1_ct (it := 59) (by decide) (by decide) hc59]
                                                    refine ⟨rfl, gI_self _ _ _ _, rdF_t (rdF_i (Or.inl rfl)) (rdF_t hF3 (rdF_i (Or.inl rfl))), fun _ => ⟨?_, ?_, ?_⟩⟩
                                                    · exact fun z => absurd (hc102.symm.trans z) (by decide)
                                                    · exact fun z => absurd (hc102.symm.trans z) (by decide)
                                                    · exact fun _ => (gI_ne (Or.inl (by decide))).trans (htd3 rfl 0 (by omega)))
                                                 | (rw [stS_n hc112 hc114 hc102]; exact ⟨rfl, hp, rdF_r, fun z => by cases z⟩))))
                    · dsimp only [Option.toList, List.cons_append, List.nil_append]
                      refine xG_br rfl (fun h72 => ?_) (fun h72 => ?_)
                      · first
                          | (exfalso; first | exact absurd h72 (by decide) | exact h72 (by decide) | (simp at h72; done))
                          | (refine xG_run 1 rfl (by repeat' (first | exact trivial | assumption | exact xob_b rfl | exact xal_b rfl | (apply And.intro) | decide)) ?_
                             try dsimp only [xsto1, xsto2, xkill, xget, xset, gd_0, gd_s]
                             refine r2_z rfl rfl (by first | decide | assumption) ?_
                             first
                               | (rw [stS_p hc112 hRR, rd1_f rfl]
                                  exact ⟨rfl, hq3, rdF_t (rdF_i (Or.inl rfl)) hF3, fun z => by cases z⟩)
                               | (rw [stS_p hc112 hRR, rd1_cf (by decide) (by decide) hc59]
                                  exact ⟨rfl, hq3, rdF_t (rdF_i (Or.inl rfl)) hF3, fun z => by cases z⟩)
                               | (rw [stS_p hc112 hRR, rd1_ct (it := 59) (by decide) (by decide) hc59]
                                  refine ⟨rfl, gI_self _ _ _ _, rdF_t (rdF_i (Or.inl rfl)) (rdF_t hF3 (rdF_i (Or.inl rfl))), fun _ => ⟨?_, ?_, ?_⟩⟩
                                  · exact fun _ i hi => (gI_ne (Or.inl (by decide))).trans (htd3 rfl i hi)
                                  · exact fun z => absurd (hc112.symm.trans z) (by decide)
                                  · exact fun z => absurd (hc112.symm.trans z) (by decide))
                               | (rw [stS_r hc114 hRR, rd1_f rfl]
                                  exact ⟨rfl, hq3, rdF_t (rdF_i (Or.inl rfl)) hF3, fun z => by cases z⟩)
                               | (rw [stS_r hc114 hRR, rd1_cf (by decide) (by decide) hc59]
                                  exact ⟨rfl, hq3, rdF_t (rdF_i (Or.inl rfl)) hF3, fun z => by cases z⟩)
                               | (rw [stS_r hc114 hRR, rd1_ct (it := 59) (by decide) (by decide) hc59]
                                  refine ⟨rfl, gI_self _ _ _ _, rdF_t (rdF_i (Or.inl rfl)) (rdF_t hF3 (rdF_i (Or.inl rfl))), fun _ => ⟨?_, ?_, ?_⟩⟩
                                  · exact fun z => absurd (hc114.symm.trans z) (by decide)
                                  · exact fun _ i hi => (gI_ne (Or.inl (by decide))).trans (htd3 rfl i hi)
                                  · exact fun z => absurd (hc114.symm.trans z) (by decide))
                               | (rw [stS_f hc102 hRR, rd1_f rfl]
                                  exact ⟨rfl, hq3, rdF_t (rdF_i (Or.inl rfl)) hF3, fun z => by cases z⟩)
                               | (rw [stS_f hc102 hRR, rd1_cf (by decide) (by decide) hc59]
                                  exact ⟨rfl, hq3, rdF_t (rdF_i (Or.inl rfl)) hF3, fun z => by cases z⟩)
                               | (rw [stS_f hc102 hRR, rd1_ct (it := 59) (by decide) (by decide) hc59]
                                  refine ⟨rfl, gI_self _ _ _ _, rdF_t (rdF_i (Or.inl rfl)) (rdF_t hF3 (rdF_i (Or.inl rfl))), fun _ => ⟨?_, ?_, ?_⟩⟩
                                  · exact fun z => absurd (hc102.symm.trans z) (by decide)
                                  · exact fun z => absurd (hc102.symm.trans z) (by decide)
                                  · exact fun _ => (gI_ne (Or.inl (by decide))).trans (htd3 rfl 0 (by omega)))
                               | (rw [stS_n hc112 hc114 hc102]; exact ⟨rfl, hp, rdF_r, fun z => by cases z⟩))
                      · first
                          | (exfalso; first | exact absurd h72 (by decide) | exact h72 (by decide) | (simp at h72; done))
                          | (refine xG_run 3 rfl (by repeat' (first | exact trivial | assumption | exact xob_b rfl | exact xal_b rfl | (apply And.intro) | decide)) ?_
                             try dsimp only [xsto1, xsto2, xkill, xget, xset, gd_0, gd_s]
                             refine xG_c2 2 rfl (by repeat' (first | exact trivial | assumption | exact xob_b rfl | exact xal_b rfl | (apply And.intro) | decide)) rfl rfl (by decide) cw_X12_readsNumbers (d' := d - 1) (e_readsNumbersU (m := 1) (p := p + 1) (sv := 0) hTa (gI_self _ _ _ _) (by omega) (by omega) (by omega)) (by omega) ?_
                             rintro v M3 ⟨rfl, hq3, hF3, htd3⟩
                             rcases hRR : rdS T n (itK false 1) (true, p + 1, [], 0) with ⟨ok, q, l, sx⟩
                             try rw [hRR] at hq3 htd3
                             dsimp only at hq3 htd3
                             cases ok
                             · dsimp only [Option.toList, List.cons_append, List.nil_append]
                               refine xG_br rfl (fun h81 => ?_) (fun h81 => ?_)
                               · first
                                   | (exfalso; first | exact absurd h81 (by decide) | exact h81 (by decide) | (simp at h81; done))
                                   | (refine xG_run 1 rfl (by repeat' (first | exact trivial | assumption | exact xob_b rfl | exact xal_b rfl | (apply And.intro) | decide)) ?_
                                      try dsimp only [xsto1, xsto2, xkill, xget, xset, gd_0, gd_s]
                                      refine r2_z rfl rfl (by first | decide | assumption) ?_
                                      first
                                        | (rw [stS_p hc112 hRR, rd1_f rfl]
                                           exact ⟨rfl, hq3, rdF_t (rdF_i (Or.inl rfl)) hF3, fun z => by cases z⟩)
                                        | (rw [stS_p hc112 hRR, rd1_cf (by decide) (by decide) hc59]
                                           exact ⟨rfl, hq3, rdF_t (rdF_i (Or.inl rfl)) hF3, fun z => by cases z⟩)
                                        | (rw [stS_p hc112 hRR, rd1_ct (it := 59) (by decide) (by decide) hc59]
                                           refine ⟨rfl, gI_self _ _ _ _, rdF_t (rdF_i (Or.inl rfl)) (rdF_t hF3 (rdF_i (Or.inl rfl))), fun _ => ⟨?_, ?_, ?_⟩⟩
                                           · exact fun _ i hi => (gI_ne (Or.inl (by decide))).trans (htd3 rfl i hi)
                                           · exact fun z => absurd (hc112.symm.trans z) (by decide)
                                           · exact fun z => absurd (hc112.symm.trans z) (by decide))
                                        | (rw [stS_r hc114 hRR, rd1_f rfl]
                                           exact ⟨rfl, hq3, rdF_t (rdF_i (Or.inl rfl)) hF3, fun z => by cases z⟩)
                                        | (rw [stS_r hc114 hRR, rd1_cf (by decide) (by decide) hc59]
                                           exact ⟨rfl, hq3, rdF_t (rdF_i (Or.inl rfl)) hF3, fun z => by cases z⟩)
                                        | (rw [stS_r hc114 hRR, rd1_ct (it := 59) (by decide) (by decide) hc59]
                                           refine ⟨rfl, gI_self _ _ _ _, rdF_t (rdF_i (Or.inl rfl)) (rdF_t hF3 (rdF_i (Or.inl rfl))), fun _ => ⟨?_, ?_, ?_⟩⟩
                                           · exact fun z => absurd (hc114.symm.trans z) (by decide)
                                           · exact fun _ i hi => (gI_ne (Or.inl (by decide))).trans (htd3 rfl i hi)
                                           · exact fun z => absurd (hc114.symm.trans z) (by decide))
                                        | (rw [stS_f hc102 hRR, rd1_f rfl]
                                           exact ⟨rfl, hq3, rdF_t (rdF_i (Or.inl rfl)) hF3, fun z => by cases z⟩)
                                        | (rw [stS_f hc102 hRR, rd1_cf (by decide) (by decide) hc59]
                                           exact ⟨rfl, hq3, rdF_t (rdF_i (Or.inl rfl)) hF3, fun z => by cases z⟩)
                                        | (rw [stS_f hc102 hRR, rd1_ct (it := 59) (by decide) (by decide) hc59]
                                           refine ⟨rfl, gI_self _ _ _ _, rdF_t (rdF_i (Or.inl rfl)) (rdF_t hF3 (rdF_i (Or.inl rfl))), fun _ => ⟨?_, ?_, ?_⟩⟩
                                           · exact fun z => absurd (hc102.symm.trans z) (by decide)
                                           · exact fun z => absurd (hc102.symm.trans z) (by decide)
                                           · exact fun _ => (gI_ne (Or.inl (by decide))).trans (htd3 rfl 0 (by omega)))
                                        | (rw [stS_n hc112 hc114 hc102]; exact ⟨rfl, hp, rdF_r, fun z => by cases z⟩))
                               · first
                                   | (exfalso; first | exact absurd h81 (by decide) | exact h81 (by decide) | (simp at h81; done))
                                   | (refine xG_run 2 rfl (by repeat' (first | exact trivial | assumption | exact xob_b rfl | exact xal_b rfl | (apply And.intro) | decide)) ?_
                                      try dsimp only [xsto1, xsto2, xkill, xget, xset, gd_0, gd_s]
                                      refine xG_c2 1 rfl (by repeat' (first | exact trivial | assumption | exact xob_b rfl | exact xal_b rfl | (apply And.intro) | decide)) rfl rfl (by decide) cw_X12_takes (d' := d - 1) (e_takes (p := q) (c := 59) hT3 hq3 (by omega) (by omega)) (by omega) ?_
                                      rintro v M4 (⟨hc59, rfl, rfl⟩ | ⟨hc59, rfl, rfl⟩)
                                      · dsimp only [Option.toList, List.cons_append, List.nil_append]
                                        refine xG_br rfl (fun h90 => ?_) (fun h90 => ?_)
                                        · first
                                            | (exfalso; first | exact absurd h90 (by decide) | exact h90 (by decide) | (simp at h90; done))
                                            | (refine xG_run 1 rfl (by repeat' (first | exact trivial | assumption | exact xob_b rfl | exact xal_b rfl | (apply And.intro) | decide)) ?_
                                               try dsimp only [xsto1, xsto2, xkill, xget, xset, gd_0, gd_s]
                                               refine r2_z rfl rfl (by first | decide | assumption) ?_
                                               first
                                                 | (rw [stS_p hc112 hRR, rd1_f rfl]
                                                    exact ⟨rfl, hq3, rdF_t (rdF_i (Or.inl rfl)) hF3, fun z => by cases z⟩)
                                                 | (rw [stS_p hc112 hRR, rd1_cf (by decide) (by decide) hc59]
                                                    exact ⟨rfl, hq3, rdF_t (rdF_i (Or.inl rfl)) hF3, fun z => by cases z⟩)
                                                 | (rw [stS_p hc112 hRR, rd1_ct (it := 59) (by decide) (by decide) hc59]
                                                    refine ⟨rfl, gI_self _ _ _ _, rdF_t (rdF_i (Or.inl rfl)) (rdF_t hF3 (rdF_i (Or.inl rfl))), fun _ => ⟨?_, ?_, ?_⟩⟩
                                                    · exact fun _ i hi => (gI_ne (Or.inl (by decide))).trans (htd3 rfl i hi)
                                                    · exact fun z => absurd (hc112.symm.trans z) (by decide)
                                                    · exact fun z => absurd (hc112.symm.trans z) (by decide))
                                                 | (rw [stS_r hc114 hRR, rd1_f rfl]
                                                    exact ⟨rfl, hq3, rdF_t (rdF_i (Or.inl rfl)) hF3, fun z => by cases z⟩)
                                                 | (rw [stS_r hc114 hRR, rd1_cf (by decide) (by decide) hc59]
                                                    exact ⟨rfl, hq3, rdF_t (rdF_i (Or.inl rfl)) hF3, fun z => by cases z⟩)
                                                 | (rw [stS_r hc114 hRR, rd1_ct (it := 59) (by decide) (by decide) hc59]
                                                    refine ⟨rfl, gI_self _ _ _ _, rdF_t (rdF_i (Or.inl rfl)) (rdF_t hF3 (rdF_i (Or.inl rfl))), fun _ => ⟨?_, ?_, ?_⟩⟩
                                                    · exact fun z => absurd (hc114.symm.trans z) (by decide)
                                                    · exact fun _ i hi => (gI_ne (Or.inl (by decide))).trans (htd3 rfl i hi)
                                                    · exact fun z => absurd (hc114.symm.trans z) (by decide))
                                                 | (rw [stS_f hc102 hRR, rd1_f rfl]
                                                    exact ⟨rfl, hq3, rdF_t (rdF_i (Or.inl rfl)) hF3, fun z => by cases z⟩)
                                                 | (rw [stS_f hc102 hRR, rd1_cf (by decide) (by decide) hc59]
                                                    exact ⟨rfl, hq3, rdF_t (rdF_i (Or.inl rfl)) hF3, fun z => by cases z⟩)
                                                 | (rw [stS_f hc102 hRR, rd1_ct (it := 59) (by decide) (by decide) hc59]
                                                    refine ⟨rfl, gI_self _ _ _ _, rdF_t (rdF_i (Or.inl rfl)) (rdF_t hF3 (rdF_i (Or.inl rfl))), fun _ => ⟨?_, ?_, ?_⟩⟩
                                                    · exact fun z => absurd (hc102.symm.trans z) (by decide)
                                                    · exact fun z => absurd (hc102.symm.trans z) (by decide)
                                                    · exact fun _ => (gI_ne (Or.inl (by decide))).trans (htd3 rfl 0 (by omega)))
                                                 | (rw [stS_n hc112 hc114 hc102]; exact ⟨rfl, hp, rdF_r, fun z => by cases z⟩))
                                        · first
                                            | (exfalso; first | exact absurd h90 (by decide) | exact h90 (by decide) | (simp at h90; done))
                                            | (refine xG_run 2 rfl (by repeat' (first | exact trivial | assumption | exact xob_b rfl | exact xal_b rfl | (apply And.intro) | decide)) ?_
                                               try dsimp only [xsto1, xsto2, xkill, xget, xset, gd_0, gd_s]
                                               refine r2_z rfl rfl (by first | decide | assumption) ?_
                                               first
                                                 | (rw [stS_p hc112 hRR, rd1_f rfl]
                                                    exact ⟨rfl, hq3, rdF_t (rdF_i (Or.inl rfl)) hF3, fun z => by cases z⟩)
                                                 | (rw [stS_p hc112 hRR, rd1_cf (by decide) (by decide) hc59]
                                                    exact ⟨rfl, hq3, rdF_t (rdF_i (Or.inl rfl)) hF3, fun z => by cases z⟩)
                                                 | (rw [stS_p hc112 hRR, rd1_ct (it := 59) (by decide) (by decide) hc59]
                                                    refine ⟨rfl, gI_self _ _ _ _, rdF_t (rdF_i (Or.inl rfl)) (rdF_t hF3 (rdF_i (Or.inl rfl))), fun _ => ⟨?_, ?_, ?_⟩⟩
                                                    · exact fun _ i hi => (gI_ne (Or.inl (by decide))).trans (htd3 rfl i hi)
                                                    · exact fun z => absurd (hc112.symm.trans z) (by decide)
                                                    · exact fun z => absurd (hc112.symm.trans z) (by decide))
                                                 | (rw [stS_r hc114 hRR, rd1_f rfl]
                                                    exact ⟨rfl, hq3, rdF_t (rdF_i (Or.inl rfl)) hF3, fun z => by cases z⟩)
                                                 | (rw [stS_r hc114 hRR, rd1_cf (by decide) (by decide) hc59]
                                                    exact ⟨rfl, hq3, rdF_t (rdF_i (Or.inl rfl)) hF3, fun z => by cases z⟩)
                                                 | (rw [stS_r hc114 hRR, rd1_ct (it := 59) (by decide) (by decide) hc59]
                                                    refine ⟨rfl, gI_self _ _ _ _, rdF_t (rdF_i (Or.inl rfl)) (rdF_t hF3 (rdF_i (Or.inl rfl))), fun _ => ⟨?_, ?_, ?_⟩⟩
                                                    · exact fun z => absurd (hc114.symm.trans z) (by decide)
                                                    · exact fun _ i hi => (gI_ne (Or.inl (by decide))).trans (htd3 rfl i hi)
                                                    · exact fun z => absurd (hc114.symm.trans z) (by decide))
                                                 | (rw [stS_f hc102 hRR, rd1_f rfl]
                                                    exact ⟨rfl, hq3, rdF_t (rdF_i (Or.inl rfl)) hF3, fun z => by cases z⟩)
                                                 | (rw [stS_f hc102 hRR, rd1_cf (by decide) (by decide) hc59]
                                                    exact ⟨rfl, hq3, rdF_t (rdF_i (Or.inl rfl)) hF3, fun z => by cases z⟩)
                                                 | (rw [stS_f hc102 hRR, rd1_ct (it := 59) (by decide) (by decide) hc59]
                                                    refine ⟨rfl, gI_self _ _ _ _, rdF_t (rdF_i (Or.inl rfl)) (rdF_t hF3 (rdF_i (Or.inl rfl))), fun _ => ⟨?_, ?_, ?_⟩⟩
                                                    · exact fun z => absurd (hc102.symm.trans z) (by decide)
                                                    · exact fun z => absurd (hc102.symm.trans z) (by decide)
                                                    · exact fun _ => (gI_ne (Or.inl (by decide))).trans (htd3 rfl 0 (by omega)))
                                                 | (rw [stS_n hc112 hc114 hc102]; exact ⟨rfl, hp, rdF_r, fun z => by cases z⟩))
                                      · dsimp only [Option.toList, List.cons_append, List.nil_append]
                                        refine xG_br rfl (fun h90 => ?_) (fun h90 => ?_)
                                        · first
                                            | (exfalso; first | exact absurd h90 (by decide) | exact h90 (by decide) | (simp at h90; done))
                                            | (refine xG_run 1 rfl (by repeat' (first | exact trivial | assumption | exact xob_b rfl | exact xal_b rfl | (apply And.intro) | decide)) ?_
                                               try dsimp only [xsto1, xsto2, xkill, xget, xset, gd_0, gd_s]
                                               refine r2_z rfl rfl (by first | decide | assumption) ?_
                                               first
                                                 | (rw [stS_p hc112 hRR, rd1_f rfl]
                                                    exact ⟨rfl, hq3, rdF_t (rdF_i (Or.inl rfl)) hF3, fun z => by cases z⟩)
                                                 | (rw [stS_p hc112 hRR, rd1_cf (by decide) (by decide) hc59]
                                                    exact ⟨rfl, hq3, rdF_t (rdF_i (Or.inl rfl)) hF3, fun z => by cases z⟩)
                                                 | (rw [stS_p hc112 hRR, rd1_ct (it := 59) (by decide) (by decide) hc59]
                                                    refine ⟨rfl, gI_self _ _ _ _, rdF_t (rdF_i (Or.inl rfl)) (rdF_t hF3 (rdF_i (Or.inl rfl))), fun _ => ⟨?_, ?_, ?_⟩⟩
                                                    · exact fun _ i hi => (gI_ne (Or.inl (by decide))).trans (htd3 rfl i hi)
                                                    · exact fun z => absurd (hc112.symm.trans z) (by decide)
                                                    · exact fun z => absurd (hc112.symm.trans z) (by decide))
                                                 | (rw [stS_r hc114 hRR, rd1_f rfl]
                                                    exact ⟨rfl, hq3, rdF_t (rdF_i (Or.inl rfl)) hF3, fun z => by cases z⟩)
                                                 | (rw [stS_r hc114 hRR, rd1_cf (by decide) (by decide) hc59]
                                                    exact ⟨rfl, hq3, rdF_t (rdF_i (Or.inl rfl)) hF3, fun z => by cases z⟩)
                                                 | (rw [stS_r hc114 hRR, rd1_ct (it := 59) (by decide) (by decide) hc59]
                                                    refine ⟨rfl, gI_self _ _ _ _, rdF_t (rdF_i (Or.inl rfl)) (rdF_t hF3 (rdF_i (Or.inl rfl))), fun _ => ⟨?_, ?_, ?_⟩⟩
                                                    · exact fun z => absurd (hc114.symm.trans z) (by decide)
                                                    · exact fun _ i hi => (gI_ne (Or.inl (by decide))).trans (htd3 rfl i hi)
                                                    · exact fun z => absurd (hc114.symm.trans z) (by decide))
                                                 | (rw [stS_f hc102 hRR, rd1_f rfl]
                                                    exact ⟨rfl, hq3, rdF_t (rdF_i (Or.inl rfl)) hF3, fun z => by cases z⟩)
                                                 | (rw [stS_f hc102 hRR, rd1_cf (by decide) (by decide) hc59]
                                                    exact ⟨rfl, hq3, rdF_t (rdF_i (Or.inl rfl)) hF3, fun z => by cases z⟩)
                                                 | (rw [stS_f hc102 hRR, rd1_ct (it := 59) (by decide) (by decide) hc59]
                                                    refine ⟨rfl, gI_self _ _ _ _, rdF_t (rdF_i (Or.inl rfl)) (rdF_t hF3 (rdF_i (Or.inl rfl))), fun _ => ⟨?_, ?_, ?_⟩⟩
                                                    · exact fun z => absurd (hc102.symm.trans z) (by decide)
                                                    · exact fun z => absurd (hc102.symm.trans z) (by decide)
                                                    · exact fun _ => (gI_ne (Or.inl (by decide))).trans (htd3 rfl 0 (by omega)))
                                                 | (rw [stS_n hc112 hc114 hc102]; exact ⟨rfl, hp, rdF_r, fun z => by cases z⟩))
                                        · first
                                            | (exfalso; first | exact absurd h90 (by decide) | exact h90 (by decide) | (simp at h90; done))
                                            | (refine xG_run 2 rfl (by repeat' (first | exact trivial | assumption | exact xob_b rfl | exact xal_b rfl | (apply And.intro) | decide)) ?_
                                               try dsimp only [xsto1, xsto2, xkill, xget, xset, gd_0, gd_s]
                                               refine r2_z rfl rfl (by first | decide | assumption) ?_
                                               first
                                                 | (rw [stS_p hc112 hRR, rd1_f rfl]
                                                    exact ⟨rfl, hq3, rdF_t (rdF_i (Or.inl rfl)) hF3, fun z => by cases z⟩)
                                                 | (rw [stS_p hc112 hRR, rd1_cf (by decide) (by decide) hc59]
                                                    exact ⟨rfl, hq3, rdF_t (rdF_i (Or.inl rfl)) hF3, fun z => by cases z⟩)
                                                 | (rw [stS_p hc112 hRR, rd1_ct (it := 59) (by decide) (by decide) hc59]
                                                    refine ⟨rfl, gI_self _ _ _ _, rdF_t (rdF_i (Or.inl rfl)) (rdF_t hF3 (rdF_i (Or.inl rfl))), fun _ => ⟨?_, ?_, ?_⟩⟩
                                                    · exact fun _ i hi => (gI_ne (Or.inl (by decide))).trans (htd3 rfl i hi)
                                                    · exact fun z => absurd (hc112.symm.trans z) (by decide)
                                                    · exact fun z => absurd (hc112.symm.trans z) (by decide))
                                                 | (rw [stS_r hc114 hRR, rd1_f rfl]
                                                    exact ⟨rfl, hq3, rdF_t (rdF_i (Or.inl rfl)) hF3, fun z => by cases z⟩)
                                                 | (rw [stS_r hc114 hRR, rd1_cf (by decide) (by decide) hc59]
                                                    exact ⟨rfl, hq3, rdF_t (rdF_i (Or.inl rfl)) hF3, fun z => by cases z⟩)
                                                 | (rw [stS_r hc114 hRR, rd1_ct (it := 59) (by decide) (by decide) hc59]
                                                    refine ⟨rfl, gI_self _ _ _ _, rdF_t (rdF_i (Or.inl rfl)) (rdF_t hF3 (rdF_i (Or.inl rfl))), fun _ => ⟨?_, ?_, ?_⟩⟩
                                                    · exact fun z => absurd (hc114.symm.trans z) (by decide)
                                                    · exact fun _ i hi => (gI_ne (Or.inl (by decide))).trans (htd3 rfl i hi)
                                                    · exact fun z => absurd (hc114.symm.trans z) (by decide))
                                                 | (rw [stS_f hc102 hRR, rd1_f rfl]
                                                    exact ⟨rfl, hq3, rdF_t (rdF_i (Or.inl rfl)) hF3, fun z => by cases z⟩)
                                                 | (rw [stS_f hc102 hRR, rd1_cf (by decide) (by decide) hc59]
                                                    exact ⟨rfl, hq3, rdF_t (rdF_i (Or.inl rfl)) hF3, fun z => by cases z⟩)
                                                 | (rw [stS_f hc102 hRR, rd1_ct (it := 59) (by decide) (by decide) hc59]
                                                    refine ⟨rfl, gI_self _ _ _ _, rdF_t (rdF_i (Or.inl rfl)) (rdF_t hF3 (rdF_i (Or.inl rfl))), fun _ => ⟨?_, ?_, ?_⟩⟩
                                                    · exact fun z => absurd (hc102.symm.trans z) (by decide)
                                                    · exact fun z => absurd (hc102.symm.trans z) (by decide)
                                                    · exact fun _ => (gI_ne (Or.inl (by decide))).trans (htd3 rfl 0 (by omega)))
                                                 | (rw [stS_n hc112 hc114 hc102]; exact ⟨rfl, hp, rdF_r, fun z => by cases z⟩)))
                             · dsimp only [Option.toList, List.cons_append, List.nil_append]
                               have hT3 := rT_F hTa hF3
                               have hq9 : q ≤ n := by
                                 have e := rdS_le (T := T) (n := n) (l := itK false 1) (s := (true, p + 1, [], 0)) (by show p + 1 ≤ n; omega) (itK_le 1)
                                 rw [hRR] at e
                                 exact e
                               refine xG_br rfl (fun h81 => ?_) (fun h81 => ?_)
                               · first
                                   | (exfalso; first | exact absurd h81 (by decide) | exact h81 (by decide) | (simp at h81; done))
                                   | (refine xG_run 1 rfl (by repeat' (first | exact trivial | assumption | exact xob_b rfl | exact xal_b rfl | (apply And.intro) | decide)) ?_
                                      try dsimp only [xsto1, xsto2, xkill, xget, xset, gd_0, gd_s]
                                      refine r2_z rfl rfl (by first | decide | assumption) ?_
                                      first
                                        | (rw [stS_p hc112 hRR, rd1_f rfl]
                                           exact ⟨rfl, hq3, rdF_t (rdF_i (Or.inl rfl)) hF3, fun z => by cases z⟩)
                                        | (rw [stS_p hc112 hRR, rd1_cf (by decide) (by decide) hc59]
                                           exact ⟨rfl, hq3, rdF_t (rdF_i (Or.inl rfl)) hF3, fun z => by cases z⟩)
                                        | (rw [stS_p hc112 hRR, rd1_ct (it := 59) (by decide) (by decide) hc59]
                                           refine ⟨rfl, gI_self _ _ _ _, rdF_t (rdF_i (Or.inl rfl)) (rdF_t hF3 (rdF_i (Or.inl rfl))), fun _ => ⟨?_, ?_, ?_⟩⟩
                                           · exact fun _ i hi => (gI_ne (Or.inl (by decide))).trans (htd3 rfl i hi)
                                           · exact fun z => absurd (hc112.symm.trans z) (by decide)
                                           · exact fun z => absurd (hc112.symm.trans z) (by decide))
                                        | (rw [stS_r hc114 hRR, rd1_f rfl]
                                           exact ⟨rfl, hq3, rdF_t (rdF_i (Or.inl rfl)) hF3, fun z => by cases z⟩)
                                        | (rw [stS_r hc114 hRR, rd1_cf (by decide) (by decide) hc59]
                                           exact ⟨rfl, hq3, rdF_t (rdF_i (Or.inl rfl)) hF3, fun z => by cases z⟩)
                                        | (rw [stS_r hc114 hRR, rd1_ct (it := 59) (by decide) (by decide) hc59]
                                           refine ⟨rfl, gI_self _ _ _ _, rdF_t (rdF_i (Or.inl rfl)) (rdF_t hF3 (rdF_i (Or.inl rfl))), fun _ => ⟨?_, ?_, ?_⟩⟩
                                           · exact fun z => absurd (hc114.symm.trans z) (by decide)
                                           · exact fun _ i hi => (gI_ne (Or.inl (by decide))).trans (htd3 rfl i hi)
                                           · exact fun z => absurd (hc114.symm.trans z) (by decide))
                                        | (rw [stS_f hc102 hRR, rd1_f rfl]
                                           exact ⟨rfl, hq3, rdF_t (rdF_i (Or.inl rfl)) hF3, fun z => by cases z⟩)
                                        | (rw [stS_f hc102 hRR, rd1_cf (by decide) (by decide) hc59]
                                           exact ⟨rfl, hq3, rdF_t (rdF_i (Or.inl rfl)) hF3, fun z => by cases z⟩)
                                        | (rw [stS_f hc102 hRR, rd1_ct (it := 59) (by decide) (by decide) hc59]
                                           refine ⟨rfl, gI_self _ _ _ _, rdF_t (rdF_i (Or.inl rfl)) (rdF_t hF3 (rdF_i (Or.inl rfl))), fun _ => ⟨?_, ?_, ?_⟩⟩
                                           · exact fun z => absurd (hc102.symm.trans z) (by decide)
                                           · exact fun z => absurd (hc102.symm.trans z) (by decide)
                                           · exact fun _ => (gI_ne (Or.inl (by decide))).trans (htd3 rfl 0 (by omega)))
                                        | (rw [stS_n hc112 hc114 hc102]; exact ⟨rfl, hp, rdF_r, fun z => by cases z⟩))
                               · first
                                   | (exfalso; first | exact absurd h81 (by decide) | exact h81 (by decide) | (simp at h81; done))
                                   | (refine xG_run 2 rfl (by repeat' (first | exact trivial | assumption | exact xob_b rfl | exact xal_b rfl | (apply And.intro) | decide)) ?_
                                      try dsimp only [xsto1, xsto2, xkill, xget, xset, gd_0, gd_s]
                                      refine xG_c2 1 rfl (by repeat' (first | exact trivial | assumption | exact xob_b rfl | exact xal_b rfl | (apply And.intro) | decide)) rfl rfl (by decide) cw_X12_takes (d' := d - 1) (e_takes (p := q) (c := 59) hT3 hq3 (by omega) (by omega)) (by omega) ?_
                                      rintro v M4 (⟨hc59, rfl, rfl⟩ | ⟨hc59, rfl, rfl⟩)
                                      · dsimp only [Option.toList, List.cons_append, List.nil_append]
                                        refine xG_br rfl (fun h90 => ?_) (fun h90 => ?_)
                                        · first
                                            | (exfalso; first | exact absurd h90 (by decide) | exact h90 (by decide) | (simp at h90; done))
                                            | (refine xG_run 1 rfl (by repeat' (first | exact trivial | assumption | exact xob_b rfl | exact xal_b rfl | (apply And.intro) | decide)) ?_
                                               try dsimp only [xsto1, xsto2, xkill, xget, xset, gd_0, gd_s]
                                               refine r2_z rfl rfl (by first | decide | assumption) ?_
                                               first
                                                 | (rw [stS_p hc112 hRR, rd1_f rfl]
                                                    exact ⟨rfl, hq3, rdF_t (rdF_i (Or.inl rfl)) hF3, fun z => by cases z⟩)
                                                 | (rw [stS_p hc112 hRR, rd1_cf (by decide) (by decide) hc59]
                                                    exact ⟨rfl, hq3, rdF_t (rdF_i (Or.inl rfl)) hF3, fun z => by cases z⟩)
                                                 | (rw [stS_p hc112 hRR, rd1_ct (it := 59) (by decide) (by decide) hc59]
                                                    refine ⟨rfl, gI_self _ _ _ _, rdF_t (rdF_i (Or.inl rfl)) (rdF_t hF3 (rdF_i (Or.inl rfl))), fun _ => ⟨?_, ?_, ?_⟩⟩
                                                    · exact fun _ i hi => (gI_ne (Or.inl (by decide))).trans (htd3 rfl i hi)
                                                    · exact fun z => absurd (hc112.symm.trans z) (by decide)
                                                    · exact fun z => absurd (hc112.symm.trans z) (by decide))
                                                 | (rw [stS_r hc114 hRR, rd1_f rfl]
                                                    exact ⟨rfl, hq3, rdF_t (rdF_i (Or.inl rfl)) hF3, fun z => by cases z⟩)
                                                 | (rw [stS_r hc114 hRR, rd1_cf (by decide) (by decide) hc59]
                                                    exact ⟨rfl, hq3, rdF_t (rdF_i (Or.inl rfl)) hF3, fun z => by cases z⟩)
                                                 | (rw [stS_r hc114 hRR, rd1_ct (it := 59) (by decide) (by decide) hc59]
                                                    refine ⟨rfl, gI_self _ _ _ _, rdF_t (rdF_i (Or.inl rfl)) (rdF_t hF3 (rdF_i (Or.inl rfl))), fun _ => ⟨?_, ?_, ?_⟩⟩
                                                    · exact fun z => absurd (hc114.symm.trans z) (by decide)
                                                    · exact fun _ i hi => (gI_ne (Or.inl (by decide))).trans (htd3 rfl i hi)
                                                    · exact fun z => absurd (hc114.symm.trans z) (by decide))
                                                 | (rw [stS_f hc102 hRR, rd1_f rfl]
                                                    exact ⟨rfl, hq3, rdF_t (rdF_i (Or.inl rfl)) hF3, fun z => by cases z⟩)
                                                 | (rw [stS_f hc102 hRR, rd1_cf (by decide) (by decide) hc59]
                                                    exact ⟨rfl, hq3, rdF_t (rdF_i (Or.inl rfl)) hF3, fun z => by cases z⟩)
                                                 | (rw [stS_f hc102 hRR, rd1_ct (it := 59) (by decide) (by decide) hc59]
                                                    refine ⟨rfl, gI_self _ _ _ _, rdF_t (rdF_i (Or.inl rfl)) (rdF_t hF3 (rdF_i (Or.inl rfl))), fun _ => ⟨?_, ?_, ?_⟩⟩
                                                    · exact fun z => absurd (hc102.symm.trans z) (by decide)
                                                    · exact fun z => absurd (hc102.symm.trans z) (by decide)
                                                    · exact fun _ => (gI_ne (Or.inl (by decide))).trans (htd3 rfl 0 (by omega)))
                                                 | (rw [stS_n hc112 hc114 hc102]; exact ⟨rfl, hp, rdF_r, fun z => by cases z⟩))
                                        · first
                                            | (exfalso; first | exact absurd h90 (by decide) | exact h90 (by decide) | (simp at h90; done))
                                            | (refine xG_run 2 rfl (by repeat' (first | exact trivial | assumption | exact xob_b rfl | exact xal_b rfl | (apply And.intro) | decide)) ?_
                                               try dsimp only [xsto1, xsto2, xkill, xget, xset, gd_0, gd_s]
                                               refine r2_z rfl rfl (by first | decide | assumption) ?_
                                               first
                                                 | (rw [stS_p hc112 hRR, rd1_f rfl]
                                                    exact ⟨rfl, hq3, rdF_t (rdF_i (Or.inl rfl)) hF3, fun z => by cases z⟩)
                                                 | (rw [stS_p hc112 hRR, rd1_cf (by decide) (by decide) hc59]
                                                    exact ⟨rfl, hq3, rdF_t (rdF_i (Or.inl rfl)) hF3, fun z => by cases z⟩)
                                                 | (rw [stS_p hc112 hRR, rd1_ct (it := 59) (by decide) (by decide) hc59]
                                                    refine ⟨rfl, gI_self _ _ _ _, rdF_t (rdF_i (Or.inl rfl)) (rdF_t hF3 (rdF_i (Or.inl rfl))), fun _ => ⟨?_, ?_, ?_⟩⟩
                                                    · exact fun _ i hi => (gI_ne (Or.inl (by decide))).trans (htd3 rfl i hi)
                                                    · exact fun z => absurd (hc112.symm.trans z) (by decide)
                                                    · exact fun z => absurd (hc112.symm.trans z) (by decide))
                                                 | (rw [stS_r hc114 hRR, rd1_f rfl]
                                                    exact ⟨rfl, hq3, rdF_t (rdF_i (Or.inl rfl)) hF3, fun z => by cases z⟩)
                                                 | (rw [stS_r hc114 hRR, rd1_cf (by decide) (by decide) hc59]
                                                    exact ⟨rfl, hq3, rdF_t (rdF_i (Or.inl rfl)) hF3, fun z => by cases z⟩)
                                                 | (rw [stS_r hc114 hRR, rd1_ct (it := 59) (by decide) (by decide) hc59]
                                                    refine ⟨rfl, gI_self _ _ _ _, rdF_t (rdF_i (Or.inl rfl)) (rdF_t hF3 (rdF_i (Or.inl rfl))), fun _ => ⟨?_, ?_, ?_⟩⟩
                                                    · exact fun z => absurd (hc114.symm.trans z) (by decide)
                                                    · exact fun _ i hi => (gI_ne (Or.inl (by decide))).trans (htd3 rfl i hi)
                                                    · exact fun z => absurd (hc114.symm.trans z) (by decide))
                                                 | (rw [stS_f hc102 hRR, rd1_f rfl]
                                                    exact ⟨rfl, hq3, rdF_t (rdF_i (Or.inl rfl)) hF3, fun z => by cases z⟩)
                                                 | (rw [stS_f hc102 hRR, rd1_cf (by decide) (by decide) hc59]
                                                    exact ⟨rfl, hq3, rdF_t (rdF_i (Or.inl rfl)) hF3, fun z => by cases z⟩)
                                                 | (rw [stS_f hc102 hRR, rd1_ct (it := 59) (by decide) (by decide) hc59]
                                                    refine ⟨rfl, gI_self _ _ _ _, rdF_t (rdF_i (Or.inl rfl)) (rdF_t hF3 (rdF_i (Or.inl rfl))), fun _ => ⟨?_, ?_, ?_⟩⟩
                                                    · exact fun z => absurd (hc102.symm.trans z) (by decide)
                                                    · exact fun z => absurd (hc102.symm.trans z) (by decide)
                                                    · exact fun _ => (gI_ne (Or.inl (by decide))).trans (htd3 rfl 0 (by omega)))
                                                 | (rw [stS_n hc112 hc114 hc102]; exact ⟨rfl, hp, rdF_r, fun z => by cases z⟩))
                                      · dsimp only [Option.toList, List.cons_append, List.nil_append]
                                        refine xG_br rfl (fun h90 => ?_) (fun h90 => ?_)
                                        · first
                                            | (exfalso; first | exact absurd h90 (by decide) | exact h90 (by decide) | (simp at h90; done))
                                            | (refine xG_run 1 rfl (by repeat' (first | exact trivial | assumption | exact xob_b rfl | exact xal_b rfl | (apply And.intro) | decide)) ?_
                                               try dsimp only [xsto1, xsto2, xkill, xget, xset, gd_0, gd_s]
                                               refine r2_z rfl rfl (by first | decide | assumption) ?_
                                               first
                                                 | (rw [stS_p hc112 hRR, rd1_f rfl]
                                                    exact ⟨rfl, hq3, rdF_t (rdF_i (Or.inl rfl)) hF3, fun z => by cases z⟩)
                                                 | (rw [stS_p hc112 hRR, rd1_cf (by decide) (by decide) hc59]
                                                    exact ⟨rfl, hq3, rdF_t (rdF_i (Or.inl rfl)) hF3, fun z => by cases z⟩)
                                                 | (rw [stS_p hc112 hRR, rd1_ct (it := 59) (by decide) (by decide) hc59]
                                                    refine ⟨rfl, gI_self _ _ _ _, rdF_t (rdF_i (Or.inl rfl)) (rdF_t hF3 (rdF_i (Or.inl rfl))), fun _ => ⟨?_, ?_, ?_⟩⟩
                                                    · exact fun _ i hi => (gI_ne (Or.inl (by decide))).trans (htd3 rfl i hi)
                                                    · exact fun z => absurd (hc112.symm.trans z) (by decide)
                                                    · exact fun z => absurd (hc112.symm.trans z) (by decide))
                                                 | (rw [stS_r hc114 hRR, rd1_f rfl]
                                                    exact ⟨rfl, hq3, rdF_t (rdF_i (Or.inl rfl)) hF3, fun z => by cases z⟩)
                                                 | (rw [stS_r hc114 hRR, rd1_cf (by decide) (by decide) hc59]
                                                    exact ⟨rfl, hq3, rdF_t (rdF_i (Or.inl rfl)) hF3, fun z => by cases z⟩)
                                                 | (rw [stS_r hc114 hRR, rd1_ct (it := 59) (by decide) (by decide) hc59]
                                                    refine ⟨rfl, gI_self _ _ _ _, rdF_t (rdF_i (Or.inl rfl)) (rdF_t hF3 (rdF_i (Or.inl rfl))), fun _ => ⟨?_, ?_, ?_⟩⟩
                                                    · exact fun z => absurd (hc114.symm.trans z) (by decide)
                                                    · exact fun _ i hi => (gI_ne (Or.inl (by decide))).trans (htd3 rfl i hi)
                                                    · exact fun z => absurd (hc114.symm.trans z) (by decide))
                                                 | (rw [stS_f hc102 hRR, rd1_f rfl]
                                                    exact ⟨rfl, hq3, rdF_t (rdF_i (Or.inl rfl)) hF3, fun z => by cases z⟩)
                                                 | (rw [stS_f hc102 hRR, rd1_cf (by decide) (by decide) hc59]
                                                    exact ⟨rfl, hq3, rdF_t (rdF_i (Or.inl rfl)) hF3, fun z => by cases z⟩)
                                                 | (rw [stS_f hc102 hRR, rd1_ct (it := 59) (by decide) (by decide) hc59]
                                                    refine ⟨rfl, gI_self _ _ _ _, rdF_t (rdF_i (Or.inl rfl)) (rdF_t hF3 (rdF_i (Or.inl rfl))), fun _ => ⟨?_, ?_, ?_⟩⟩
                                                    · exact fun z => absurd (hc102.symm.trans z) (by decide)
                                                    · exact fun z => absurd (hc102.symm.trans z) (by decide)
                                                    · exact fun _ => (gI_ne (Or.inl (by decide))).trans (htd3 rfl 0 (by omega)))
                                                 | (rw [stS_n hc112 hc114 hc102]; exact ⟨rfl, hp, rdF_r, fun z => by cases z⟩))
                                        · first
                                            | (exfalso; first | exact absurd h90 (by decide) | exact h90 (by decide) | (simp at h90; done))
                                            | (refine xG_run 2 rfl (by repeat' (first | exact trivial | assumption | exact xob_b rfl | exact xal_b rfl | (apply And.intro) | decide)) ?_
                                               try dsimp only [xsto1, xsto2, xkill, xget, xset, gd_0, gd_s]
                                               refine r2_z rfl rfl (by first | decide | assumption) ?_
                                               first
                                                 | (rw [stS_p hc112 hRR, rd1_f rfl]
                                                    exact ⟨rfl, hq3, rdF_t (rdF_i (Or.inl rfl)) hF3, fun z => by cases z⟩)
                                                 | (rw [stS_p hc112 hRR, rd1_cf (by decide) (by decide) hc59]
                                                    exact ⟨rfl, hq3, rdF_t (rdF_i (Or.inl rfl)) hF3, fun z => by cases z⟩)
                                                 | (rw [stS_p hc112 hRR, rd1_ct (it := 59) (by decide) (by decide) hc59]
                                                    refine ⟨rfl, gI_self _ _ _ _, rdF_t (rdF_i (Or.inl rfl)) (rdF_t hF3 (rdF_i (Or.inl rfl))), fun _ => ⟨?_, ?_, ?_⟩⟩
                                                    · exact fun _ i hi => (gI_ne (Or.inl (by decide))).trans (htd3 rfl i hi)
                                                    · exact fun z => absurd (hc112.symm.trans z) (by decide)
                                                    · exact fun z => absurd (hc112.symm.trans z) (by decide))
                                                 | (rw [stS_r hc114 hRR, rd1_f rfl]
                                                    exact ⟨rfl, hq3, rdF_t (rdF_i (Or.inl rfl)) hF3, fun z => by cases z⟩)
                                                 | (rw [stS_r hc114 hRR, rd1_cf (by decide) (by decide) hc59]
                                                    exact ⟨rfl, hq3, rdF_t (rdF_i (Or.inl rfl)) hF3, fun z => by cases z⟩)
                                                 | (rw [stS_r hc114 hRR, rd1_ct (it := 59) (by decide) (by decide) hc59]
                                                    refine ⟨rfl, gI_self _ _ _ _, rdF_t (rdF_i (Or.inl rfl)) (rdF_t hF3 (rdF_i (Or.inl rfl))), fun _ => ⟨?_, ?_, ?_⟩⟩
                                                    · exact fun z => absurd (hc114.symm.trans z) (by decide)
                                                    · exact fun _ i hi => (gI_ne (Or.inl (by decide))).trans (htd3 rfl i hi)
                                                    · exact fun z => absurd (hc114.symm.trans z) (by decide))
                                                 | (rw [stS_f hc102 hRR, rd1_f rfl]
                                                    exact ⟨rfl, hq3, rdF_t (rdF_i (Or.inl rfl)) hF3, fun z => by cases z⟩)
                                                 | (rw [stS_f hc102 hRR, rd1_cf (by decide) (by decide) hc59]
                                                    exact ⟨rfl, hq3, rdF_t (rdF_i (Or.inl rfl)) hF3, fun z => by cases z⟩)
                                                 | (rw [stS_f hc102 hRR, rd1_ct (it := 59) (by decide) (by decide) hc59]
                                                    refine ⟨rfl, gI_self _ _ _ _, rdF_t (rdF_i (Or.inl rfl)) (rdF_t hF3 (rdF_i (Or.inl rfl))), fun _ => ⟨?_, ?_, ?_⟩⟩
                                                    · exact fun z => absurd (hc102.symm.trans z) (by decide)
                                                    · exact fun z => absurd (hc102.symm.trans z) (by decide)
                                                    · exact fun _ => (gI_ne (Or.inl (by decide))).trans (htd3 rfl 0 (by omega)))
                                                 | (rw [stS_n hc112 hc114 hc102]; exact ⟨rfl, hp, rdF_r, fun z => by cases z⟩)))))
             · first
                 | (exfalso; first | exact absurd h39 (by decide) | exact h39 (by decide) | (simp at h39; done))
                 | (refine xG_run 3 rfl (by repeat' (first | exact trivial | assumption | exact xob_b rfl | exact xal_b rfl | (apply And.intro) | decide)) ?_
                    try dsimp only [xsto1, xsto2, xkill, xget, xset, gd_0, gd_s]
                    refine xG_c2 2 rfl (by repeat' (first | exact trivial | assumption | exact xob_b rfl | exact xal_b rfl | (apply And.intro) | decide)) rfl rfl (by decide) cw_X12_readsNumbers (d' := d - 1) (e_readsNumbersS (m := 5) (p := p + 1) (sv := 0) hTa (gI_self _ _ _ _) (by omega) (by omega) (by omega)) (by omega) ?_
                    rintro v M3 ⟨rfl, hq3, hF3, htd3⟩
                    rcases hRR : rdS T n (itK true 5) (true, p + 1, [], 0) with ⟨ok, q, l, sx⟩
                    try rw [hRR] at hq3 htd3
                    dsimp only at hq3 htd3
                    cases ok
                    · dsimp only [Option.toList, List.cons_append, List.nil_append]
                      refine xG_br rfl (fun h48 => ?_) (fun h48 => ?_)
                      · first
                          | (exfalso; first | exact absurd h48 (by decide) | exact h48 (by decide) | (simp at h48; done))
                          | (refine xG_run 1 rfl (by repeat' (first | exact trivial | assumption | exact xob_b rfl | exact xal_b rfl | (apply And.intro) | decide)) ?_
                             try dsimp only [xsto1, xsto2, xkill, xget, xset, gd_0, gd_s]
                             refine r2_z rfl rfl (by first | decide | assumption) ?_
                             first
                               | (rw [stS_p hc112 hRR, rd1_f rfl]
                                  exact ⟨rfl, hq3, rdF_t (rdF_i (Or.inl rfl)) hF3, fun z => by cases z⟩)
                               | (rw [stS_p hc112 hRR, rd1_cf (by decide) (by decide) hc59]
                                  exact ⟨rfl, hq3, rdF_t (rdF_i (Or.inl rfl)) hF3, fun z => by cases z⟩)
                               | (rw [stS_p hc112 hRR, rd1_ct (it := 59) (by decide) (by decide) hc59]
                                  refine ⟨rfl, gI_self _ _ _ _, rdF_t (rdF_i (Or.inl rfl)) (rdF_t hF3 (rdF_i (Or.inl rfl))), fun _ => ⟨?_, ?_, ?_⟩⟩
                                  · exact fun _ i hi => (gI_ne (Or.inl (by decide))).trans (htd3 rfl i hi)
                                  · exact fun z => absurd (hc112.symm.trans z) (by decide)
                                  · exact fun z => absurd (hc112.symm.trans z) (by decide))
                               | (rw [stS_r hc114 hRR, rd1_f rfl]
                                  exact ⟨rfl, hq3, rdF_t (rdF_i (Or.inl rfl)) hF3, fun z => by cases z⟩)
                               | (rw [stS_r hc114 hRR, rd1_cf (by decide) (by decide) hc59]
                                  exact ⟨rfl, hq3, rdF_t (rdF_i (Or.inl rfl)) hF3, fun z => by cases z⟩)
                               | (rw [stS_r hc114 hRR, rd1_ct (it := 59) (by decide) (by decide) hc59]
                                  refine ⟨rfl, gI_self _ _ _ _, rdF_t (rdF_i (Or.inl rfl)) (rdF_t hF3 (rdF_i (Or.inl rfl))), fun _ => ⟨?_, ?_, ?_⟩⟩
                                  · exact fun z => absurd (hc114.symm.trans z) (by decide)
                                  · exact fun _ i hi => (gI_ne (Or.inl (by decide))).trans (htd3 rfl i hi)
                                  · exact fun z => absurd (hc114.symm.trans z) (by decide))
                               | (rw [stS_f hc102 hRR, rd1_f rfl]
                                  exact ⟨rfl, hq3, rdF_t (rdF_i (Or.inl rfl)) hF3, fun z => by cases z⟩)
                               | (rw [stS_f hc102 hRR, rd1_cf (by decide) (by decide) hc59]
                                  exact ⟨rfl, hq3, rdF_t (rdF_i (Or.inl rfl)) hF3, fun z => by cases z⟩)
                               | (rw [stS_f hc102 hRR, rd1_ct (it := 59) (by decide) (by decide) hc59]
                                  refine ⟨rfl, gI_self _ _ _ _, rdF_t (rdF_i (Or.inl rfl)) (rdF_t hF3 (rdF_i (Or.inl rfl))), fun _ => ⟨?_, ?_, ?_⟩⟩
                                  · exact fun z => absurd (hc102.symm.trans z) (by decide)
                                  · exact fun z => absurd (hc102.symm.trans z) (by decide)
                                  · exact fun _ => (gI_ne (Or.inl (by decide))).trans (htd3 rfl 0 (by omega)))
                               | (rw [stS_n hc112 hc114 hc102]; exact ⟨rfl, hp, rdF_r, fun z => by cases z⟩))
                      · first
                          | (exfalso; first | exact absurd h48 (by decide) | exact h48 (by decide) | (simp at h48; done))
                          | (refine xG_run 2 rfl (by repeat' (first | exact trivial | assumption | exact xob_b rfl | exact xal_b rfl | (apply And.intro) | decide)) ?_
                             try dsimp only [xsto1, xsto2, xkill, xget, xset, gd_0, gd_s]
                             refine xG_c2 1 rfl (by repeat' (first | exact trivial | assumption | exact xob_b rfl | exact xal_b rfl | (apply And.intro) | decide)) rfl rfl (by decide) cw_X12_takes (d' := d - 1) (e_takes (p := q) (c := 59) hT3 hq3 (by omega) (by omega)) (by omega) ?_
                             rintro v M4 (⟨hc59, rfl, rfl⟩ | ⟨hc59, rfl, rfl⟩)
                             · dsimp only [Option.toList, List.cons_append, List.nil_append]
                               refine xG_br rfl (fun h57 => ?_) (fun h57 => ?_)
                               · first
                                   | (exfalso; first | exact absurd h57 (by decide) | exact h57 (by decide) | (simp at h57; done))
                                   | (refine xG_run 1 rfl (by repeat' (first | exact trivial | assumption | exact xob_b rfl | exact xal_b rfl | (apply And.intro) | decide)) ?_
                                      try dsimp only [xsto1, xsto2, xkill, xget, xset, gd_0, gd_s]
                                      refine r2_z rfl rfl (by first | decide | assumption) ?_
                                      first
                                        | (rw [stS_p hc112 hRR, rd1_f rfl]
                                           exact ⟨rfl, hq3, rdF_t (rdF_i (Or.inl rfl)) hF3, fun z => by cases z⟩)
                                        | (rw [stS_p hc112 hRR, rd1_cf (by decide) (by decide) hc59]
                                           exact ⟨rfl, hq3, rdF_t (rdF_i (Or.inl rfl)) hF3, fun z => by cases z⟩)
                                        | (rw [stS_p hc112 hRR, rd1_ct (it := 59) (by decide) (by decide) hc59]
                                           refine ⟨rfl, gI_self _ _ _ _, rdF_t (rdF_i (Or.inl rfl)) (rdF_t hF3 (rdF_i (Or.inl rfl))), fun _ => ⟨?_, ?_, ?_⟩⟩
                                           · exact fun _ i hi => (gI_ne (Or.inl (by decide))).trans (htd3 rfl i hi)
                                           · exact fun z => absurd (hc112.symm.trans z) (by decide)
                                           · exact fun z => absurd (hc112.symm.trans z) (by decide))
                                        | (rw [stS_r hc114 hRR, rd1_f rfl]
                                           exact ⟨rfl, hq3, rdF_t (rdF_i (Or.inl rfl)) hF3, fun z => by cases z⟩)
                                        | (rw [stS_r hc114 hRR, rd1_cf (by decide) (by decide) hc59]
                                           exact ⟨rfl, hq3, rdF_t (rdF_i (Or.inl rfl)) hF3, fun z => by cases z⟩)
                                        | (rw [stS_r hc114 hRR, rd1_ct (it := 59) (by decide) (by decide) hc59]
                                           refine ⟨rfl, gI_self _ _ _ _, rdF_t (rdF_i (Or.inl rfl)) (rdF_t hF3 (rdF_i (Or.inl rfl))), fun _ => ⟨?_, ?_, ?_⟩⟩
                                           · exact fun z => absurd (hc114.symm.trans z) (by decide)
                                           · exact fun _ i hi => (gI_ne (Or.inl (by decide))).trans (htd3 rfl i hi)
                                           · exact fun z => absurd (hc114.symm.trans z) (by decide))
                                        | (rw [stS_f hc102 hRR, rd1_f rfl]
                                           exact ⟨rfl, hq3, rdF_t (rdF_i (Or.inl rfl)) hF3, fun z => by cases z⟩)
                                        | (rw [stS_f hc102 hRR, rd1_cf (by decide) (by decide) hc59]
                                           exact ⟨rfl, hq3, rdF_t (rdF_i (Or.inl rfl)) hF3, fun z => by cases z⟩)
                                        | (rw [stS_f hc102 hRR, rd1_ct (it := 59) (by decide) (by decide) hc59]
                                           refine ⟨rfl, gI_self _ _ _ _, rdF_t (rdF_i (Or.inl rfl)) (rdF_t hF3 (rdF_i (Or.inl rfl))), fun _ => ⟨?_, ?_, ?_⟩⟩
                                           · exact fun z => absurd (hc102.symm.trans z) (by decide)
                                           · exact fun z => absurd (hc102.symm.trans z) (by decide)
                                           · exact fun _ => (gI_ne (Or.inl (by decide))).trans (htd3 rfl 0 (by omega)))
                                        | (rw [stS_n hc112 hc114 hc102]; exact ⟨rfl, hp, rdF_r, fun z => by cases z⟩))
                               · first
                                   | (exfalso; first | exact absurd h57 (by decide) | exact h57 (by decide) | (simp at h57; done))
                                   | (refine xG_run 2 rfl (by repeat' (first | exact trivial | assumption | exact xob_b rfl | exact xal_b rfl | (apply And.intro) | decide)) ?_
                                      try dsimp only [xsto1, xsto2, xkill, xget, xset, gd_0, gd_s]
                                      refine r2_z rfl rfl (by first | decide | assumption) ?_
                                      first
                                        | (rw [stS_p hc112 hRR, rd1_f rfl]
                                           exact ⟨rfl, hq3, rdF_t (rdF_i (Or.inl rfl)) hF3, fun z => by cases z⟩)
                                        | (rw [stS_p hc112 hRR, rd1_cf (by decide) (by decide) hc59]
                                           exact ⟨rfl, hq3, rdF_t (rdF_i (Or.inl rfl)) hF3, fun z => by cases z⟩)
                                        | (rw [stS_p hc112 hRR, rd1_ct (it := 59) (by decide) (by decide) hc59]
                                           refine ⟨rfl, gI_self _ _ _ _, rdF_t (rdF_i (Or.inl rfl)) (rdF_t hF3 (rdF_i (Or.inl rfl))), fun _ => ⟨?_, ?_, ?_⟩⟩
                                           · exact fun _ i hi => (gI_ne (Or.inl (by decide))).trans (htd3 rfl i hi)
                                           · exact fun z => absurd (hc112.symm.trans z) (by decide)
                                           · exact fun z => absurd (hc112.symm.trans z) (by decide))
                                        | (rw [stS_r hc114 hRR, rd1_f rfl]
                                           exact ⟨rfl, hq3, rdF_t (rdF_i (Or.inl rfl)) hF3, fun z => by cases z⟩)
                                        | (rw [stS_r hc114 hRR, rd1_cf (by decide) (by decide) hc59]
                                           exact ⟨rfl, hq3, rdF_t (rdF_i (Or.inl rfl)) hF3, fun z => by cases z⟩)
                                        | (rw [stS_r hc114 hRR, rd1_ct (it := 59) (by decide) (by decide) hc59]
                                           refine ⟨rfl, gI_self _ _ _ _, rdF_t (rdF_i (Or.inl rfl)) (rdF_t hF3 (rdF_i (Or.inl rfl))), fun _ => ⟨?_, ?_, ?_⟩⟩
                                           · exact fun z => absurd (hc114.symm.trans z) (by decide)
                                           · exact fun _ i hi => (gI_ne (Or.inl (by decide))).trans (htd3 rfl i hi)
                                           · exact fun z => absurd (hc114.symm.trans z) (by decide))
                                        | (rw [stS_f hc102 hRR, rd1_f rfl]
                                           exact ⟨rfl, hq3, rdF_t (rdF_i (Or.inl rfl)) hF3, fun z => by cases z⟩)
                                        | (rw [stS_f hc102 hRR, rd1_cf (by decide) (by decide) hc59]
                                           exact ⟨rfl, hq3, rdF_t (rdF_i (Or.inl rfl)) hF3, fun z => by cases z⟩)
                                        | (rw [stS_f hc102 hRR, rd1_ct (it := 59) (by decide) (by decide) hc59]
                                           refine ⟨rfl, gI_self _ _ _ _, rdF_t (rdF_i (Or.inl rfl)) (rdF_t hF3 (rdF_i (Or.inl rfl))), fun _ => ⟨?_, ?_, ?_⟩⟩
                                           · exact fun z => absurd (hc102.symm.trans z) (by decide)
                                           · exact fun z => absurd (hc102.symm.trans z) (by decide)
                                           · exact fun _ => (gI_ne (Or.inl (by decide))).trans (htd3 rfl 0 (by omega)))
                                        | (rw [stS_n hc112 hc114 hc102]; exact ⟨rfl, hp, rdF_r, fun z => by cases z⟩))
                             · dsimp only [Option.toList, List.cons_append, List.nil_append]
                               refine xG_br rfl (fun h57 => ?_) (fun h57 => ?_)
                               · first
                                   | (exfalso; first | exact absurd h57 (by decide) | exact h57 (by decide) | (simp at h57; done))
                                   | (refine xG_run 1 rfl (by repeat' (first | exact trivial | assumption | exact xob_b rfl | exact xal_b rfl | (apply And.intro) | decide)) ?_
                                      try dsimp only [xsto1, xsto2, xkill, xget, xset, gd_0, gd_s]
                                      refine r2_z rfl rfl (by first | decide | assumption) ?_
                                      first
                                        | (rw [stS_p hc112 hRR, rd1_f rfl]
                                           exact ⟨rfl, hq3, rdF_t (rdF_i (Or.inl rfl)) hF3, fun z => by cases z⟩)
                                        | (rw [stS_p hc112 hRR, rd1_cf (by decide) (by decide) hc59]
                                           exact ⟨rfl, hq3, rdF_t (rdF_i (Or.inl rfl)) hF3, fun z => by cases z⟩)
                                        | (rw [stS_p hc112 hRR, rd1_ct (it := 59) (by decide) (by decide) hc59]
                                           refine ⟨rfl, gI_self _ _ _ _, rdF_t (rdF_i (Or.inl rfl)) (rdF_t hF3 (rdF_i (Or.inl rfl))), fun _ => ⟨?_, ?_, ?_⟩⟩
                                           · exact fun _ i hi => (gI_ne (Or.inl (by decide))).trans (htd3 rfl i hi)
                                           · exact fun z => absurd (hc112.symm.trans z) (by decide)
                                           · exact fun z => absurd (hc112.symm.trans z) (by decide))
                                        | (rw [stS_r hc114 hRR, rd1_f rfl]
                                           exact ⟨rfl, hq3, rdF_t (rdF_i (Or.inl rfl)) hF3, fun z => by cases z⟩)
                                        | (rw [stS_r hc114 hRR, rd1_cf (by decide) (by decide) hc59]
                                           exact ⟨rfl, hq3, rdF_t (rdF_i (Or.inl rfl)) hF3, fun z => by cases z⟩)
                                        | (rw [stS_r hc114 hRR, rd1_ct (it := 59) (by decide) (by decide) hc59]
                                           refine ⟨rfl, gI_self _ _ _ _, rdF_t (rdF_i (Or.inl rfl)) (rdF_t hF3 (rdF_i (Or.inl rfl))), fun _ => ⟨?_, ?_, ?_⟩⟩
                                           · exact fun z => absurd (hc114.symm.trans z) (by decide)
                                           · exact fun _ i hi => (gI_ne (Or.inl (by decide))).trans (htd3 rfl i hi)
                                           · exact fun z => absurd (hc114.symm.trans z) (by decide))
                                        | (rw [stS_f hc102 hRR, rd1_f rfl]
                                           exact ⟨rfl, hq3, rdF_t (rdF_i (Or.inl rfl)) hF3, fun z => by cases z⟩)
                                        | (rw [stS_f hc102 hRR, rd1_cf (by decide) (by decide) hc59]
                                           exact ⟨rfl, hq3, rdF_t (rdF_i (Or.inl rfl)) hF3, fun z => by cases z⟩)
                                        | (rw [stS_f hc102 hRR, rd1_ct (it := 59) (by decide) (by decide) hc59]
                                           refine ⟨rfl, gI_self _ _ _ _, rdF_t (rdF_i (Or.inl rfl)) (rdF_t hF3 (rdF_i (Or.inl rfl))), fun _ => ⟨?_, ?_, ?_⟩⟩
                                           · exact fun z => absurd (hc102.symm.trans z) (by decide)
                                           · exact fun z => absurd (hc102.symm.trans z) (by decide)
                                           · exact fun _ => (gI_ne (Or.inl (by decide))).trans (htd3 rfl 0 (by omega)))
                                        | (rw [stS_n hc112 hc114 hc102]; exact ⟨rfl, hp, rdF_r, fun z => by cases z⟩))
                               · first
                                   | (exfalso; first | exact absurd h57 (by decide) | exact h57 (by decide) | (simp at h57; done))
                                   | (refine xG_run 2 rfl (by repeat' (first | exact trivial | assumption | exact xob_b rfl | exact xal_b rfl | (apply And.intro) | decide)) ?_
                                      try dsimp only [xsto1, xsto2, xkill, xget, xset, gd_0, gd_s]
                                      refine r2_z rfl rfl (by first | decide | assumption) ?_
                                      first
                                        | (rw [stS_p hc112 hRR, rd1_f rfl]
                                           exact ⟨rfl, hq3, rdF_t (rdF_i (Or.inl rfl)) hF3, fun z => by cases z⟩)
                                        | (rw [stS_p hc112 hRR, rd1_cf (by decide) (by decide) hc59]
                                           exact ⟨rfl, hq3, rdF_t (rdF_i (Or.inl rfl)) hF3, fun z => by cases z⟩)
                                        | (rw [stS_p hc112 hRR, rd1_ct (it := 59) (by decide) (by decide) hc59]
                                           refine ⟨rfl, gI_self _ _ _ _, rdF_t (rdF_i (Or.inl rfl)) (rdF_t hF3 (rdF_i (Or.inl rfl))), fun _ => ⟨?_, ?_, ?_⟩⟩
                                           · exact fun _ i hi => (gI_ne (Or.inl (by decide))).trans (htd3 rfl i hi)
                                           · exact fun z => absurd (hc112.symm.trans z) (by decide)
                                           · exact fun z => absurd (hc112.symm.trans z) (by decide))
                                        | (rw [stS_r hc114 hRR, rd1_f rfl]
                                           exact ⟨rfl, hq3, rdF_t (rdF_i (Or.inl rfl)) hF3, fun z => by cases z⟩)
                                        | (rw [stS_r hc114 hRR, rd1_cf (by decide) (by decide) hc59]
                                           exact ⟨rfl, hq3, rdF_t (rdF_i (Or.inl rfl)) hF3, fun z => by cases z⟩)
                                        | (rw [stS_r hc114 hRR, rd1_ct (it := 59) (by decide) (by decide) hc59]
                                           refine ⟨rfl, gI_self _ _ _ _, rdF_t (rdF_i (Or.inl rfl)) (rdF_t hF3 (rdF_i (Or.inl rfl))), fun _ => ⟨?_, ?_, ?_⟩⟩
                                           · exact fun z => absurd (hc114.symm.trans z) (by decide)
                                           · exact fun _ i hi => (gI_ne (Or.inl (by decide))).trans (htd3 rfl i hi)
                                           · exact fun z => absurd (hc114.symm.trans z) (by decide))
                                        | (rw [stS_f hc102 hRR, rd1_f rfl]
                                           exact ⟨rfl, hq3, rdF_t (rdF_i (Or.inl rfl)) hF3, fun z => by cases z⟩)
                                        | (rw [stS_f hc102 hRR, rd1_cf (by decide) (by decide) hc59]
                                           exact ⟨rfl, hq3, rdF_t (rdF_i (Or.inl rfl)) hF3, fun z => by cases z⟩)
                                        | (rw [stS_f hc102 hRR, rd1_ct (it := 59) (by decide) (by decide) hc59]
                                           refine ⟨rfl, gI_self _ _ _ _, rdF_t (rdF_i (Or.inl rfl)) (rdF_t hF3 (rdF_i (Or.inl rfl))), fun _ => ⟨?_, ?_, ?_⟩⟩
                                           · exact fun z => absurd (hc102.symm.trans z) (by decide)
                                           · exact fun z => absurd (hc102.symm.trans z) (by decide)
                                           · exact fun _ => (gI_ne (Or.inl (by decide))).trans (htd3 rfl 0 (by omega)))
                                        | (rw [stS_n hc112 hc114 hc102]; exact ⟨rfl, hp, rdF_r, fun z => by cases z⟩)))
                    · dsimp only [Option.toList, List.cons_append, List.nil_append]
                      have hT3 := rT_F hTa hF3
                      have hq9 : q ≤ n := by
                        have e := rdS_le (T := T) (n := n) (l := itK true 5) (s := (true, p + 1, [], 0)) (by show p + 1 ≤ n; omega) (itK_le 5)
                        rw [hRR] at e
                        exact e
                      refine xG_br rfl (fun h48 => ?_) (fun h48 => ?_)
                      · first
                          | (exfalso; first | exact absurd h48 (by decide) | exact h48 (by decide) | (simp at h48; done))
                          | (refine xG_run 1 rfl (by repeat' (first | exact trivial | assumption | exact xob_b rfl | exact xal_b rfl | (apply And.intro) | decide)) ?_
                             try dsimp only [xsto1, xsto2, xkill, xget, xset, gd_0, gd_s]
                             refine r2_z rfl rfl (by first | decide | assumption) ?_
                             first
                               | (rw [stS_p hc112 hRR, rd1_f rfl]
                                  exact ⟨rfl, hq3, rdF_t (rdF_i (Or.inl rfl)) hF3, fun z => by cases z⟩)
                               | (rw [stS_p hc112 hRR, rd1_cf (by decide) (by decide) hc59]
                                  exact ⟨rfl, hq3, rdF_t (rdF_i (Or.inl rfl)) hF3, fun z => by cases z⟩)
                               | (rw [stS_p hc112 hRR, rd1_ct (it := 59) (by decide) (by decide) hc59]
                                  refine ⟨rfl, gI_self _ _ _ _, rdF_t (rdF_i (Or.inl rfl)) (rdF_t hF3 (rdF_i (Or.inl rfl))), fun _ => ⟨?_, ?_, ?_⟩⟩
                                  · exact fun _ i hi => (gI_ne (Or.inl (by decide))).trans (htd3 rfl i hi)
                                  · exact fun z => absurd (hc112.symm.trans z) (by decide)
                                  · exact fun z => absurd (hc112.symm.trans z) (by decide))
                               | (rw [stS_r hc114 hRR, rd1_f rfl]
                                  exact ⟨rfl, hq3, rdF_t (rdF_i (Or.inl rfl)) hF3, fun z => by cases z⟩)
                               | (rw [stS_r hc114 hRR, rd1_cf (by decide) (by decide) hc59]
                                  exact ⟨rfl, hq3, rdF_t (rdF_i (Or.inl rfl)) hF3, fun z => by cases z⟩)
                               | (rw [stS_r hc114 hRR, rd1_ct (it := 59) (by decide) (by decide) hc59]
                                  refine ⟨rfl, gI_self _ _ _ _, rdF_t (rdF_i (Or.inl rfl)) (rdF_t hF3 (rdF_i (Or.inl rfl))), fun _ => ⟨?_, ?_, ?_⟩⟩
                                  · exact fun z => absurd (hc114.symm.trans z) (by decide)
                                  · exact fun _ i hi => (gI_ne (Or.inl (by decide))).trans (htd3 rfl i hi)
                                  · exact fun z => absurd (hc114.symm.trans z) (by decide))
                               | (rw [stS_f hc102 hRR, rd1_f rfl]
                                  exact ⟨rfl, hq3, rdF_t (rdF_i (Or.inl rfl)) hF3, fun z => by cases z⟩)
                               | (rw [stS_f hc102 hRR, rd1_cf (by decide) (by decide) hc59]
                                  exact ⟨rfl, hq3, rdF_t (rdF_i (Or.inl rfl)) hF3, fun z => by cases z⟩)
                               | (rw [stS_f hc102 hRR, rd1_ct (it := 59) (by decide) (by decide) hc59]
                                  refine ⟨rfl, gI_self _ _ _ _, rdF_t (rdF_i (Or.inl rfl)) (rdF_t hF3 (rdF_i (Or.inl rfl))), fun _ => ⟨?_, ?_, ?_⟩⟩
                                  · exact fun z => absurd (hc102.symm.trans z) (by decide)
                                  · exact fun z => absurd (hc102.symm.trans z) (by decide)
                                  · exact fun _ => (gI_ne (Or.inl (by decide))).trans (htd3 rfl 0 (by omega)))
                               | (rw [stS_n hc112 hc114 hc102]; exact ⟨rfl, hp, rdF_r, fun z => by cases z⟩))
                      · first
                          | (exfalso; first | exact absurd h48 (by decide) | exact h48 (by decide) | (simp at h48; done))
                          | (refine xG_run 2 rfl (by repeat' (first | exact trivial | assumption | exact xob_b rfl | exact xal_b rfl | (apply And.intro) | decide)) ?_
                             try dsimp only [xsto1, xsto2, xkill, xget, xset, gd_0, gd_s]
                             refine xG_c2 1 rfl (by repeat' (first | exact trivial | assumption | exact xob_b rfl | exact xal_b rfl | (apply And.intro) | decide)) rfl rfl (by decide) cw_X12_takes (d' := d - 1) (e_takes (p := q) (c := 59) hT3 hq3 (by omega) (by omega)) (by omega) ?_
                             rintro v M4 (⟨hc59, rfl, rfl⟩ | ⟨hc59, rfl, rfl⟩)
                             · dsimp only [Option.toList, List.cons_append, List.nil_append]
                               refine xG_br rfl (fun h57 => ?_) (fun h57 => ?_)
                               · first
                                   | (exfalso; first | exact absurd h57 (by decide) | exact h57 (by decide) | (simp at h57; done))
                                   | (refine xG_run 1 rfl (by repeat' (first | exact trivial | assumption | exact xob_b rfl | exact xal_b rfl | (apply And.intro) | decide)) ?_
                                      try dsimp only [xsto1, xsto2, xkill, xget, xset, gd_0, gd_s]
                                      refine r2_z rfl rfl (by first | decide | assumption) ?_
                                      first
                                        | (rw [stS_p hc112 hRR, rd1_f rfl]
                                           exact ⟨rfl, hq3, rdF_t (rdF_i (Or.inl rfl)) hF3, fun z => by cases z⟩)
                                        | (rw [stS_p hc112 hRR, rd1_cf (by decide) (by decide) hc59]
                                           exact ⟨rfl, hq3, rdF_t (rdF_i (Or.inl rfl)) hF3, fun z => by cases z⟩)
                                        | (rw [stS_p hc112 hRR, rd1_ct (it := 59) (by decide) (by decide) hc59]
                                           refine ⟨rfl, gI_self _ _ _ _, rdF_t (rdF_i (Or.inl rfl)) (rdF_t hF3 (rdF_i (Or.inl rfl))), fun _ => ⟨?_, ?_, ?_⟩⟩
                                           · exact fun _ i hi => (gI_ne (Or.inl (by decide))).trans (htd3 rfl i hi)
                                           · exact fun z => absurd (hc112.symm.trans z) (by decide)
                                           · exact fun z => absurd (hc112.symm.trans z) (by decide))
                                        | (rw [stS_r hc114 hRR, rd1_f rfl]
                                           exact ⟨rfl, hq3, rdF_t (rdF_i (Or.inl rfl)) hF3, fun z => by cases z⟩)
                                        | (rw [stS_r hc114 hRR, rd1_cf (by decide) (by decide) hc59]
                                           exact ⟨rfl, hq3, rdF_t (rdF_i (Or.inl rfl)) hF3, fun z => by cases z⟩)
                                        | (rw [stS_r hc114 hRR, rd1_ct (it := 59) (by decide) (by decide) hc59]
                                           refine ⟨rfl, gI_self _ _ _ _, rdF_t (rdF_i (Or.inl rfl)) (rdF_t hF3 (rdF_i (Or.inl rfl))), fun _ => ⟨?_, ?_, ?_⟩⟩
                                           · exact fun z => absurd (hc114.symm.trans z) (by decide)
                                           · exact fun _ i hi => (gI_ne (Or.inl (by decide))).trans (htd3 rfl i hi)
                                           · exact fun z => absurd (hc114.symm.trans z) (by decide))
                                        | (rw [stS_f hc102 hRR, rd1_f rfl]
                                           exact ⟨rfl, hq3, rdF_t (rdF_i (Or.inl rfl)) hF3, fun z => by cases z⟩)
                                        | (rw [stS_f hc102 hRR, rd1_cf (by decide) (by decide) hc59]
                                           exact ⟨rfl, hq3, rdF_t (rdF_i (Or.inl rfl)) hF3, fun z => by cases z⟩)
                                        | (rw [stS_f hc102 hRR, rd1_ct (it := 59) (by decide) (by decide) hc59]
                                           refine ⟨rfl, gI_self _ _ _ _, rdF_t (rdF_i (Or.inl rfl)) (rdF_t hF3 (rdF_i (Or.inl rfl))), fun _ => ⟨?_, ?_, ?_⟩⟩
                                           · exact fun z => absurd (hc102.symm.trans z) (by decide)
                                           · exact fun z => absurd (hc102.symm.trans z) (by decide)
                                           · exact fun _ => (gI_ne (Or.inl (by decide))).trans (htd3 rfl 0 (by omega)))
                                        | (rw [stS_n hc112 hc114 hc102]; exact ⟨rfl, hp, rdF_r, fun z => by cases z⟩))
                               · first
                                   | (exfalso; first | exact absurd h57 (by decide) | exact h57 (by decide) | (simp at h57; done))
                                   | (refine xG_run 2 rfl (by repeat' (first | exact trivial | assumption | exact xob_b rfl | exact xal_b rfl | (apply And.intro) | decide)) ?_
                                      try dsimp only [xsto1, xsto2, xkill, xget, xset, gd_0, gd_s]
                                      refine r2_z rfl rfl (by first | decide | assumption) ?_
                                      first
                                        | (rw [stS_p hc112 hRR, rd1_f rfl]
                                           exact ⟨rfl, hq3, rdF_t (rdF_i (Or.inl rfl)) hF3, fun z => by cases z⟩)
                                        | (rw [stS_p hc112 hRR, rd1_cf (by decide) (by decide) hc59]
                                           exact ⟨rfl, hq3, rdF_t (rdF_i (Or.inl rfl)) hF3, fun z => by cases z⟩)
                                        | (rw [stS_p hc112 hRR, rd1_ct (it := 59) (by decide) (by decide) hc59]
                                           refine ⟨rfl, gI_self _ _ _ _, rdF_t (rdF_i (Or.inl rfl)) (rdF_t hF3 (rdF_i (Or.inl rfl))), fun _ => ⟨?_, ?_, ?_⟩⟩
                                           · exact fun _ i hi => (gI_ne (Or.inl (by decide))).trans (htd3 rfl i hi)
                                           · exact fun z => absurd (hc112.symm.trans z) (by decide)
                                           · exact fun z => absurd (hc112.symm.trans z) (by decide))
                                        | (rw [stS_r hc114 hRR, rd1_f rfl]
                                           exact ⟨rfl, hq3, rdF_t (rdF_i (Or.inl rfl)) hF3, fun z => by cases z⟩)
                                        | (rw [stS_r hc114 hRR, rd1_cf (by decide) (by decide) hc59]
                                           exact ⟨rfl, hq3, rdF_t (rdF_i (Or.inl rfl)) hF3, fun z => by cases z⟩)
                                        | (rw [stS_r hc114 hRR, rd1_ct (it := 59) (by decide) (by decide) hc59]
                                           refine ⟨rfl, gI_self _ _ _ _, rdF_t (rdF_i (Or.inl rfl)) (rdF_t hF3 (rdF_i (Or.inl rfl))), fun _ => ⟨?_, ?_, ?_⟩⟩
                                           · exact fun z => absurd (hc114.symm.trans z) (by decide)
                                           · exact fun _ i hi => (gI_ne (Or.inl (by decide))).trans (htd3 rfl i hi)
                                           · exact fun z => absurd (hc114.symm.trans z) (by decide))
                                        | (rw [stS_f hc102 hRR, rd1_f rfl]
                                           exact ⟨rfl, hq3, rdF_t (rdF_i (Or.inl rfl)) hF3, fun z => by cases z⟩)
                                        | (rw [stS_f hc102 hRR, rd1_cf (by decide) (by decide) hc59]
                                           exact ⟨rfl, hq3, rdF_t (rdF_i (Or.inl rfl)) hF3, fun z => by cases z⟩)
                                        | (rw [stS_f hc102 hRR, rd1_ct (it := 59) (by decide) (by decide) hc59]
                                           refine ⟨rfl, gI_self _ _ _ _, rdF_t (rdF_i (Or.inl rfl)) (rdF_t hF3 (rdF_i (Or.inl rfl))), fun _ => ⟨?_, ?_, ?_⟩⟩
                                           · exact fun z => absurd (hc102.symm.trans z) (by decide)
                                           · exact fun z => absurd (hc102.symm.trans z) (by decide)
                                           · exact fun _ => (gI_ne (Or.inl (by decide))).trans (htd3 rfl 0 (by omega)))
                                        | (rw [stS_n hc112 hc114 hc102]; exact ⟨rfl, hp, rdF_r, fun z => by cases z⟩))
                             · dsimp only [Option.toList, List.cons_append, List.nil_append]
                               refine xG_br rfl (fun h57 => ?_) (fun h57 => ?_)
                               · first
                                   | (exfalso; first | exact absurd h57 (by decide) | exact h57 (by decide) | (simp at h57; done))
                                   | (refine xG_run 1 rfl (by repeat' (first | exact trivial | assumption | exact xob_b rfl | exact xal_b rfl | (apply And.intro) | decide)) ?_
                                      try dsimp only [xsto1, xsto2, xkill, xget, xset, gd_0, gd_s]
                                      refine r2_z rfl rfl (by first | decide | assumption) ?_
                                      first
                                        | (rw [stS_p hc112 hRR, rd1_f rfl]
                                           exact ⟨rfl, hq3, rdF_t (rdF_i (Or.inl rfl)) hF3, fun z => by cases z⟩)
                                        | (rw [stS_p hc112 hRR, rd1_cf (by decide) (by decide) hc59]
                                           exact ⟨rfl, hq3, rdF_t (rdF_i (Or.inl rfl)) hF3, fun z => by cases z⟩)
                                        | (rw [stS_p hc112 hRR, rd1_ct (it := 59) (by decide) (by decide) hc59]
                                           refine ⟨rfl, gI_self _ _ _ _, rdF_t (rdF_i (Or.inl rfl)) (rdF_t hF3 (rdF_i (Or.inl rfl))), fun _ => ⟨?_, ?_, ?_⟩⟩
                                           · exact fun _ i hi => (gI_ne (Or.inl (by decide))).trans (htd3 rfl i hi)
                                           · exact fun z => absurd (hc112.symm.trans z) (by decide)
                                           · exact fun z => absurd (hc112.symm.trans z) (by decide))
                                        | (rw [stS_r hc114 hRR, rd1_f rfl]
                                           exact ⟨rfl, hq3, rdF_t (rdF_i (Or.inl rfl)) hF3, fun z => by cases z⟩)
                                        | (rw [stS_r hc114 hRR, rd1_cf (by decide) (by decide) hc59]
                                           exact ⟨rfl, hq3, rdF_t (rdF_i (Or.inl rfl)) hF3, fun z => by cases z⟩)
                                        | (rw [stS_r hc114 hRR, rd1_ct (it := 59) (by decide) (by decide) hc59]
                                           refine ⟨rfl, gI_self _ _ _ _, rdF_t (rdF_i (Or.inl rfl)) (rdF_t hF3 (rdF_i (Or.inl rfl))), fun _ => ⟨?_, ?_, ?_⟩⟩
                                           · exact fun z => absurd (hc114.symm.trans z) (by decide)
                                           · exact fun _ i hi => (gI_ne (Or.inl (by decide))).trans (htd3 rfl i hi)
                                           · exact fun z => absurd (hc114.symm.trans z) (by decide))
                                        | (rw [stS_f hc102 hRR, rd1_f rfl]
                                           exact ⟨rfl, hq3, rdF_t (rdF_i (Or.inl rfl)) hF3, fun z => by cases z⟩)
                                        | (rw [stS_f hc102 hRR, rd1_cf (by decide) (by decide) hc59]
                                           exact ⟨rfl, hq3, rdF_t (rdF_i (Or.inl rfl)) hF3, fun z => by cases z⟩)
                                        | (rw [stS_f hc102 hRR, rd1_ct (it := 59) (by decide) (by decide) hc59]
                                           refine ⟨rfl, gI_self _ _ _ _, rdF_t (rdF_i (Or.inl rfl)) (rdF_t hF3 (rdF_i (Or.inl rfl))), fun _ => ⟨?_, ?_, ?_⟩⟩
                                           · exact fun z => absurd (hc102.symm.trans z) (by decide)
                                           · exact fun z => absurd (hc102.symm.trans z) (by decide)
                                           · exact fun _ => (gI_ne (Or.inl (by decide))).trans (htd3 rfl 0 (by omega)))
                                        | (rw [stS_n hc112 hc114 hc102]; exact ⟨rfl, hp, rdF_r, fun z => by cases z⟩))
                               · first
                                   | (exfalso; first | exact absurd h57 (by decide) | exact h57 (by decide) | (simp at h57; done))
                                   | (refine xG_run 2 rfl (by repeat' (first | exact trivial | assumption | exact xob_b rfl | exact xal_b rfl | (apply And.intro) | decide)) ?_
                                      try dsimp only [xsto1, xsto2, xkill, xget, xset, gd_0, gd_s]
                                      refine r2_z rfl rfl (by first | decide | assumption) ?_
                                      first
                                        | (rw [stS_p hc112 hRR, rd1_f rfl]
                                           exact ⟨rfl, hq3, rdF_t (rdF_i (Or.inl rfl)) hF3, fun z => by cases z⟩)
                                        | (rw [stS_p hc112 hRR, rd1_cf (by decide) (by decide) hc59]
                                           exact ⟨rfl, hq3, rdF_t (rdF_i (Or.inl rfl)) hF3, fun z => by cases z⟩)
                                        | (rw [stS_p hc112 hRR, rd1_ct (it := 59) (by decide) (by decide) hc59]
                                           refine ⟨rfl, gI_self _ _ _ _, rdF_t (rdF_i (Or.inl rfl)) (rdF_t hF3 (rdF_i (Or.inl rfl))), fun _ => ⟨?_, ?_, ?_⟩⟩
                                           · exact fun _ i hi => (gI_ne (Or.inl (by decide))).trans (htd3 rfl i hi)
                                           · exact fun z => absurd (hc112.symm.trans z) (by decide)
                                           · exact fun z => absurd (hc112.symm.trans z) (by decide))
                                        | (rw [stS_r hc114 hRR, rd1_f rfl]
                                           exact ⟨rfl, hq3, rdF_t (rdF_i (Or.inl rfl)) hF3, fun z => by cases z⟩)
                                        | (rw [stS_r hc114 hRR, rd1_cf (by decide) (by decide) hc59]
                                           exact ⟨rfl, hq3, rdF_t (rdF_i (Or.inl rfl)) hF3, fun z => by cases z⟩)
                                        | (rw [stS_r hc114 hRR, rd1_ct (it := 59) (by decide) (by decide) hc59]
                                           refine ⟨rfl, gI_self _ _ _ _, rdF_t (rdF_i (Or.inl rfl)) (rdF_t hF3 (rdF_i (Or.inl rfl))), fun _ => ⟨?_, ?_, ?_⟩⟩
                                           · exact fun z => absurd (hc114.symm.trans z) (by decide)
                                           · exact fun _ i hi => (gI_ne (Or.inl (by decide))).trans (htd3 rfl i hi)
                                           · exact fun z => absurd (hc114.symm.trans z) (by decide))
                                        | (rw [stS_f hc102 hRR, rd1_f rfl]
                                           exact ⟨rfl, hq3, rdF_t (rdF_i (Or.inl rfl)) hF3, fun z => by cases z⟩)
                                        | (rw [stS_f hc102 hRR, rd1_cf (by decide) (by decide) hc59]
                                           exact ⟨rfl, hq3, rdF_t (rdF_i (Or.inl rfl)) hF3, fun z => by cases z⟩)
                                        | (rw [stS_f hc102 hRR, rd1_ct (it := 59) (by decide) (by decide) hc59]
                                           refine ⟨rfl, gI_self _ _ _ _, rdF_t (rdF_i (Or.inl rfl)) (rdF_t hF3 (rdF_i (Or.inl rfl))), fun _ => ⟨?_, ?_, ?_⟩⟩
                                           · exact fun z => absurd (hc102.symm.trans z) (by decide)
                                           · exact fun z => absurd (hc102.symm.trans z) (by decide)
                                           · exact fun _ => (gI_ne (Or.inl (by decide))).trans (htd3 rfl 0 (by omega)))
                                        | (rw [stS_n hc112 hc114 hc102]; exact ⟨rfl, hp, rdF_r, fun z => by cases z⟩))))
           · dsimp only [Option.toList, List.cons_append, List.nil_append]
             refine xG_br rfl (fun h39 => ?_) (fun h39 => ?_)
             · first
                 | (exfalso; first | exact absurd h39 (by decide) | exact h39 (by decide) | (simp at h39; done))
                 | (refine xG_run 2 rfl (by repeat' (first | exact trivial | assumption | exact xob_b rfl | exact xal_b rfl | (apply And.intro) | decide)) ?_
                    try dsimp only [xsto1, xsto2, xkill, xget, xset, gd_0, gd_s]
                    refine xG_c2 1 rfl (by repeat' (first | exact trivial | assumption | exact xob_b rfl | exact xal_b rfl | (apply And.intro) | decide)) rfl rfl (by decide) cw_X12_takes (d' := d - 1) (e_takes (p := p) (c := 102) hT hp (by omega) (by omega)) (by omega) ?_
                    rintro v M102 (⟨hc102, rfl, rfl⟩ | ⟨hc102, rfl, rfl⟩)
                    · dsimp only [Option.toList, List.cons_append, List.nil_append]
                      have hlt102 := chr_p hc102 (by decide)
                      have hTa := rT_F hT (rdF_i (k := 12) (v := nI (p + 1)) (Or.inl rfl))
                      refine xG_br rfl (fun h72 => ?_) (fun h72 => ?_)
                      · first
                          | (exfalso; first | exact absurd h72 (by decide) | exact h72 (by decide) | (simp at h72; done))
                          | (refine xG_run 1 rfl (by repeat' (first | exact trivial | assumption | exact xob_b rfl | exact xal_b rfl | (apply And.intro) | decide)) ?_
                             try dsimp only [xsto1, xsto2, xkill, xget, xset, gd_0, gd_s]
                             refine r2_z rfl rfl (by first | decide | assumption) ?_
                             first
                               | (rw [stS_p hc112 hRR, rd1_f rfl]
                                  exact ⟨rfl, hq3, rdF_t (rdF_i (Or.inl rfl)) hF3, fun z => by cases z⟩)
                               | (rw [stS_p hc112 hRR, rd1_cf (by decide) (by decide) hc59]
                                  exact ⟨rfl, hq3, rdF_t (rdF_i (Or.inl rfl)) hF3, fun z => by cases z⟩)
                               | (rw [stS_p hc112 hRR, rd1_ct (it := 59) (by decide) (by decide) hc59]
                                  refine ⟨rfl, gI_self _ _ _ _, rdF_t (rdF_i (Or.inl rfl)) (rdF_t hF3 (rdF_i (Or.inl rfl))), fun _ => ⟨?_, ?_, ?_⟩⟩
                                  · exact fun _ i hi => (gI_ne (Or.inl (by decide))).trans (htd3 rfl i hi)
                                  · exact fun z => absurd (hc112.symm.trans z) (by decide)
                                  · exact fun z => absurd (hc112.symm.trans z) (by decide))
                               | (rw [stS_r hc114 hRR, rd1_f rfl]
                                  exact ⟨rfl, hq3, rdF_t (rdF_i (Or.inl rfl)) hF3, fun z => by cases z⟩)
                               | (rw [stS_r hc114 hRR, rd1_cf (by decide) (by decide) hc59]
                                  exact ⟨rfl, hq3, rdF_t (rdF_i (Or.inl rfl)) hF3, fun z => by cases z⟩)
                               | (rw [stS_r hc114 hRR, rd1_ct (it := 59) (by decide) (by decide) hc59]
                                  refine ⟨rfl, gI_self _ _ _ _, rdF_t (rdF_i (Or.inl rfl)) (rdF_t hF3 (rdF_i (Or.inl rfl))), fun _ => ⟨?_, ?_, ?_⟩⟩
                                  · exact fun z => absurd (hc114.symm.trans z) (by decide)
                                  · exact fun _ i hi => (gI_ne (Or.inl (by decide))).trans (htd3 rfl i hi)
                                  · exact fun z => absurd (hc114.symm.trans z) (by decide))
                               | (rw [stS_f hc102 hRR, rd1_f rfl]
                                  exact ⟨rfl, hq3, rdF_t (rdF_i (Or.inl rfl)) hF3, fun z => by cases z⟩)
                               | (rw [stS_f hc102 hRR, rd1_cf (by decide) (by decide) hc59]
                                  exact ⟨rfl, hq3, rdF_t (rdF_i (Or.inl rfl)) hF3, fun z => by cases z⟩)
                               | (rw [stS_f hc102 hRR, rd1_ct (it := 59) (by decide) (by decide) hc59]
                                  refine ⟨rfl, gI_self _ _ _ _, rdF_t (rdF_i (Or.inl rfl)) (rdF_t hF3 (rdF_i (Or.inl rfl))), fun _ => ⟨?_, ?_, ?_⟩⟩
                                  · exact fun z => absurd (hc102.symm.trans z) (by decide)
                                  · exact fun z => absurd (hc102.symm.trans z) (by decide)
                                  · exact fun _ => (gI_ne (Or.inl (by decide))).trans (htd3 rfl 0 (by omega)))
                               | (rw [stS_n hc112 hc114 hc102]; exact ⟨rfl, hp, rdF_r, fun z => by cases z⟩))
                      · first
                          | (exfalso; first | exact absurd h72 (by decide) | exact h72 (by decide) | (simp at h72; done))
                          | (refine xG_run 3 rfl (by repeat' (first | exact trivial | assumption | exact xob_b rfl | exact xal_b rfl | (apply And.intro) | decide)) ?_
                             try dsimp only [xsto1, xsto2, xkill, xget, xset, gd_0, gd_s]
                             refine xG_c2 2 rfl (by repeat' (first | exact trivial | assumption | exact xob_b rfl | exact xal_b rfl | (apply And.intro) | decide)) rfl rfl (by decide) cw_X12_readsNumbers (d' := d - 1) (e_readsNumbersU (m := 1) (p := p + 1) (sv := 0) hTa (gI_self _ _ _ _) (by omega) (by omega) (by omega)) (by omega) ?_
                             rintro v M3 ⟨rfl, hq3, hF3, htd3⟩
                             rcases hRR : rdS T n (itK false 1) (true, p + 1, [], 0) with ⟨ok, q, l, sx⟩
                             try rw [hRR] at hq3 htd3
                             dsimp only at hq3 htd3
                             cases ok
                             · dsimp only [Option.toList, List.cons_append, List.nil_append]
                               refine xG_br rfl (fun h81 => ?_) (fun h81 => ?_)
                               · first
                                   | (exfalso; first | exact absurd h81 (by decide) | exact h81 (by decide) | (simp at h81; done))
                                   | (refine xG_run 1 rfl (by repeat' (first | exact trivial | assumption | exact xob_b rfl | exact xal_b rfl | (apply And.intro) | decide)) ?_
                                      try dsimp only [xsto1, xsto2, xkill, xget, xset, gd_0, gd_s]
                                      refine r2_z rfl rfl (by first | decide | assumption) ?_
                                      first
                                        | (rw [stS_p hc112 hRR, rd1_f rfl]
                                           exact ⟨rfl, hq3, rdF_t (rdF_i (Or.inl rfl)) hF3, fun z => by cases z⟩)
                                        | (rw [stS_p hc112 hRR, rd1_cf (by decide) (by decide) hc59]
                                           exact ⟨rfl, hq3, rdF_t (rdF_i (Or.inl rfl)) hF3, fun z => by cases z⟩)
                                        | (rw [stS_p hc112 hRR, rd1_ct (it := 59) (by decide) (by decide) hc59]
                                           refine ⟨rfl, gI_self _ _ _ _, rdF_t (rdF_i (Or.inl rfl)) (rdF_t hF3 (rdF_i (Or.inl rfl))), fun _ => ⟨?_, ?_, ?_⟩⟩
                                           · exact fun _ i hi => (gI_ne (Or.inl (by decide))).trans (htd3 rfl i hi)
                                           · exact fun z => absurd (hc112.symm.trans z) (by decide)
                                           · exact fun z => absurd (hc112.symm.trans z) (by decide))
                                        | (rw [stS_r hc114 hRR, rd1_f rfl]
                                           exact ⟨rfl, hq3, rdF_t (rdF_i (Or.inl rfl)) hF3, fun z => by cases z⟩)
                                        | (rw [stS_r hc114 hRR, rd1_cf (by decide) (by decide) hc59]
                                           exact ⟨rfl, hq3, rdF_t (rdF_i (Or.inl rfl)) hF3, fun z => by cases z⟩)
                                        | (rw [stS_r hc114 hRR, rd1_ct (it := 59) (by decide) (by decide) hc59]
                                           refine ⟨rfl, gI_self _ _ _ _, rdF_t (rdF_i (Or.inl rfl)) (rdF_t hF3 (rdF_i (Or.inl rfl))), fun _ => ⟨?_, ?_, ?_⟩⟩
                                           · exact fun z => absurd (hc114.symm.trans z) (by decide)
                                           · exact fun _ i hi => (gI_ne (Or.inl (by decide))).trans (htd3 rfl i hi)
                                           · exact fun z => absurd (hc114.symm.trans z) (by decide))
                                        | (rw [stS_f hc102 hRR, rd1_f rfl]
                                           exact ⟨rfl, hq3, rdF_t (rdF_i (Or.inl rfl)) hF3, fun z => by cases z⟩)
                                        | (rw [stS_f hc102 hRR, rd1_cf (by decide) (by decide) hc59]
                                           exact ⟨rfl, hq3, rdF_t (rdF_i (Or.inl rfl)) hF3, fun z => by cases z⟩)
                                        | (rw [stS_f hc102 hRR, rd1_ct (it := 59) (by decide) (by decide) hc59]
                                           refine ⟨rfl, gI_self _ _ _ _, rdF_t (rdF_i (Or.inl rfl)) (rdF_t hF3 (rdF_i (Or.inl rfl))), fun _ => ⟨?_, ?_, ?_⟩⟩
                                           · exact fun z => absurd (hc102.symm.trans z) (by decide)
                                           · exact fun z => absurd (hc102.symm.trans z) (by decide)
                                           · exact fun _ => (gI_ne (Or.inl (by decide))).trans (htd3 rfl 0 (by omega)))
                                        | (rw [stS_n hc112 hc114 hc102]; exact ⟨rfl, hp, rdF_r, fun z => by cases z⟩))
                               · first
                                   | (exfalso; first | exact absurd h81 (by decide) | exact h81 (by decide) | (simp at h81; done))
                                   | (refine xG_run 2 rfl (by repeat' (first | exact trivial | assumption | exact xob_b rfl | exact xal_b rfl | (apply And.intro) | decide)) ?_
                                      try dsimp only [xsto1, xsto2, xkill, xget, xset, gd_0, gd_s]
                                      refine xG_c2 1 rfl (by repeat' (first | exact trivial | assumption | exact xob_b rfl | exact xal_b rfl | (apply And.intro) | decide)) rfl rfl (by decide) cw_X12_takes (d' := d - 1) (e_takes (p := q) (c := 59) hT3 hq3 (by omega) (by omega)) (by omega) ?_
                                      rintro v M4 (⟨hc59, rfl, rfl⟩ | ⟨hc59, rfl, rfl⟩)
                                      · dsimp only [Option.toList, List.cons_append, List.nil_append]
                                        refine xG_br rfl (fun h90 => ?_) (fun h90 => ?_)
                                        · first
                                            | (exfalso; first | exact absurd h90 (by decide) | exact h90 (by decide) | (simp at h90; done))
                                            | (refine xG_run 1 rfl (by repeat' (first | exact trivial | assumption | exact xob_b rfl | exact xal_b rfl | (apply And.intro) | decide)) ?_
                                               try dsimp only [xsto1, xsto2, xkill, xget, xset, gd_0, gd_s]
                                               refine r2_z rfl rfl (by first | decide | assumption) ?_
                                               first
                                                 | (rw [stS_p hc112 hRR, rd1_f rfl]
                                                    exact ⟨rfl, hq3, rdF_t (rdF_i (Or.inl rfl)) hF3, fun z => by cases z⟩)
                                                 | (rw [stS_p hc112 hRR, rd1_cf (by decide) (by decide) hc59]
                                                    exact ⟨rfl, hq3, rdF_t (rdF_i (Or.inl rfl)) hF3, fun z => by cases z⟩)
                                                 | (rw [stS_p hc112 hRR, rd1_ct (it := 59) (by decide) (by decide) hc59]
                                                    refine ⟨rfl, gI_self _ _ _ _, rdF_t (rdF_i (Or.inl rfl)) (rdF_t hF3 (rdF_i (Or.inl rfl))), fun _ => ⟨?_, ?_, ?_⟩⟩
                                                    · exact fun _ i hi => (gI_ne (Or.inl (by decide))).trans (htd3 rfl i hi)
                                                    · exact fun z => absurd (hc112.symm.trans z) (by decide)
                                                    · exact fun z => absurd (hc112.symm.trans z) (by decide))
                                                 | (rw [stS_r hc114 hRR, rd1_f rfl]
                                                    exact ⟨rfl, hq3, rdF_t (rdF_i (Or.inl rfl)) hF3, fun z => by cases z⟩)
                                                 | (rw [stS_r hc114 hRR, rd1_cf (by decide) (by decide) hc59]
                                                    exact ⟨rfl, hq3, rdF_t (rdF_i (Or.inl rfl)) hF3, fun z => by cases z⟩)
                                                 | (rw [stS_r hc114 hRR, rd1_ct (it := 59) (by decide) (by decide) hc59]
                                                    refine ⟨rfl, gI_self _ _ _ _, rdF_t (rdF_i (Or.inl rfl)) (rdF_t hF3 (rdF_i (Or.inl rfl))), fun _ => ⟨?_, ?_, ?_⟩⟩
                                                    · exact fun z => absurd (hc114.symm.trans z) (by decide)
                                                    · exact fun _ i hi => (gI_ne (Or.inl (by decide))).trans (htd3 rfl i hi)
                                                    · exact fun z => absurd (hc114.symm.trans z) (by decide))
                                                 | (rw [stS_f hc102 hRR, rd1_f rfl]
                                                    exact ⟨rfl, hq3, rdF_t (rdF_i (Or.inl rfl)) hF3, fun z => by cases z⟩)
                                                 | (rw [stS_f hc102 hRR, rd1_cf (by decide) (by decide) hc59]
                                                    exact ⟨rfl, hq3, rdF_t (rdF_i (Or.inl rfl)) hF3, fun z => by cases z⟩)
                                                 | (rw [stS_f hc102 hRR, rd1_ct (it := 59) (by decide) (by decide) hc59]
                                                    refine ⟨rfl, gI_self _ _ _ _, rdF_t (rdF_i (Or.inl rfl)) (rdF_t hF3 (rdF_i (Or.inl rfl))), fun _ => ⟨?_, ?_, ?_⟩⟩
                                                    · exact fun z => absurd (hc102.symm.trans z) (by decide)
                                                    · exact fun z => absurd (hc102.symm.trans z) (by decide)
                                                    · exact fun _ => (gI_ne (Or.inl (by decide))).trans (htd3 rfl 0 (by omega)))
                                                 | (rw [stS_n hc112 hc114 hc102]; exact ⟨rfl, hp, rdF_r, fun z => by cases z⟩))
                                        · first
                                            | (exfalso; first | exact absurd h90 (by decide) | exact h90 (by decide) | (simp at h90; done))
                                            | (refine xG_run 2 rfl (by repeat' (first | exact trivial | assumption | exact xob_b rfl | exact xal_b rfl | (apply And.intro) | decide)) ?_
                                               try dsimp only [xsto1, xsto2, xkill, xget, xset, gd_0, gd_s]
                                               refine r2_z rfl rfl (by first | decide | assumption) ?_
                                               first
                                                 | (rw [stS_p hc112 hRR, rd1_f rfl]
                                                    exact ⟨rfl, hq3, rdF_t (rdF_i (Or.inl rfl)) hF3, fun z => by cases z⟩)
                                                 | (rw [stS_p hc112 hRR, rd1_cf (by decide) (by decide) hc59]
                                                    exact ⟨rfl, hq3, rdF_t (rdF_i (Or.inl rfl)) hF3, fun z => by cases z⟩)
                                                 | (rw [stS_p hc112 hRR, rd1_ct (it := 59) (by decide) (by decide) hc59]
                                                    refine ⟨rfl, gI_self _ _ _ _, rdF_t (rdF_i (Or.inl rfl)) (rdF_t hF3 (rdF_i (Or.inl rfl))), fun _ => ⟨?_, ?_, ?_⟩⟩
                                                    · exact fun _ i hi => (gI_ne (Or.inl (by decide))).trans (htd3 rfl i hi)
                                                    · exact fun z => absurd (hc112.symm.trans z) (by decide)
                                                    · exact fun z => absurd (hc112.symm.trans z) (by decide))
                                                 | (rw [stS_r hc114 hRR, rd1_f rfl]
                                                    exact ⟨rfl, hq3, rdF_t (rdF_i (Or.inl rfl)) hF3, fun z => by cases z⟩)
                                                 | (rw [stS_r hc114 hRR, rd1_cf (by decide) (by decide) hc59]
                                                    exact ⟨rfl, hq3, rdF_t (rdF_i (Or.inl rfl)) hF3, fun z => by cases z⟩)
                                                 | (rw [stS_r hc114 hRR, rd1_ct (it := 59) (by decide) (by decide) hc59]
                                                    refine ⟨rfl, gI_self _ _ _ _, rdF_t (rdF_i (Or.inl rfl)) (rdF_t hF3 (rdF_i (Or.inl rfl))), fun _ => ⟨?_, ?_, ?_⟩⟩
                                                    · exact fun z => absurd (hc114.symm.trans z) (by decide)
                                                    · exact fun _ i hi => (gI_ne (Or.inl (by decide))).trans (htd3 rfl i hi)
                                                    · exact fun z => absurd (hc114.symm.trans z) (by decide))
                                                 | (rw [stS_f hc102 hRR, rd1_f rfl]
                                                    exact ⟨rfl, hq3, rdF_t (rdF_i (Or.inl rfl)) hF3, fun z => by cases z⟩)
                                                 | (rw [stS_f hc102 hRR, rd1_cf (by decide) (by decide) hc59]
                                                    exact ⟨rfl, hq3, rdF_t (rdF_i (Or.inl rfl)) hF3, fun z => by cases z⟩)
                                                 | (rw [stS_f hc102 hRR, rd1_ct (it := 59) (by decide) (by decide) hc59]
                                                    refine ⟨rfl, gI_self _ _ _ _, rdF_t (rdF_i (Or.inl rfl)) (rdF_t hF3 (rdF_i (Or.inl rfl))), fun _ => ⟨?_, ?_, ?_⟩⟩
                                                    · exact fun z => absurd (hc102.symm.trans z) (by decide)
                                                    · exact fun z => absurd (hc102.symm.trans z) (by decide)
                                                    · exact fun _ => (gI_ne (Or.inl (by decide))).trans (htd3 rfl 0 (by omega)))
                                                 | (rw [stS_n hc112 hc114 hc102]; exact ⟨rfl, hp, rdF_r, fun z => by cases z⟩))
                                      · dsimp only [Option.toList, List.cons_append, List.nil_append]
                                        refine xG_br rfl (fun h90 => ?_) (fun h90 => ?_)
                                        · first
                                            | (exfalso; first | exact absurd h90 (by decide) | exact h90 (by decide) | (simp at h90; done))
                                            | (refine xG_run 1 rfl (by repeat' (first | exact trivial | assumption | exact xob_b rfl | exact xal_b rfl | (apply And.intro) | decide)) ?_
                                               try dsimp only [xsto1, xsto2, xkill, xget, xset, gd_0, gd_s]
                                               refine r2_z rfl rfl (by first | decide | assumption) ?_
                                               first
                                                 | (rw [stS_p hc112 hRR, rd1_f rfl]
                                                    exact ⟨rfl, hq3, rdF_t (rdF_i (Or.inl rfl)) hF3, fun z => by cases z⟩)
                                                 | (rw [stS_p hc112 hRR, rd1_cf (by decide) (by decide) hc59]
                                                    exact ⟨rfl, hq3, rdF_t (rdF_i (Or.inl rfl)) hF3, fun z => by cases z⟩)
                                                 | (rw [stS_p hc112 hRR, rd1_ct (it := 59) (by decide) (by decide) hc59]
                                                    refine ⟨rfl, gI_self _ _ _ _, rdF_t (rdF_i (Or.inl rfl)) (rdF_t hF3 (rdF_i (Or.inl rfl))), fun _ => ⟨?_, ?_, ?_⟩⟩
                                                    · exact fun _ i hi => (gI_ne (Or.inl (by decide))).trans (htd3 rfl i hi)
                                                    · exact fun z => absurd (hc112.symm.trans z) (by decide)
                                                    · exact fun z => absurd (hc112.symm.trans z) (by decide))
                                                 | (rw [stS_r hc114 hRR, rd1_f rfl]
                                                    exact ⟨rfl, hq3, rdF_t (rdF_i (Or.inl rfl)) hF3, fun z => by cases z⟩)
                                                 | (rw [stS_r hc114 hRR, rd1_cf (by decide) (by decide) hc59]
                                                    exact ⟨rfl, hq3, rdF_t (rdF_i (Or.inl rfl)) hF3, fun z => by cases z⟩)
                                                 | (rw [stS_r hc114 hRR, rd1_ct (it := 59) (by decide) (by decide) hc59]
                                                    refine ⟨rfl, gI_self _ _ _ _, rdF_t (rdF_i (Or.inl rfl)) (rdF_t hF3 (rdF_i (Or.inl rfl))), fun _ => ⟨?_, ?_, ?_⟩⟩
                                                    · exact fun z => absurd (hc114.symm.trans z) (by decide)
                                                    · exact fun _ i hi => (gI_ne (Or.inl (by decide))).trans (htd3 rfl i hi)
                                                    · exact fun z => absurd (hc114.symm.trans z) (by decide))
                                                 | (rw [stS_f hc102 hRR, rd1_f rfl]
                                                    exact ⟨rfl, hq3, rdF_t (rdF_i (Or.inl rfl)) hF3, fun z => by cases z⟩)
                                                 | (rw [stS_f hc102 hRR, rd1_cf (by decide) (by decide) hc59]
                                                    exact ⟨rfl, hq3, rdF_t (rdF_i (Or.inl rfl)) hF3, fun z => by cases z⟩)
                                                 | (rw [stS_f hc102 hRR, rd1_ct (it := 59) (by decide) (by decide) hc59]
                                                    refine ⟨rfl, gI_self _ _ _ _, rdF_t (rdF_i (Or.inl rfl)) (rdF_t hF3 (rdF_i (Or.inl rfl))), fun _ => ⟨?_, ?_, ?_⟩⟩
                                                    · exact fun z => absurd (hc102.symm.trans z) (by decide)
                                                    · exact fun z => absurd (hc102.symm.trans z) (by decide)
                                                    · exact fun _ => (gI_ne (Or.inl (by decide))).trans (htd3 rfl 0 (by omega)))
                                                 | (rw [stS_n hc112 hc114 hc102]; exact ⟨rfl, hp, rdF_r, fun z => by cases z⟩))
                                        · first
                                            | (exfalso; first | exact absurd h90 (by decide) | exact h90 (by decide) | (simp at h90; done))
                                            | (refine xG_run 2 rfl (by repeat' (first | exact trivial | assumption | exact xob_b rfl | exact xal_b rfl | (apply And.intro) | decide)) ?_
                                               try dsimp only [xsto1, xsto2, xkill, xget, xset, gd_0, gd_s]
                                               refine r2_z rfl rfl (by first | decide | assumption) ?_
                                               first
                                                 | (rw [stS_p hc112 hRR, rd1_f rfl]
                                                    exact ⟨rfl, hq3, rdF_t (rdF_i (Or.inl rfl)) hF3, fun z => by cases z⟩)
                                                 | (rw [stS_p hc112 hRR, rd1_cf (by decide) (by decide) hc59]
                                                    exact ⟨rfl, hq3, rdF_t (rdF_i (Or.inl rfl)) hF3, fun z => by cases z⟩)
                                                 | (rw [stS_p hc112 hRR, rd1_ct (it := 59) (by decide) (by decide) hc59]
                                                    refine ⟨rfl, gI_self _ _ _ _, rdF_t (rdF_i (Or.inl rfl)) (rdF_t hF3 (rdF_i (Or.inl rfl))), fun _ => ⟨?_, ?_, ?_⟩⟩
                                                    · exact fun _ i hi => (gI_ne (Or.inl (by decide))).trans (htd3 rfl i hi)
                                                    · exact fun z => absurd (hc112.symm.trans z) (by decide)
                                                    · exact fun z => absurd (hc112.symm.trans z) (by decide))
                                                 | (rw [stS_r hc114 hRR, rd1_f rfl]
                                                    exact ⟨rfl, hq3, rdF_t (rdF_i (Or.inl rfl)) hF3, fun z => by cases z⟩)
                                                 | (rw [stS_r hc114 hRR, rd1_cf (by decide) (by decide) hc59]
                                                    exact ⟨rfl, hq3, rdF_t (rdF_i (Or.inl rfl)) hF3, fun z => by cases z⟩)
                                                 | (rw [stS_r hc114 hRR, rd1_ct (it := 59) (by decide) (by decide) hc59]
                                                    refine ⟨rfl, gI_self _ _ _ _, rdF_t (rdF_i (Or.inl rfl)) (rdF_t hF3 (rdF_i (Or.inl rfl))), fun _ => ⟨?_, ?_, ?_⟩⟩
                                                    · exact fun z => absurd (hc114.symm.trans z) (by decide)
                                                    · exact fun _ i hi => (gI_ne (Or.inl (by decide))).trans (htd3 rfl i hi)
                                                    · exact fun z => absurd (hc114.symm.trans z) (by decide))
                                                 | (rw [stS_f hc102 hRR, rd1_f rfl]
                                                    exact ⟨rfl, hq3, rdF_t (rdF_i (Or.inl rfl)) hF3, fun z => by cases z⟩)
                                                 | (rw [stS_f hc102 hRR, rd1_cf (by decide) (by decide) hc59]
                                                    exact ⟨rfl, hq3, rdF_t (rdF_i (Or.inl rfl)) hF3, fun z => by cases z⟩)
                                                 | (rw [stS_f hc102 hRR, rd1_ct (it := 59) (by decide) (by decide) hc59]
                                                    refine ⟨rfl, gI_self _ _ _ _, rdF_t (rdF_i (Or.inl rfl)) (rdF_t hF3 (rdF_i (Or.inl rfl))), fun _ => ⟨?_, ?_, ?_⟩⟩
                                                    · exact fun z => absurd (hc102.symm.trans z) (by decide)
                                                    · exact fun z => absurd (hc102.symm.trans z) (by decide)
                                                    · exact fun _ => (gI_ne (Or.inl (by decide))).trans (htd3 rfl 0 (by omega)))
                                                 | (rw [stS_n hc112 hc114 hc102]; exact ⟨rfl, hp, rdF_r, fun z => by cases z⟩)))
                             · dsimp only [Option.toList, List.cons_append, List.nil_append]
                               have hT3 := rT_F hTa hF3
                               have hq9 : q ≤ n := by
                                 have e := rdS_le (T := T) (n := n) (l := itK false 1) (s := (true, p + 1, [], 0)) (by show p + 1 ≤ n; omega) (itK_le 1)
                                 rw [hRR] at e
                                 exact e
                               refine xG_br rfl (fun h81 => ?_) (fun h81 => ?_)
                               · first
                                   | (exfalso; first | exact absurd h81 (by decide) | exact h81 (by decide) | (simp at h81; done))
                                   | (refine xG_run 1 rfl (by repeat' (first | exact trivial | assumption | exact xob_b rfl | exact xal_b rfl | (apply And.intro) | decide)) ?_
                                      try dsimp only [xsto1, xsto2, xkill, xget, xset, gd_0, gd_s]
                                      refine r2_z rfl rfl (by first | decide | assumption) ?_
                                      first
                                        | (rw [stS_p hc112 hRR, rd1_f rfl]
                                           exact ⟨rfl, hq3, rdF_t (rdF_i (Or.inl rfl)) hF3, fun z => by cases z⟩)
                                        | (rw [stS_p hc112 hRR, rd1_cf (by decide) (by decide) hc59]
                                           exact ⟨rfl, hq3, rdF_t (rdF_i (Or.inl rfl)) hF3, fun z => by cases z⟩)
                                        | (rw [stS_p hc112 hRR, rd1_ct (it := 59) (by decide) (by decide) hc59]
                                           refine ⟨rfl, gI_self _ _ _ _, rdF_t (rdF_i (Or.inl rfl)) (rdF_t hF3 (rdF_i (Or.inl rfl))), fun _ => ⟨?_, ?_, ?_⟩⟩
                                           · exact fun _ i hi => (gI_ne (Or.inl (by decide))).trans (htd3 rfl i hi)
                                           · exact fun z => absurd (hc112.symm.trans z) (by decide)
                                           · exact fun z => absurd (hc112.symm.trans z) (by decide))
                                        | (rw [stS_r hc114 hRR, rd1_f rfl]
                                           exact ⟨rfl, hq3, rdF_t (rdF_i (Or.inl rfl)) hF3, fun z => by cases z⟩)
                                        | (rw [stS_r hc114 hRR, rd1_cf (by decide) (by decide) hc59]
                                           exact ⟨rfl, hq3, rdF_t (rdF_i (Or.inl rfl)) hF3, fun z => by cases z⟩)
                                        | (rw [stS_r hc114 hRR, rd1_ct (it := 59) (by decide) (by decide) hc59]
                                           refine ⟨rfl, gI_self _ _ _ _, rdF_t (rdF_i (Or.inl rfl)) (rdF_t hF3 (rdF_i (Or.inl rfl))), fun _ => ⟨?_, ?_, ?_⟩⟩
                                           · exact fun z => absurd (hc114.symm.trans z) (by decide)
                                           · exact fun _ i hi => (gI_ne (Or.inl (by decide))).trans (htd3 rfl i hi)
                                           · exact fun z => absurd (hc114.symm.trans z) (by decide))
                                        | (rw [stS_f hc102 hRR, rd1_f rfl]
                                           exact ⟨rfl, hq3, rdF_t (rdF_i (Or.inl rfl)) hF3, fun z => by cases z⟩)
                                        | (rw [stS_f hc102 hRR, rd1_cf (by decide) (by decide) hc59]
                                           exact ⟨rfl, hq3, rdF_t (rdF_i (Or.inl rfl)) hF3, fun z => by cases z⟩)
                                        | (rw [stS_f hc102 hRR, rd1_ct (it := 59) (by decide) (by decide) hc59]
                                           refine ⟨rfl, gI_self _ _ _ _, rdF_t (rdF_i (Or.inl rfl)) (rdF_t hF3 (rdF_i (Or.inl rfl))), fun _ => ⟨?_, ?_, ?_⟩⟩
                                           · exact fun z => absurd (hc102.symm.trans z) (by decide)
                                           · exact fun z => absurd (hc102.symm.trans z) (by decide)
                                           · exact fun _ => (gI_ne (Or.inl (by decide))).trans (htd3 rfl 0 (by omega)))
                                        | (rw [stS_n hc112 hc114 hc102]; exact ⟨rfl, hp, rdF_r, fun z => by cases z⟩))
                               · first
                                   | (exfalso; first | exact absurd h81 (by decide) | exact h81 (by decide) | (simp at h81; done))
                                   | (refine xG_run 2 rfl (by repeat' (first | exact trivial | assumption | exact xob_b rfl | exact xal_b rfl | (apply And.intro) | decide)) ?_
                                      try dsimp only [xsto1, xsto2, xkill, xget, xset, gd_0, gd_s]
                                      refine xG_c2 1 rfl (by repeat' (first | exact trivial | assumption | exact xob_b rfl | exact xal_b rfl | (apply And.intro) | decide)) rfl rfl (by decide) cw_X12_takes (d' := d - 1) (e_takes (p := q) (c := 59) hT3 hq3 (by omega) (by omega)) (by omega) ?_
                                      rintro v M4 (⟨hc59, rfl, rfl⟩ | ⟨hc59, rfl, rfl⟩)
                                      · dsimp only [Option.toList, List.cons_append, List.nil_append]
                                        refine xG_br rfl (fun h90 => ?_) (fun h90 => ?_)
                                        · first
                                            | (exfalso; first | exact absurd h90 (by decide) | exact h90 (by decide) | (simp at h90; done))
                                            | (refine xG_run 1 rfl (by repeat' (first | exact trivial | assumption | exact xob_b rfl | exact xal_b rfl | (apply And.intro) | decide)) ?_
                                               try dsimp only [xsto1, xsto2, xkill, xget, xset, gd_0, gd_s]
                                               refine r2_z rfl rfl (by first | decide | assumption) ?_
                                               first
                                                 | (rw [stS_p hc112 hRR, rd1_f rfl]
                                                    exact ⟨rfl, hq3, rdF_t (rdF_i (Or.inl rfl)) hF3, fun z => by cases z⟩)
                                                 | (rw [stS_p hc112 hRR, rd1_cf (by decide) (by decide) hc59]
                                                    exact ⟨rfl, hq3, rdF_t (rdF_i (Or.inl rfl)) hF3, fun z => by cases z⟩)
                                                 | (rw [stS_p hc112 hRR, rd1_ct (it := 59) (by decide) (by decide) hc59]
                                                    refine ⟨rfl, gI_self _ _ _ _, rdF_t (rdF_i (Or.inl rfl)) (rdF_t hF3 (rdF_i (Or.inl rfl))), fun _ => ⟨?_, ?_, ?_⟩⟩
                                                    · exact fun _ i hi => (gI_ne (Or.inl (by decide))).trans (htd3 rfl i hi)
                                                    · exact fun z => absurd (hc112.symm.trans z) (by decide)
                                                    · exact fun z => absurd (hc112.symm.trans z) (by decide))
                                                 | (rw [stS_r hc114 hRR, rd1_f rfl]
                                                    exact ⟨rfl, hq3, rdF_t (rdF_i (Or.inl rfl)) hF3, fun z => by cases z⟩)
                                                 | (rw [stS_r hc114 hRR, rd1_cf (by decide) (by decide) hc59]
                                                    exact ⟨rfl, hq3, rdF_t (rdF_i (Or.inl rfl)) hF3, fun z => by cases z⟩)
                                                 | (rw [stS_r hc114 hRR, rd1_ct (it := 59) (by decide) (by decide) hc59]
                                                    refine ⟨rfl, gI_self _ _ _ _, rdF_t (rdF_i (Or.inl rfl)) (rdF_t hF3 (rdF_i (Or.inl rfl))), fun _ => ⟨?_, ?_, ?_⟩⟩
                                                    · exact fun z => absurd (hc114.symm.trans z) (by decide)
                                                    · exact fun _ i hi => (gI_ne (Or.inl (by decide))).trans (htd3 rfl i hi)
                                                    · exact fun z => absurd (hc114.symm.trans z) (by decide))
                                                 | (rw [stS_f hc102 hRR, rd1_f rfl]
                                                    exact ⟨rfl, hq3, rdF_t (rdF_i (Or.inl rfl)) hF3, fun z => by cases z⟩)
                                                 | (rw [stS_f hc102 hRR, rd1_cf (by decide) (by decide) hc59]
                                                    exact ⟨rfl, hq3, rdF_t (rdF_i (Or.inl rfl)) hF3, fun z => by cases z⟩)
                                                 | (rw [stS_f hc102 hRR, rd1_ct (it := 59) (by decide) (by decide) hc59]
                                                    refine ⟨rfl, gI_self _ _ _ _, rdF_t (rdF_i (Or.inl rfl)) (rdF_t hF3 (rdF_i (Or.inl rfl))), fun _ => ⟨?_, ?_, ?_⟩⟩
                                                    · exact fun z => absurd (hc102.symm.trans z) (by decide)
                                                    · exact fun z => absurd (hc102.symm.trans z) (by decide)
                                                    · exact fun _ => (gI_ne (Or.inl (by decide))).trans (htd3 rfl 0 (by omega)))
                                                 | (rw [stS_n hc112 hc114 hc102]; exact ⟨rfl, hp, rdF_r, fun z => by cases z⟩))
                                        · first
                                            | (exfalso; first | exact absurd h90 (by decide) | exact h90 (by decide) | (simp at h90; done))
                                            | (refine xG_run 2 rfl (by repeat' (first | exact trivial | assumption | exact xob_b rfl | exact xal_b rfl | (apply And.intro) | decide)) ?_
                                               try dsimp only [xsto1, xsto2, xkill, xget, xset, gd_0, gd_s]
                                               refine r2_z rfl rfl (by first | decide | assumption) ?_
                                               first
                                                 | (rw [stS_p hc112 hRR, rd1_f rfl]
                                                    exact ⟨rfl, hq3, rdF_t (rdF_i (Or.inl rfl)) hF3, fun z => by cases z⟩)
                                                 | (rw [stS_p hc112 hRR, rd1_cf (by decide) (by decide) hc59]
                                                    exact ⟨rfl, hq3, rdF_t (rdF_i (Or.inl rfl)) hF3, fun z => by cases z⟩)
                                                 | (rw [stS_p hc112 hRR, rd1_ct (it := 59) (by decide) (by decide) hc59]
                                                    refine ⟨rfl, gI_self _ _ _ _, rdF_t (rdF_i (Or.inl rfl)) (rdF_t hF3 (rdF_i (Or.inl rfl))), fun _ => ⟨?_, ?_, ?_⟩⟩
                                                    · exact fun _ i hi => (gI_ne (Or.inl (by decide))).trans (htd3 rfl i hi)
                                                    · exact fun z => absurd (hc112.symm.trans z) (by decide)
                                                    · exact fun z => absurd (hc112.symm.trans z) (by decide))
                                                 | (rw [stS_r hc114 hRR, rd1_f rfl]
                                                    exact ⟨rfl, hq3, rdF_t (rdF_i (Or.inl rfl)) hF3, fun z => by cases z⟩)
                                                 | (rw [stS_r hc114 hRR, rd1_cf (by decide) (by decide) hc59]
                                                    exact ⟨rfl, hq3, rdF_t (rdF_i (Or.inl rfl)) hF3, fun z => by cases z⟩)
                                                 | (rw [stS_r hc114 hRR, rd1_ct (it := 59) (by decide) (by decide) hc59]
                                                    refine ⟨rfl, gI_self _ _ _ _, rdF_t (rdF_i (Or.inl rfl)) (rdF_t hF3 (rdF_i (Or.inl rfl))), fun _ => ⟨?_, ?_, ?_⟩⟩
                                                    · exact fun z => absurd (hc114.symm.trans z) (by decide)
                                                    · exact fun _ i hi => (gI_ne (Or.inl (by decide))).trans (htd3 rfl i hi)
                                                    · exact fun z => absurd (hc114.symm.trans z) (by decide))
                                                 | (rw [stS_f hc102 hRR, rd1_f rfl]
                                                    exact ⟨rfl, hq3, rdF_t (rdF_i (Or.inl rfl)) hF3, fun z => by cases z⟩)
                                                 | (rw [stS_f hc102 hRR, rd1_cf (by decide) (by decide) hc59]
                                                    exact ⟨rfl, hq3, rdF_t (rdF_i (Or.inl rfl)) hF3, fun z => by cases z⟩)
                                                 | (rw [stS_f hc102 hRR, rd1_ct (it := 59) (by decide) (by decide) hc59]
                                                    refine ⟨rfl, gI_self _ _ _ _, rdF_t (rdF_i (Or.inl rfl)) (rdF_t hF3 (rdF_i (Or.inl rfl))), fun _ => ⟨?_, ?_, ?_⟩⟩
                                                    · exact fun z => absurd (hc102.symm.trans z) (by decide)
                                                    · exact fun z => absurd (hc102.symm.trans z) (by decide)
                                                    · exact fun _ => (gI_ne (Or.inl (by decide))).trans (htd3 rfl 0 (by omega)))
                                                 | (rw [stS_n hc112 hc114 hc102]; exact ⟨rfl, hp, rdF_r, fun z => by cases z⟩))
                                      · dsimp only [Option.toList, List.cons_append, List.nil_append]
                                        refine xG_br rfl (fun h90 => ?_) (fun h90 => ?_)
                                        · first
                                            | (exfalso; first | exact absurd h90 (by decide) | exact h90 (by decide) | (simp at h90; done))
                                            | (refine xG_run 1 rfl (by repeat' (first | exact trivial | assumption | exact xob_b rfl | exact xal_b rfl | (apply And.intro) | decide)) ?_
                                               try dsimp only [xsto1, xsto2, xkill, xget, xset, gd_0, gd_s]
                                               refine r2_z rfl rfl (by first | decide | assumption) ?_
                                               first
                                                 | (rw [stS_p hc112 hRR, rd1_f rfl]
                                                    exact ⟨rfl, hq3, rdF_t (rdF_i (Or.inl rfl)) hF3, fun z => by cases z⟩)
                                                 | (rw [stS_p hc112 hRR, rd1_cf (by decide) (by decide) hc59]
                                                    exact ⟨rfl, hq3, rdF_t (rdF_i (Or.inl rfl)) hF3, fun z => by cases z⟩)
                                                 | (rw [stS_p hc112 hRR, rd1_ct (it := 59) (by decide) (by decide) hc59]
                                                    refine ⟨rfl, gI_self _ _ _ _, rdF_t (rdF_i (Or.inl rfl)) (rdF_t hF3 (rdF_i (Or.inl rfl))), fun _ => ⟨?_, ?_, ?_⟩⟩
                                                    · exact fun _ i hi => (gI_ne (Or.inl (by decide))).trans (htd3 rfl i hi)
                                                    · exact fun z => absurd (hc112.symm.trans z) (by decide)
                                                    · exact fun z => absurd (hc112.symm.trans z) (by decide))
                                                 | (rw [stS_r hc114 hRR, rd1_f rfl]
                                                    exact ⟨rfl, hq3, rdF_t (rdF_i (Or.inl rfl)) hF3, fun z => by cases z⟩)
                                                 | (rw [stS_r hc114 hRR, rd1_cf (by decide) (by decide) hc59]
                                                    exact ⟨rfl, hq3, rdF_t (rdF_i (Or.inl rfl)) hF3, fun z => by cases z⟩)
                                                 | (rw [stS_r hc114 hRR, rd1_ct (it := 59) (by decide) (by decide) hc59]
                                                    refine ⟨rfl, gI_self _ _ _ _, rdF_t (rdF_i (Or.inl rfl)) (rdF_t hF3 (rdF_i (Or.inl rfl))), fun _ => ⟨?_, ?_, ?_⟩⟩
                                                    · exact fun z => absurd (hc114.symm.trans z) (by decide)
                                                    · exact fun _ i hi => (gI_ne (Or.inl (by decide))).trans (htd3 rfl i hi)
                                                    · exact fun z => absurd (hc114.symm.trans z) (by decide))
                                                 | (rw [stS_f hc102 hRR, rd1_f rfl]
                                                    exact ⟨rfl, hq3, rdF_t (rdF_i (Or.inl rfl)) hF3, fun z => by cases z⟩)
                                                 | (rw [stS_f hc102 hRR, rd1_cf (by decide) (by decide) hc59]
                                                    exact ⟨rfl, hq3, rdF_t (rdF_i (Or.inl rfl)) hF3, fun z => by cases z⟩)
                                                 | (rw [stS_f hc102 hRR, rd1_ct (it := 59) (by decide) (by decide) hc59]
                                                    refine ⟨rfl, gI_self _ _ _ _, rdF_t (rdF_i (Or.inl rfl)) (rdF_t hF3 (rdF_i (Or.inl rfl))), fun _ => ⟨?_, ?_, ?_⟩⟩
                                                    · exact fun z => absurd (hc102.symm.trans z) (by decide)
                                                    · exact fun z => absurd (hc102.symm.trans z) (by decide)
                                                    · exact fun _ => (gI_ne (Or.inl (by decide))).trans (htd3 rfl 0 (by omega)))
                                                 | (rw [stS_n hc112 hc114 hc102]; exact ⟨rfl, hp, rdF_r, fun z => by cases z⟩))
                                        · first
                                            | (exfalso; first | exact absurd h90 (by decide) | exact h90 (by decide) | (simp at h90; done))
                                            | (refine xG_run 2 rfl (by repeat' (first | exact trivial | assumption | exact xob_b rfl | exact xal_b rfl | (apply And.intro) | decide)) ?_
                                               try dsimp only [xsto1, xsto2, xkill, xget, xset, gd_0, gd_s]
                                               refine r2_z rfl rfl (by first | decide | assumption) ?_
                                               first
                                                 | (rw [stS_p hc112 hRR, rd1_f rfl]
                                                    exact ⟨rfl, hq3, rdF_t (rdF_i (Or.inl rfl)) hF3, fun z => by cases z⟩)
                                                 | (rw [stS_p hc112 hRR, rd1_cf (by decide) (by decide) hc59]
                                                    exact ⟨rfl, hq3, rdF_t (rdF_i (Or.inl rfl)) hF3, fun z => by cases z⟩)
                                                 | (rw [stS_p hc112 hRR, rd1_ct (it := 59) (by decide) (by decide) hc59]
                                                    refine ⟨rfl, gI_self _ _ _ _, rdF_t (rdF_i (Or.inl rfl)) (rdF_t hF3 (rdF_i (Or.inl rfl))), fun _ => ⟨?_, ?_, ?_⟩⟩
                                                    · exact fun _ i hi => (gI_ne (Or.inl (by decide))).trans (htd3 rfl i hi)
                                                    · exact fun z => absurd (hc112.symm.trans z) (by decide)
                                                    · exact fun z => absurd (hc112.symm.trans z) (by decide))
                                                 | (rw [stS_r hc114 hRR, rd1_f rfl]
                                                    exact ⟨rfl, hq3, rdF_t (rdF_i (Or.inl rfl)) hF3, fun z => by cases z⟩)
                                                 | (rw [stS_r hc114 hRR, rd1_cf (by decide) (by decide) hc59]
                                                    exact ⟨rfl, hq3, rdF_t (rdF_i (Or.inl rfl)) hF3, fun z => by cases z⟩)
                                                 | (rw [stS_r hc114 hRR, rd1_ct (it := 59) (by decide) (by decide) hc59]
                                                    refine ⟨rfl, gI_self _ _ _ _, rdF_t (rdF_i (Or.inl rfl)) (rdF_t hF3 (rdF_i (Or.inl rfl))), fun _ => ⟨?_, ?_, ?_⟩⟩
                                                    · exact fun z => absurd (hc114.symm.trans z) (by decide)
                                                    · exact fun _ i hi => (gI_ne (Or.inl (by decide))).trans (htd3 rfl i hi)
                                                    · exact fun z => absurd (hc114.symm.trans z) (by decide))
                                                 | (rw [stS_f hc102 hRR, rd1_f rfl]
                                                    exact ⟨rfl, hq3, rdF_t (rdF_i (Or.inl rfl)) hF3, fun z => by cases z⟩)
                                                 | (rw [stS_f hc102 hRR, rd1_cf (by decide) (by decide) hc59]
                                                    exact ⟨rfl, hq3, rdF_t (rdF_i (Or.inl rfl)) hF3, fun z => by cases z⟩)
                                                 | (rw [stS_f hc102 hRR, rd1_ct (it := 59) (by decide) (by decide) hc59]
                                                    refine ⟨rfl, gI_self _ _ _ _, rdF_t (rdF_i (Or.inl rfl)) (rdF_t hF3 (rdF_i (Or.inl rfl))), fun _ => ⟨?_, ?_, ?_⟩⟩
                                                    · exact fun z => absurd (hc102.symm.trans z) (by decide)
                                                    · exact fun z => absurd (hc102.symm.trans z) (by decide)
                                                    · exact fun _ => (gI_ne (Or.inl (by decide))).trans (htd3 rfl 0 (by omega)))
                                                 | (rw [stS_n hc112 hc114 hc102]; exact ⟨rfl, hp, rdF_r, fun z => by cases z⟩))))
                    · dsimp only [Option.toList, List.cons_append, List.nil_append]
                      refine xG_br rfl (fun h72 => ?_) (fun h72 => ?_)
                      · first
                          | (exfalso; first | exact absurd h72 (by decide) | exact h72 (by decide) | (simp at h72; done))
                          | (refine xG_run 1 rfl (by repeat' (first | exact trivial | assumption | exact xob_b rfl | exact xal_b rfl | (apply And.intro) | decide)) ?_
                             try dsimp only [xsto1, xsto2, xkill, xget, xset, gd_0, gd_s]
                             refine r2_z rfl rfl (by first | decide | assumption) ?_
                             first
                               | (rw [stS_p hc112 hRR, rd1_f rfl]
                                  exact ⟨rfl, hq3, rdF_t (rdF_i (Or.inl rfl)) hF3, fun z => by cases z⟩)
                               | (rw [stS_p hc112 hRR, rd1_cf (by decide) (by decide) hc59]
                                  exact ⟨rfl, hq3, rdF_t (rdF_i (Or.inl rfl)) hF3, fun z => by cases z⟩)
                               | (rw [stS_p hc112 hRR, rd1_ct (it := 59) (by decide) (by decide) hc59]
                                  refine ⟨rfl, gI_self _ _ _ _, rdF_t (rdF_i (Or.inl rfl)) (rdF_t hF3 (rdF_i (Or.inl rfl))), fun _ => ⟨?_, ?_, ?_⟩⟩
                                  · exact fun _ i hi => (gI_ne (Or.inl (by decide))).trans (htd3 rfl i hi)
                                  · exact fun z => absurd (hc112.symm.trans z) (by decide)
                                  · exact fun z => absurd (hc112.symm.trans z) (by decide))
                               | (rw [stS_r hc114 hRR, rd1_f rfl]
                                  exact ⟨rfl, hq3, rdF_t (rdF_i (Or.inl rfl)) hF3, fun z => by cases z⟩)
                               | (rw [stS_r hc114 hRR, rd1_cf (by decide) (by decide) hc59]
                                  exact ⟨rfl, hq3, rdF_t (rdF_i (Or.inl rfl)) hF3, fun z => by cases z⟩)
                               | (rw [stS_r hc114 hRR, rd1_ct (it := 59) (by decide) (by decide) hc59]
                                  refine ⟨rfl, gI_self _ _ _ _, rdF_t (rdF_i (Or.inl rfl)) (rdF_t hF3 (rdF_i (Or.inl rfl))), fun _ => ⟨?_, ?_, ?_⟩⟩
                                  · exact fun z => absurd (hc114.symm.trans z) (by decide)
                                  · exact fun _ i hi => (gI_ne (Or.inl (by decide))).trans (htd3 rfl i hi)
                                  · exact fun z => absurd (hc114.symm.trans z) (by decide))
                               | (rw [stS_f hc102 hRR, rd1_f rfl]
                                  exact ⟨rfl, hq3, rdF_t (rdF_i (Or.inl rfl)) hF3, fun z => by cases z⟩)
                               | (rw [stS_f hc102 hRR, rd1_cf (by decide) (by decide) hc59]
                                  exact ⟨rfl, hq3, rdF_t (rdF_i (Or.inl rfl)) hF3, fun z => by cases z⟩)
                               | (rw [stS_f hc102 hRR, rd1_ct (it := 59) (by decide) (by decide) hc59]
                                  refine ⟨rfl, gI_self _ _ _ _, rdF_t (rdF_i (Or.inl rfl)) (rdF_t hF3 (rdF_i (Or.inl rfl))), fun _ => ⟨?_, ?_, ?_⟩⟩
                                  · exact fun z => absurd (hc102.symm.trans z) (by decide)
                                  · exact fun z => absurd (hc102.symm.trans z) (by decide)
                                  · exact fun _ => (gI_ne (Or.inl (by decide))).trans (htd3 rfl 0 (by omega)))
                               | (rw [stS_n hc112 hc114 hc102]; exact ⟨rfl, hp, rdF_r, fun z => by cases z⟩))
                      · first
                          | (exfalso; first | exact absurd h72 (by decide) | exact h72 (by decide) | (simp at h72; done))
                          | (refine xG_run 3 rfl (by repeat' (first | exact trivial | assumption | exact xob_b rfl | exact xal_b rfl | (apply And.intro) | decide)) ?_
                             try dsimp only [xsto1, xsto2, xkill, xget, xset, gd_0, gd_s]
                             refine xG_c2 2 rfl (by repeat' (first | exact trivial | assumption | exact xob_b rfl | exact xal_b rfl | (apply And.intro) | decide)) rfl rfl (by decide) cw_X12_readsNumbers (d' := d - 1) (e_readsNumbersU (m := 1) (p := p + 1) (sv := 0) hTa (gI_self _ _ _ _) (by omega) (by omega) (by omega)) (by omega) ?_
                             rintro v M3 ⟨rfl, hq3, hF3, htd3⟩
                             rcases hRR : rdS T n (itK false 1) (true, p + 1, [], 0) with ⟨ok, q, l, sx⟩
                             try rw [hRR] at hq3 htd3
                             dsimp only at hq3 htd3
                             cases ok
                             · dsimp only [Option.toList, List.cons_append, List.nil_append]
                               refine xG_br rfl (fun h81 => ?_) (fun h81 => ?_)
                               · first
                                   | (exfalso; first | exact absurd h81 (by decide) | exact h81 (by decide) | (simp at h81; done))
                                   | (refine xG_run 1 rfl (by repeat' (first | exact trivial | assumption | exact xob_b rfl | exact xal_b rfl | (apply And.intro) | decide)) ?_
                                      try dsimp only [xsto1, xsto2, xkill, xget, xset, gd_0, gd_s]
                                      refine r2_z rfl rfl (by first | decide | assumption) ?_
                                      first
                                        | (rw [stS_p hc112 hRR, rd1_f rfl]
                                           exact ⟨rfl, hq3, rdF_t (rdF_i (Or.inl rfl)) hF3, fun z => by cases z⟩)
                                        | (rw [stS_p hc112 hRR, rd1_cf (by decide) (by decide) hc59]
                                           exact ⟨rfl, hq3, rdF_t (rdF_i (Or.inl rfl)) hF3, fun z => by cases z⟩)
                                        | (rw [stS_p hc112 hRR, rd1_ct (it := 59) (by decide) (by decide) hc59]
                                           refine ⟨rfl, gI_self _ _ _ _, rdF_t (rdF_i (Or.inl rfl)) (rdF_t hF3 (rdF_i (Or.inl rfl))), fun _ => ⟨?_, ?_, ?_⟩⟩
                                           · exact fun _ i hi => (gI_ne (Or.inl (by decide))).trans (htd3 rfl i hi)
                                           · exact fun z => absurd (hc112.symm.trans z) (by decide)
                                           · exact fun z => absurd (hc112.symm.trans z) (by decide))
                                        | (rw [stS_r hc114 hRR, rd1_f rfl]
                                           exact ⟨rfl, hq3, rdF_t (rdF_i (Or.inl rfl)) hF3, fun z => by cases z⟩)
                                        | (rw [stS_r hc114 hRR, rd1_cf (by decide) (by decide) hc59]
                                           exact ⟨rfl, hq3, rdF_t (rdF_i (Or.inl rfl)) hF3, fun z => by cases z⟩)
                                        | (rw [stS_r hc114 hRR, rd1_ct (it := 59) (by decide) (by decide) hc59]
                                           refine ⟨rfl, gI_self _ _ _ _, rdF_t (rdF_i (Or.inl rfl)) (rdF_t hF3 (rdF_i (Or.inl rfl))), fun _ => ⟨?_, ?_, ?_⟩⟩
                                           · exact fun z => absurd (hc114.symm.trans z) (by decide)
                                           · exact fun _ i hi => (gI_ne (Or.inl (by decide))).trans (htd3 rfl i hi)
                                           · exact fun z => absurd (hc114.symm.trans z) (by decide))
                                        | (rw [stS_f hc102 hRR, rd1_f rfl]
                                           exact ⟨rfl, hq3, rdF_t (rdF_i (Or.inl rfl)) hF3, fun z => by cases z⟩)
                                        | (rw [stS_f hc102 hRR, rd1_cf (by decide) (by decide) hc59]
                                           exact ⟨rfl, hq3, rdF_t (rdF_i (Or.inl rfl)) hF3, fun z => by cases z⟩)
                                        | (rw [stS_f hc102 hRR, rd1_ct (it := 59) (by decide) (by decide) hc59]
                                           refine ⟨rfl, gI_self _ _ _ _, rdF_t (rdF_i (Or.inl rfl)) (rdF_t hF3 (rdF_i (Or.inl rfl))), fun _ => ⟨?_, ?_, ?_⟩⟩
                                           · exact fun z => absurd (hc102.symm.trans z) (by decide)
                                           · exact fun z => absurd (hc102.symm.trans z) (by decide)
                                           · exact fun _ => (gI_ne (Or.inl (by decide))).trans (htd3 rfl 0 (by omega)))
                                        | (rw [stS_n hc112 hc114 hc102]; exact ⟨rfl, hp, rdF_r, fun z => by cases z⟩))
                               · first
                                   | (exfalso; first | exact absurd h81 (by decide) | exact h81 (by decide) | (simp at h81; done))
                                   | (refine xG_run 2 rfl (by repeat' (first | exact trivial | assumption | exact xob_b rfl | exact xal_b rfl | (apply And.intro) | decide)) ?_
                                      try dsimp only [xsto1, xsto2, xkill, xget, xset, gd_0, gd_s]
                                      refine xG_c2 1 rfl (by repeat' (first | exact trivial | assumption | exact xob_b rfl | exact xal_b rfl | (apply And.intro) | decide)) rfl rfl (by decide) cw_X12_takes (d' := d - 1) (e_takes (p := q) (c := 59) hT3 hq3 (by omega) (by omega)) (by omega) ?_
                                      rintro v M4 (⟨hc59, rfl, rfl⟩ | ⟨hc59, rfl, rfl⟩)
                                      · dsimp only [Option.toList, List.cons_append, List.nil_append]
                                        refine xG_br rfl (fun h90 => ?_) (fun h90 => ?_)
                                        · first
                                            | (exfalso; first | exact absurd h90 (by decide) | exact h90 (by decide) | (simp at h90; done))
                                            | (refine xG_run 1 rfl (by repeat' (first | exact trivial | assumption | exact xob_b rfl | exact xal_b rfl | (apply And.intro) | decide)) ?_
                                               try dsimp only [xsto1, xsto2, xkill, xget, xset, gd_0, gd_s]
                                               refine r2_z rfl rfl (by first | decide | assumption) ?_
                                               first
                                                 | (rw [stS_p hc112 hRR, rd1_f rfl]
                                                    exact ⟨rfl, hq3, rdF_t (rdF_i (Or.inl rfl)) hF3, fun z => by cases z⟩)
                                                 | (rw [stS_p hc112 hRR, rd1_cf (by decide) (by decide) hc59]
                                                    exact ⟨rfl, hq3, rdF_t (rdF_i (Or.inl rfl)) hF3, fun z => by cases z⟩)
                                                 | (rw [stS_p hc112 hRR, rd1_ct (it := 59) (by decide) (by decide) hc59]
                                                    refine ⟨rfl, gI_self _ _ _ _, rdF_t (rdF_i (Or.inl rfl)) (rdF_t hF3 (rdF_i (Or.inl rfl))), fun _ => ⟨?_, ?_, ?_⟩⟩
                                                    · exact fun _ i hi => (gI_ne (Or.inl (by decide))).trans (htd3 rfl i hi)
                                                    · exact fun z => absurd (hc112.symm.trans z) (by decide)
                                                    · exact fun z => absurd (hc112.symm.trans z) (by decide))
                                                 | (rw [stS_r hc114 hRR, rd1_f rfl]
                                                    exact ⟨rfl, hq3, rdF_t (rdF_i (Or.inl rfl)) hF3, fun z => by cases z⟩)
                                                 | (rw [stS_r hc114 hRR, rd1_cf (by decide) (by decide) hc59]
                                                    exact ⟨rfl, hq3, rdF_t (rdF_i (Or.inl rfl)) hF3, fun z => by cases z⟩)
                                                 | (rw [stS_r hc114 hRR, rd1_ct (it := 59) (by decide) (by decide) hc59]
                                                    refine ⟨rfl, gI_self _ _ _ _, rdF_t (rdF_i (Or.inl rfl)) (rdF_t hF3 (rdF_i (Or.inl rfl))), fun _ => ⟨?_, ?_, ?_⟩⟩
                                                    · exact fun z => absurd (hc114.symm.trans z) (by decide)
                                                    · exact fun _ i hi => (gI_ne (Or.inl (by decide))).trans (htd3 rfl i hi)
                                                    · exact fun z => absurd (hc114.symm.trans z) (by decide))
                                                 | (rw [stS_f hc102 hRR, rd1_f rfl]
                                                    exact ⟨rfl, hq3, rdF_t (rdF_i (Or.inl rfl)) hF3, fun z => by cases z⟩)
                                                 | (rw [stS_f hc102 hRR, rd1_cf (by decide) (by decide) hc59]
                                                    exact ⟨rfl, hq3, rdF_t (rdF_i (Or.inl rfl)) hF3, fun z => by cases z⟩)
                                                 | (rw [stS_f hc102 hRR, rd1_ct (it := 59) (by decide) (by decide) hc59]
                                                    refine ⟨rfl, gI_self _ _ _ _, rdF_t (rdF_i (Or.inl rfl)) (rdF_t hF3 (rdF_i (Or.inl rfl))), fun _ => ⟨?_, ?_, ?_⟩⟩
                                                    · exact fun z => absurd (hc102.symm.trans z) (by decide)
                                                    · exact fun z => absurd (hc102.symm.trans z) (by decide)
                                                    · exact fun _ => (gI_ne (Or.inl (by decide))).trans (htd3 rfl 0 (by omega)))
                                                 | (rw [stS_n hc112 hc114 hc102]; exact ⟨rfl, hp, rdF_r, fun z => by cases z⟩))
                                        · first
                                            | (exfalso; first | exact absurd h90 (by decide) | exact h90 (by decide) | (simp at h90; done))
                                            | (refine xG_run 2 rfl (by repeat' (first | exact trivial | assumption | exact xob_b rfl | exact xal_b rfl | (apply And.intro) | decide)) ?_
                                               try dsimp only [xsto1, xsto2, xkill, xget, xset, gd_0, gd_s]
                                               refine r2_z rfl rfl (by first | decide | assumption) ?_
                                               first
                                                 | (rw [stS_p hc112 hRR, rd1_f rfl]
                                                    exact ⟨rfl, hq3, rdF_t (rdF_i (Or.inl rfl)) hF3, fun z => by cases z⟩)
                                                 | (rw [stS_p hc112 hRR, rd1_cf (by decide) (by decide) hc59]
                                                    exact ⟨rfl, hq3, rdF_t (rdF_i (Or.inl rfl)) hF3, fun z => by cases z⟩)
                                                 | (rw [stS_p hc112 hRR, rd1_ct (it := 59) (by decide) (by decide) hc59]
                                                    refine ⟨rfl, gI_self _ _ _ _, rdF_t (rdF_i (Or.inl rfl)) (rdF_t hF3 (rdF_i (Or.inl rfl))), fun _ => ⟨?_, ?_, ?_⟩⟩
                                                    · exact fun _ i hi => (gI_ne (Or.inl (by decide))).trans (htd3 rfl i hi)
                                                    · exact fun z => absurd (hc112.symm.trans z) (by decide)
                                                    · exact fun z => absurd (hc112.symm.trans z) (by decide))
                                                 | (rw [stS_r hc114 hRR, rd1_f rfl]
                                                    exact ⟨rfl, hq3, rdF_t (rdF_i (Or.inl rfl)) hF3, fun z => by cases z⟩)
                                                 | (rw [stS_r hc114 hRR, rd1_cf (by decide) (by decide) hc59]
                                                    exact ⟨rfl, hq3, rdF_t (rdF_i (Or.inl rfl)) hF3, fun z => by cases z⟩)
                                                 | (rw [stS_r hc114 hRR, rd1_ct (it := 59) (by decide) (by decide) hc59]
                                                    refine ⟨rfl, gI_self _ _ _ _, rdF_t (rdF_i (Or.inl rfl)) (rdF_t hF3 (rdF_i (Or.inl rfl))), fun _ => ⟨?_, ?_, ?_⟩⟩
                                                    · exact fun z => absurd (hc114.symm.trans z) (by decide)
                                                    · exact fun _ i hi => (gI_ne (Or.inl (by decide))).trans (htd3 rfl i hi)
                                                    · exact fun z => absurd (hc114.symm.trans z) (by decide))
                                                 | (rw [stS_f hc102 hRR, rd1_f rfl]
                                                    exact ⟨rfl, hq3, rdF_t (rdF_i (Or.inl rfl)) hF3, fun z => by cases z⟩)
                                                 | (rw [stS_f hc102 hRR, rd1_cf (by decide) (by decide) hc59]
                                                    exact ⟨rfl, hq3, rdF_t (rdF_i (Or.inl rfl)) hF3, fun z => by cases z⟩)
                                                 | (rw [stS_f hc102 hRR, rd1_ct (it := 59) (by decide) (by decide) hc59]
                                                    refine ⟨rfl, gI_self _ _ _ _, rdF_t (rdF_i (Or.inl rfl)) (rdF_t hF3 (rdF_i (Or.inl rfl))), fun _ => ⟨?_, ?_, ?_⟩⟩
                                                    · exact fun z => absurd (hc102.symm.trans z) (by decide)
                                                    · exact fun z => absurd (hc102.symm.trans z) (by decide)
                                                    · exact fun _ => (gI_ne (Or.inl (by decide))).trans (htd3 rfl 0 (by omega)))
                                                 | (rw [stS_n hc112 hc114 hc102]; exact ⟨rfl, hp, rdF_r, fun z => by cases z⟩))
                                      · dsimp only [Option.toList, List.cons_append, List.nil_append]
                                        refine xG_br rfl (fun h90 => ?_) (fun h90 => ?_)
                                        · first
                                            | (exfalso; first | exact absurd h90 (by decide) | exact h90 (by decide) | (simp at h90; done))
                                            | (refine xG_run 1 rfl (by repeat' (first | exact trivial | assumption | exact xob_b rfl | exact xal_b rfl | (apply And.intro) | decide)) ?_
                                               try dsimp only [xsto1, xsto2, xkill, xget, xset, gd_0, gd_s]
                                               refine r2_z rfl rfl (by first | decide | assumption) ?_
                                               first
                                                 | (rw [stS_p hc112 hRR, rd1_f rfl]
                                                    exact ⟨rfl, hq3, rdF_t (rdF_i (Or.inl rfl)) hF3, fun z => by cases z⟩)
                                                 | (rw [stS_p hc112 hRR, rd1_cf (by decide) (by decide) hc59]
                                                    exact ⟨rfl, hq3, rdF_t (rdF_i (Or.inl rfl)) hF3, fun z => by cases z⟩)
                                                 | (rw [stS_p hc112 hRR, rd1_ct (it := 59) (by decide) (by decide) hc59]
                                                    refine ⟨rfl, gI_self _ _ _ _, rdF_t (rdF_i (Or.inl rfl)) (rdF_t hF3 (rdF_i (Or.inl rfl))), fun _ => ⟨?_, ?_, ?_⟩⟩
                                                    · exact fun _ i hi => (gI_ne (Or.inl (by decide))).trans (htd3 rfl i hi)
                                                    · exact fun z => absurd (hc112.symm.trans z) (by decide)
                                                    · exact fun z => absurd (hc112.symm.trans z) (by decide))
                                                 | (rw [stS_r hc114 hRR, rd1_f rfl]
                                                    exact ⟨rfl, hq3, rdF_t (rdF_i (Or.inl rfl)) hF3, fun z => by cases z⟩)
                                                 | (rw [stS_r hc114 hRR, rd1_cf (by decide) (by decide) hc59]
                                                    exact ⟨rfl, hq3, rdF_t (rdF_i (Or.inl rfl)) hF3, fun z => by cases z⟩)
                                                 | (rw [stS_r hc114 hRR, rd1_ct (it := 59) (by decide) (by decide) hc59]
                                                    refine ⟨rfl, gI_self _ _ _ _, rdF_t (rdF_i (Or.inl rfl)) (rdF_t hF3 (rdF_i (Or.inl rfl))), fun _ => ⟨?_, ?_, ?_⟩⟩
                                                    · exact fun z => absurd (hc114.symm.trans z) (by decide)
                                                    · exact fun _ i hi => (gI_ne (Or.inl (by decide))).trans (htd3 rfl i hi)
                                                    · exact fun z => absurd (hc114.symm.trans z) (by decide))
                                                 | (rw [stS_f hc102 hRR, rd1_f rfl]
                                                    exact ⟨rfl, hq3, rdF_t (rdF_i (Or.inl rfl)) hF3, fun z => by cases z⟩)
                                                 | (rw [stS_f hc102 hRR, rd1_cf (by decide) (by decide) hc59]
                                                    exact ⟨rfl, hq3, rdF_t (rdF_i (Or.inl rfl)) hF3, fun z => by cases z⟩)
                                                 | (rw [stS_f hc102 hRR, rd1_ct (it := 59) (by decide) (by decide) hc59]
                                                    refine ⟨rfl, gI_self _ _ _ _, rdF_t (rdF_i (Or.inl rfl)) (rdF_t hF3 (rdF_i (Or.inl rfl))), fun _ => ⟨?_, ?_, ?_⟩⟩
                                                    · exact fun z => absurd (hc102.symm.trans z) (by decide)
                                                    · exact fun z => absurd (hc102.symm.trans z) (by decide)
                                                    · exact fun _ => (gI_ne (Or.inl (by decide))).trans (htd3 rfl 0 (by omega)))
                                                 | (rw [stS_n hc112 hc114 hc102]; exact ⟨rfl, hp, rdF_r, fun z => by cases z⟩))
                                        · first
                                            | (exfalso; first | exact absurd h90 (by decide) | exact h90 (by decide) | (simp at h90; done))
                                            | (refine xG_run 2 rfl (by repeat' (first | exact trivial | assumption | exact xob_b rfl | exact xal_b rfl | (apply And.intro) | decide)) ?_
                                               try dsimp only [xsto1, xsto2, xkill, xget, xset, gd_0, gd_s]
                                               refine r2_z rfl rfl (by first | decide | assumption) ?_
                                               first
                                                 | (rw [stS_p hc112 hRR, rd1_f rfl]
                                                    exact ⟨rfl, hq3, rdF_t (rdF_i (Or.inl rfl)) hF3, fun z => by cases z⟩)
                                                 | (rw [stS_p hc112 hRR, rd1_cf (by decide) (by decide) hc59]
                                                    exact ⟨rfl, hq3, rdF_t (rdF_i (Or.inl rfl)) hF3, fun z => by cases z⟩)
                                                 | (rw [stS_p hc112 hRR, rd1_ct (it := 59) (by decide) (by decide) hc59]
                                                    refine ⟨rfl, gI_self _ _ _ _, rdF_t (rdF_i (Or.inl rfl)) (rdF_t hF3 (rdF_i (Or.inl rfl))), fun _ => ⟨?_, ?_, ?_⟩⟩
                                                    · exact fun _ i hi => (gI_ne (Or.inl (by decide))).trans (htd3 rfl i hi)
                                                    · exact fun z => absurd (hc112.symm.trans z) (by decide)
                                                    · exact fun z => absurd (hc112.symm.trans z) (by decide))
                                                 | (rw [stS_r hc114 hRR, rd1_f rfl]
                                                    exact ⟨rfl, hq3, rdF_t (rdF_i (Or.inl rfl)) hF3, fun z => by cases z⟩)
                                                 | (rw [stS_r hc114 hRR, rd1_cf (by decide) (by decide) hc59]
                                                    exact ⟨rfl, hq3, rdF_t (rdF_i (Or.inl rfl)) hF3, fun z => by cases z⟩)
                                                 | (rw [stS_r hc114 hRR, rd1_ct (it := 59) (by decide) (by decide) hc59]
                                                    refine ⟨rfl, gI_self _ _ _ _, rdF_t (rdF_i (Or.inl rfl)) (rdF_t hF3 (rdF_i (Or.inl rfl))), fun _ => ⟨?_, ?_, ?_⟩⟩
                                                    · exact fun z => absurd (hc114.symm.trans z) (by decide)
                                                    · exact fun _ i hi => (gI_ne (Or.inl (by decide))).trans (htd3 rfl i hi)
                                                    · exact fun z => absurd (hc114.symm.trans z) (by decide))
                                                 | (rw [stS_f hc102 hRR, rd1_f rfl]
                                                    exact ⟨rfl, hq3, rdF_t (rdF_i (Or.inl rfl)) hF3, fun z => by cases z⟩)
                                                 | (rw [stS_f hc102 hRR, rd1_cf (by decide) (by decide) hc59]
                                                    exact ⟨rfl, hq3, rdF_t (rdF_i (Or.inl rfl)) hF3, fun z => by cases z⟩)
                                                 | (rw [stS_f hc102 hRR, rd1_ct (it := 59) (by decide) (by decide) hc59]
                                                    refine ⟨rfl, gI_self _ _ _ _, rdF_t (rdF_i (Or.inl rfl)) (rdF_t hF3 (rdF_i (Or.inl rfl))), fun _ => ⟨?_, ?_, ?_⟩⟩
                                                    · exact fun z => absurd (hc102.symm.trans z) (by decide)
                                                    · exact fun z => absurd (hc102.symm.trans z) (by decide)
                                                    · exact fun _ => (gI_ne (Or.inl (by decide))).trans (htd3 rfl 0 (by omega)))
                                                 | (rw [stS_n hc112 hc114 hc102]; exact ⟨rfl, hp, rdF_r, fun z => by cases z⟩)))
                             · dsimp only [Option.toList, List.cons_append, List.nil_append]
                               have hT3 := rT_F hTa hF3
                               have hq9 : q ≤ n := by
                                 have e := rdS_le (T := T) (n := n) (l := itK false 1) (s := (true, p + 1, [], 0)) (by show p + 1 ≤ n; omega) (itK_le 1)
                                 rw [hRR] at e
                                 exact e
                               refine xG_br rfl (fun h81 => ?_) (fun h81 => ?_)
                               · first
                                   | (exfalso; first | exact absurd h81 (by decide) | exact h81 (by decide) | (simp at h81; done))
                                   | (refine xG_run 1 rfl (by repeat' (first | exact trivial | assumption | exact xob_b rfl | exact xal_b rfl | (apply And.intro) | decide)) ?_
                                      try dsimp only [xsto1, xsto2, xkill, xget, xset, gd_0, gd_s]
                                      refine r2_z rfl rfl (by first | decide | assumption) ?_
                                      first
                                        | (rw [stS_p hc112 hRR, rd1_f rfl]
                                           exact ⟨rfl, hq3, rdF_t (rdF_i (Or.inl rfl)) hF3, fun z => by cases z⟩)
                                        | (rw [stS_p hc112 hRR, rd1_cf (by decide) (by decide) hc59]
                                           exact ⟨rfl, hq3, rdF_t (rdF_i (Or.inl rfl)) hF3, fun z => by cases z⟩)
                                        | (rw [stS_p hc112 hRR, rd1_ct (it := 59) (by decide) (by decide) hc59]
                                           refine ⟨rfl, gI_self _ _ _ _, rdF_t (rdF_i (Or.inl rfl)) (rdF_t hF3 (rdF_i (Or.inl rfl))), fun _ => ⟨?_, ?_, ?_⟩⟩
                                           · exact fun _ i hi => (gI_ne (Or.inl (by decide))).trans (htd3 rfl i hi)
                                           · exact fun z => absurd (hc112.symm.trans z) (by decide)
                                           · exact fun z => absurd (hc112.symm.trans z) (by decide))
                                        | (rw [stS_r hc114 hRR, rd1_f rfl]
                                           exact ⟨rfl, hq3, rdF_t (rdF_i (Or.inl rfl)) hF3, fun z => by cases z⟩)
                                        | (rw [stS_r hc114 hRR, rd1_cf (by decide) (by decide) hc59]
                                           exact ⟨rfl, hq3, rdF_t (rdF_i (Or.inl rfl)) hF3, fun z => by cases z⟩)
                                        | (rw [stS_r hc114 hRR, rd1_ct (it := 59) (by decide) (by decide) hc59]
                                           refine ⟨rfl, gI_self _ _ _ _, rdF_t (rdF_i (Or.inl rfl)) (rdF_t hF3 (rdF_i (Or.inl rfl))), fun _ => ⟨?_, ?_, ?_⟩⟩
                                           · exact fun z => absurd (hc114.symm.trans z) (by decide)
                                           · exact fun _ i hi => (gI_ne (Or.inl (by decide))).trans (htd3 rfl i hi)
                                           · exact fun z => absurd (hc114.symm.trans z) (by decide))
                                        | (rw [stS_f hc102 hRR, rd1_f rfl]
                                           exact ⟨rfl, hq3, rdF_t (rdF_i (Or.inl rfl)) hF3, fun z => by cases z⟩)
                                        | (rw [stS_f hc102 hRR, rd1_cf (by decide) (by decide) hc59]
                                           exact ⟨rfl, hq3, rdF_t (rdF_i (Or.inl rfl)) hF3, fun z => by cases z⟩)
                                        | (rw [stS_f hc102 hRR, rd1_ct (it := 59) (by decide) (by decide) hc59]
                                           refine ⟨rfl, gI_self _ _ _ _, rdF_t (rdF_i (Or.inl rfl)) (rdF_t hF3 (rdF_i (Or.inl rfl))), fun _ => ⟨?_, ?_, ?_⟩⟩
                                           · exact fun z => absurd (hc102.symm.trans z) (by decide)
                                           · exact fun z => absurd (hc102.symm.trans z) (by decide)
                                           · exact fun _ => (gI_ne (Or.inl (by decide))).trans (htd3 rfl 0 (by omega)))
                                        | (rw [stS_n hc112 hc114 hc102]; exact ⟨rfl, hp, rdF_r, fun z => by cases z⟩))
                               · first
                                   | (exfalso; first | exact absurd h81 (by decide) | exact h81 (by decide) | (simp at h81; done))
                                   | (refine xG_run 2 rfl (by repeat' (first | exact trivial | assumption | exact xob_b rfl | exact xal_b rfl | (apply And.intro) | decide)) ?_
                                      try dsimp only [xsto1, xsto2, xkill, xget, xset, gd_0, gd_s]
                                      refine xG_c2 1 rfl (by repeat' (first | exact trivial | assumption | exact xob_b rfl | exact xal_b rfl | (apply And.intro) | decide)) rfl rfl (by decide) cw_X12_takes (d' := d - 1) (e_takes (p := q) (c := 59) hT3 hq3 (by omega) (by omega)) (by omega) ?_
                                      rintro v M4 (⟨hc59, rfl, rfl⟩ | ⟨hc59, rfl, rfl⟩)
                                      · dsimp only [Option.toList, List.cons_append, List.nil_append]
                                        refine xG_br rfl (fun h90 => ?_) (fun h90 => ?_)
                                        · first
                                            | (exfalso; first | exact absurd h90 (by decide) | exact h90 (by decide) | (simp at h90; done))
                                            | (refine xG_run 1 rfl (by repeat' (first | exact trivial | assumption | exact xob_b rfl | exact xal_b rfl | (apply And.intro) | decide)) ?_
                                               try dsimp only [xsto1, xsto2, xkill, xget, xset, gd_0, gd_s]
                                               refine r2_z rfl rfl (by first | decide | assumption) ?_
                                               first
                                                 | (rw [stS_p hc112 hRR, rd1_f rfl]
                                                    exact ⟨rfl, hq3, rdF_t (rdF_i (Or.inl rfl)) hF3, fun z => by cases z⟩)
                                                 | (rw [stS_p hc112 hRR, rd1_cf (by decide) (by decide) hc59]
                                                    exact ⟨rfl, hq3, rdF_t (rdF_i (Or.inl rfl)) hF3, fun z => by cases z⟩)
                                                 | (rw [stS_p hc112 hRR, rd1_ct (it := 59) (by decide) (by decide) hc59]
                                                    refine ⟨rfl, gI_self _ _ _ _, rdF_t (rdF_i (Or.inl rfl)) (rdF_t hF3 (rdF_i (Or.inl rfl))), fun _ => ⟨?_, ?_, ?_⟩⟩
                                                    · exact fun _ i hi => (gI_ne (Or.inl (by decide))).trans (htd3 rfl i hi)
                                                    · exact fun z => absurd (hc112.symm.trans z) (by decide)
                                                    · exact fun z => absurd (hc112.symm.trans z) (by decide))
                                                 | (rw [stS_r hc114 hRR, rd1_f rfl]
                                                    exact ⟨rfl, hq3, rdF_t (rdF_i (Or.inl rfl)) hF3, fun z => by cases z⟩)
                                                 | (rw [stS_r hc114 hRR, rd1_cf (by decide) (by decide) hc59]
                                                    exact ⟨rfl, hq3, rdF_t (rdF_i (Or.inl rfl)) hF3, fun z => by cases z⟩)
                                                 | (rw [stS_r hc114 hRR, rd1_ct (it := 59) (by decide) (by decide) hc59]
                                                    refine ⟨rfl, gI_self _ _ _ _, rdF_t (rdF_i (Or.inl rfl)) (rdF_t hF3 (rdF_i (Or.inl rfl))), fun _ => ⟨?_, ?_, ?_⟩⟩
                                                    · exact fun z => absurd (hc114.symm.trans z) (by decide)
                                                    · exact fun _ i hi => (gI_ne (Or.inl (by decide))).trans (htd3 rfl i hi)
                                                    · exact fun z => absurd (hc114.symm.trans z) (by decide))
                                                 | (rw [stS_f hc102 hRR, rd1_f rfl]
                                                    exact ⟨rfl, hq3, rdF_t (rdF_i (Or.inl rfl)) hF3, fun z => by cases z⟩)
                                                 | (rw [stS_f hc102 hRR, rd1_cf (by decide) (by decide) hc59]
                                                    exact ⟨rfl, hq3, rdF_t (rdF_i (Or.inl rfl)) hF3, fun z => by cases z⟩)
                                                 | (rw [stS_f hc102 hRR, rd1_ct (it := 59) (by decide) (by decide) hc59]
                                                    refine ⟨rfl, gI_self _ _ _ _, rdF_t (rdF_i (Or.inl rfl)) (rdF_t hF3 (rdF_i (Or.inl rfl))), fun _ => ⟨?_, ?_, ?_⟩⟩
                                                    · exact fun z => absurd (hc102.symm.trans z) (by decide)
                                                    · exact fun z => absurd (hc102.symm.trans z) (by decide)
                                                    · exact fun _ => (gI_ne (Or.inl (by decide))).trans (htd3 rfl 0 (by omega)))
                                                 | (rw [stS_n hc112 hc114 hc102]; exact ⟨rfl, hp, rdF_r, fun z => by cases z⟩))
                                        · first
                                            | (exfalso; first | exact absurd h90 (by decide) | exact h90 (by decide) | (simp at h90; done))
                                            | (refine xG_run 2 rfl (by repeat' (first | exact trivial | assumption | exact xob_b rfl | exact xal_b rfl | (apply And.intro) | decide)) ?_
                                               try dsimp only [xsto1, xsto2, xkill, xget, xset, gd_0, gd_s]
                                               refine r2_z rfl rfl (by first | decide | assumption) ?_
                                               first
                                                 | (rw [stS_p hc112 hRR, rd1_f rfl]
                                                    exact ⟨rfl, hq3, rdF_t (rdF_i (Or.inl rfl)) hF3, fun z => by cases z⟩)
                                                 | (rw [stS_p hc112 hRR, rd1_cf (by decide) (by decide) hc59]
                                                    exact ⟨rfl, hq3, rdF_t (rdF_i (Or.inl rfl)) hF3, fun z => by cases z⟩)
                                                 | (rw [stS_p hc112 hRR, rd1_ct (it := 59) (by decide) (by decide) hc59]
                                                    refine ⟨rfl, gI_self _ _ _ _, rdF_t (rdF_i (Or.inl rfl)) (rdF_t hF3 (rdF_i (Or.inl rfl))), fun _ => ⟨?_, ?_, ?_⟩⟩
                                                    · exact fun _ i hi => (gI_ne (Or.inl (by decide))).trans (htd3 rfl i hi)
                                                    · exact fun z => absurd (hc112.symm.trans z) (by decide)
                                                    · exact fun z => absurd (hc112.symm.trans z) (by decide))
                                                 | (rw [stS_r hc114 hRR, rd1_f rfl]
                                                    exact ⟨rfl, hq3, rdF_t (rdF_i (Or.inl rfl)) hF3, fun z => by cases z⟩)
                                                 | (rw [stS_r hc114 hRR, rd1_cf (by decide) (by decide) hc59]
                                                    exact ⟨rfl, hq3, rdF_t (rdF_i (Or.inl rfl)) hF3, fun z => by cases z⟩)
                                                 | (rw [stS_r hc114 hRR, rd1_ct (it := 59) (by decide) (by decide) hc59]
                                                    refine ⟨rfl, gI_self _ _ _ _, rdF_t (rdF_i (Or.inl rfl)) (rdF_t hF3 (rdF_i (Or.inl rfl))), fun _ => ⟨?_, ?_, ?_⟩⟩
                                                    · exact fun z => absurd (hc114.symm.trans z) (by decide)
                                                    · exact fun _ i hi => (gI_ne (Or.inl (by decide))).trans (htd3 rfl i hi)
                                                    · exact fun z => absurd (hc114.symm.trans z) (by decide))
                                                 | (rw [stS_f hc102 hRR, rd1_f rfl]
                                                    exact ⟨rfl, hq3, rdF_t (rdF_i (Or.inl rfl)) hF3, fun z => by cases z⟩)
                                                 | (rw [stS_f hc102 hRR, rd1_cf (by decide) (by decide) hc59]
                                                    exact ⟨rfl, hq3, rdF_t (rdF_i (Or.inl rfl)) hF3, fun z => by cases z⟩)
                                                 | (rw [stS_f hc102 hRR, rd1_ct (it := 59) (by decide) (by decide) hc59]
                                                    refine ⟨rfl, gI_self _ _ _ _, rdF_t (rdF_i (Or.inl rfl)) (rdF_t hF3 (rdF_i (Or.inl rfl))), fun _ => ⟨?_, ?_, ?_⟩⟩
                                                    · exact fun z => absurd (hc102.symm.trans z) (by decide)
                                                    · exact fun z => absurd (hc102.symm.trans z) (by decide)
                                                    · exact fun _ => (gI_ne (Or.inl (by decide))).trans (htd3 rfl 0 (by omega)))
                                                 | (rw [stS_n hc112 hc114 hc102]; exact ⟨rfl, hp, rdF_r, fun z => by cases z⟩))
                                      · dsimp only [Option.toList, List.cons_append, List.nil_append]
                                        refine xG_br rfl (fun h90 => ?_) (fun h90 => ?_)
                                        · first
                                            | (exfalso; first | exact absurd h90 (by decide) | exact h90 (by decide) | (simp at h90; done))
                                            | (refine xG_run 1 rfl (by repeat' (first | exact trivial | assumption | exact xob_b rfl | exact xal_b rfl | (apply And.intro) | decide)) ?_
                                               try dsimp only [xsto1, xsto2, xkill, xget, xset, gd_0, gd_s]
                                               refine r2_z rfl rfl (by first | decide | assumption) ?_
                                               first
                                                 | (rw [stS_p hc112 hRR, rd1_f rfl]
                                                    exact ⟨rfl, hq3, rdF_t (rdF_i (Or.inl rfl)) hF3, fun z => by cases z⟩)
                                                 | (rw [stS_p hc112 hRR, rd1_cf (by decide) (by decide) hc59]
                                                    exact ⟨rfl, hq3, rdF_t (rdF_i (Or.inl rfl)) hF3, fun z => by cases z⟩)
                                                 | (rw [stS_p hc112 hRR, rd1_ct (it := 59) (by decide) (by decide) hc59]
                                                    refine ⟨rfl, gI_self _ _ _ _, rdF_t (rdF_i (Or.inl rfl)) (rdF_t hF3 (rdF_i (Or.inl rfl))), fun _ => ⟨?_, ?_, ?_⟩⟩
                                                    · exact fun _ i hi => (gI_ne (Or.inl (by decide))).trans (htd3 rfl i hi)
                                                    · exact fun z => absurd (hc112.symm.trans z) (by decide)
                                                    · exact fun z => absurd (hc112.symm.trans z) (by decide))
                                                 | (rw [stS_r hc114 hRR, rd1_f rfl]
                                                    exact ⟨rfl, hq3, rdF_t (rdF_i (Or.inl rfl)) hF3, fun z => by cases z⟩)
                                                 | (rw [stS_r hc114 hRR, rd1_cf (by decide) (by decide) hc59]
                                                    exact ⟨rfl, hq3, rdF_t (rdF_i (Or.inl rfl)) hF3, fun z => by cases z⟩)
                                                 | (rw [stS_r hc114 hRR, rd1_ct (it := 59) (by decide) (by decide) hc59]
                                                    refine ⟨rfl, gI_self _ _ _ _, rdF_t (rdF_i (Or.inl rfl)) (rdF_t hF3 (rdF_i (Or.inl rfl))), fun _ => ⟨?_, ?_, ?_⟩⟩
                                                    · exact fun z => absurd (hc114.symm.trans z) (by decide)
                                                    · exact fun _ i hi => (gI_ne (Or.inl (by decide))).trans (htd3 rfl i hi)
                                                    · exact fun z => absurd (hc114.symm.trans z) (by decide))
                                                 | (rw [stS_f hc102 hRR, rd1_f rfl]
                                                    exact ⟨rfl, hq3, rdF_t (rdF_i (Or.inl rfl)) hF3, fun z => by cases z⟩)
                                                 | (rw [stS_f hc102 hRR, rd1_cf (by decide) (by decide) hc59]
                                                    exact ⟨rfl, hq3, rdF_t (rdF_i (Or.inl rfl)) hF3, fun z => by cases z⟩)
                                                 | (rw [stS_f hc102 hRR, rd1_ct (it := 59) (by decide) (by decide) hc59]
                                                    refine ⟨rfl, gI_self _ _ _ _, rdF_t (rdF_i (Or.inl rfl)) (rdF_t hF3 (rdF_i (Or.inl rfl))), fun _ => ⟨?_, ?_, ?_⟩⟩
                                                    · exact fun z => absurd (hc102.symm.trans z) (by decide)
                                                    · exact fun z => absurd (hc102.symm.trans z) (by decide)
                                                    · exact fun _ => (gI_ne (Or.inl (by decide))).trans (htd3 rfl 0 (by omega)))
                                                 | (rw [stS_n hc112 hc114 hc102]; exact ⟨rfl, hp, rdF_r, fun z => by cases z⟩))
                                        · first
                                            | (exfalso; first | exact absurd h90 (by decide) | exact h90 (by decide) | (simp at h90; done))
                                            | (refine xG_run 2 rfl (by repeat' (first | exact trivial | assumption | exact xob_b rfl | exact xal_b rfl | (apply And.intro) | decide)) ?_
                                               try dsimp only [xsto1, xsto2, xkill, xget, xset, gd_0, gd_s]
                                               refine r2_z rfl rfl (by first | decide | assumption) ?_
                                               first
                                                 | (rw [stS_p hc112 hRR, rd1_f rfl]
                                                    exact ⟨rfl, hq3, rdF_t (rdF_i (Or.inl rfl)) hF3, fun z => by cases z⟩)
                                                 | (rw [stS_p hc112 hRR, rd1_cf (by decide) (by decide) hc59]
                                                    exact ⟨rfl, hq3, rdF_t (rdF_i (Or.inl rfl)) hF3, fun z => by cases z⟩)
                                                 | (rw [stS_p hc112 hRR, rd1_ct (it := 59) (by decide) (by decide) hc59]
                                                    refine ⟨rfl, gI_self _ _ _ _, rdF_t (rdF_i (Or.inl rfl)) (rdF_t hF3 (rdF_i (Or.inl rfl))), fun _ => ⟨?_, ?_, ?_⟩⟩
                                                    · exact fun _ i hi => (gI_ne (Or.inl (by decide))).trans (htd3 rfl i hi)
                                                    · exact fun z => absurd (hc112.symm.trans z) (by decide)
                                                    · exact fun z => absurd (hc112.symm.trans z) (by decide))
                                                 | (rw [stS_r hc114 hRR, rd1_f rfl]
                                                    exact ⟨rfl, hq3, rdF_t (rdF_i (Or.inl rfl)) hF3, fun z => by cases z⟩)
                                                 | (rw [stS_r hc114 hRR, rd1_cf (by decide) (by decide) hc59]
                                                    exact ⟨rfl, hq3, rdF_t (rdF_i (Or.inl rfl)) hF3, fun z => by cases z⟩)
                                                 | (rw [stS_r hc114 hRR, rd1_ct (it := 59) (by decide) (by decide) hc59]
                                                    refine ⟨rfl, gI_self _ _ _ _, rdF_t (rdF_i (Or.inl rfl)) (rdF_t hF3 (rdF_i (Or.inl rfl))), fun _ => ⟨?_, ?_, ?_⟩⟩
                                                    · exact fun z => absurd (hc114.symm.trans z) (by decide)
                                                    · exact fun _ i hi => (gI_ne (Or.inl (by decide))).trans (htd3 rfl i hi)
                                                    · exact fun z => absurd (hc114.symm.trans z) (by decide))
                                                 | (rw [stS_f hc102 hRR, rd1_f rfl]
                                                    exact ⟨rfl, hq3, rdF_t (rdF_i (Or.inl rfl)) hF3, fun z => by cases z⟩)
                                                 | (rw [stS_f hc102 hRR, rd1_cf (by decide) (by decide) hc59]
                                                    exact ⟨rfl, hq3, rdF_t (rdF_i (Or.inl rfl)) hF3, fun z => by cases z⟩)
                                                 | (rw [stS_f hc102 hRR, rd1_ct (it := 59) (by decide) (by decide) hc59]
                                                    refine ⟨rfl, gI_self _ _ _ _, rdF_t (rdF_i (Or.inl rfl)) (rdF_t hF3 (rdF_i (Or.inl rfl))), fun _ => ⟨?_, ?_, ?_⟩⟩
                                                    · exact fun z => absurd (hc102.symm.trans z) (by decide)
                                                    · exact fun z => absurd (hc102.symm.trans z) (by decide)
                                                    · exact fun _ => (gI_ne (Or.inl (by decide))).trans (htd3 rfl 0 (by omega)))
                                                 | (rw [stS_n hc112 hc114 hc102]; exact ⟨rfl, hp, rdF_r, fun z => by cases z⟩)))))
             · first
                 | (exfalso; first | exact absurd h39 (by decide) | exact h39 (by decide) | (simp at h39; done))
                 | (refine xG_run 3 rfl (by repeat' (first | exact trivial | assumption | exact xob_b rfl | exact xal_b rfl | (apply And.intro) | decide)) ?_
                    try dsimp only [xsto1, xsto2, xkill, xget, xset, gd_0, gd_s]
                    refine xG_c2 2 rfl (by repeat' (first | exact trivial | assumption | exact xob_b rfl | exact xal_b rfl | (apply And.intro) | decide)) rfl rfl (by decide) cw_X12_readsNumbers (d' := d - 1) (e_readsNumbersS (m := 5) (p := p + 1) (sv := 0) hTa (gI_self _ _ _ _) (by omega) (by omega) (by omega)) (by omega) ?_
                    rintro v M3 ⟨rfl, hq3, hF3, htd3⟩
                    rcases hRR : rdS T n (itK true 5) (true, p + 1, [], 0) with ⟨ok, q, l, sx⟩
                    try rw [hRR] at hq3 htd3
                    dsimp only at hq3 htd3
                    cases ok
                    · dsimp only [Option.toList, List.cons_append, List.nil_append]
                      refine xG_br rfl (fun h48 => ?_) (fun h48 => ?_)
                      · first
                          | (exfalso; first | exact absurd h48 (by decide) | exact h48 (by decide) | (simp at h48; done))
                          | (refine xG_run 1 rfl (by repeat' (first | exact trivial | assumption | exact xob_b rfl | exact xal_b rfl | (apply And.intro) | decide)) ?_
                             try dsimp only [xsto1, xsto2, xkill, xget, xset, gd_0, gd_s]
                             refine r2_z rfl rfl (by first | decide | assumption) ?_
                             first
                               | (rw [stS_p hc112 hRR, rd1_f rfl]
                                  exact ⟨rfl, hq3, rdF_t (rdF_i (Or.inl rfl)) hF3, fun z => by cases z⟩)
                               | (rw [stS_p hc112 hRR, rd1_cf (by decide) (by decide) hc59]
                                  exact ⟨rfl, hq3, rdF_t (rdF_i (Or.inl rfl)) hF3, fun z => by cases z⟩)
                               | (rw [stS_p hc112 hRR, rd1_ct (it := 59) (by decide) (by decide) hc59]
                                  refine ⟨rfl, gI_self _ _ _ _, rdF_t (rdF_i (Or.inl rfl)) (rdF_t hF3 (rdF_i (Or.inl rfl))), fun _ => ⟨?_, ?_, ?_⟩⟩
                                  · exact fun _ i hi => (gI_ne (Or.inl (by decide))).trans (htd3 rfl i hi)
                                  · exact fun z => absurd (hc112.symm.trans z) (by decide)
                                  · exact fun z => absurd (hc112.symm.trans z) (by decide))
                               | (rw [stS_r hc114 hRR, rd1_f rfl]
                                  exact ⟨rfl, hq3, rdF_t (rdF_i (Or.inl rfl)) hF3, fun z => by cases z⟩)
                               | (rw [stS_r hc114 hRR, rd1_cf (by decide) (by decide) hc59]
                                  exact ⟨rfl, hq3, rdF_t (rdF_i (Or.inl rfl)) hF3, fun z => by cases z⟩)
                               | (rw [stS_r hc114 hRR, rd1_ct (it := 59) (by decide) (by decide) hc59]
                                  refine ⟨rfl, gI_self _ _ _ _, rdF_t (rdF_i (Or.inl rfl)) (rdF_t hF3 (rdF_i (Or.inl rfl))), fun _ => ⟨?_, ?_, ?_⟩⟩
                                  · exact fun z => absurd (hc114.symm.trans z) (by decide)
                                  · exact fun _ i hi => (gI_ne (Or.inl (by decide))).trans (htd3 rfl i hi)
                                  · exact fun z => absurd (hc114.symm.trans z) (by decide))
                               | (rw [stS_f hc102 hRR, rd1_f rfl]
                                  exact ⟨rfl, hq3, rdF_t (rdF_i (Or.inl rfl)) hF3, fun z => by cases z⟩)
                               | (rw [stS_f hc102 hRR, rd1_cf (by decide) (by decide) hc59]
                                  exact ⟨rfl, hq3, rdF_t (rdF_i (Or.inl rfl)) hF3, fun z => by cases z⟩)
                               | (rw [stS_f hc102 hRR, rd1_ct (it := 59) (by decide) (by decide) hc59]
                                  refine ⟨rfl, gI_self _ _ _ _, rdF_t (rdF_i (Or.inl rfl)) (rdF_t hF3 (rdF_i (Or.inl rfl))), fun _ => ⟨?_, ?_, ?_⟩⟩
                                  · exact fun z => absurd (hc102.symm.trans z) (by decide)
                                  · exact fun z => absurd (hc102.symm.trans z) (by decide)
                                  · exact fun _ => (gI_ne (Or.inl (by decide))).trans (htd3 rfl 0 (by omega)))
                               | (rw [stS_n hc112 hc114 hc102]; exact ⟨rfl, hp, rdF_r, fun z => by cases z⟩))
                      · first
                          | (exfalso; first | exact absurd h48 (by decide) | exact h48 (by decide) | (simp at h48; done))
                          | (refine xG_run 2 rfl (by repeat' (first | exact trivial | assumption | exact xob_b rfl | exact xal_b rfl | (apply And.intro) | decide)) ?_
                             try dsimp only [xsto1, xsto2, xkill, xget, xset, gd_0, gd_s]
                             refine xG_c2 1 rfl (by repeat' (first | exact trivial | assumption | exact xob_b rfl | exact xal_b rfl | (apply And.intro) | decide)) rfl rfl (by decide) cw_X12_takes (d' := d - 1) (e_takes (p := q) (c := 59) hT3 hq3 (by omega) (by omega)) (by omega) ?_
                             rintro v M4 (⟨hc59, rfl, rfl⟩ | ⟨hc59, rfl, rfl⟩)
                             · dsimp only [Option.toList, List.cons_append, List.nil_append]
                               refine xG_br rfl (fun h57 => ?_) (fun h57 => ?_)
                               · first
                                   | (exfalso; first | exact absurd h57 (by decide) | exact h57 (by decide) | (simp at h57; done))
                                   | (refine xG_run 1 rfl (by repeat' (first | exact trivial | assumption | exact xob_b rfl | exact xal_b rfl | (apply And.intro) | decide)) ?_
                                      try dsimp only [xsto1, xsto2, xkill, xget, xset, gd_0, gd_s]
                                      refine r2_z rfl rfl (by first | decide | assumption) ?_
                                      first
                                        | (rw [stS_p hc112 hRR, rd1_f rfl]
                                           exact ⟨rfl, hq3, rdF_t (rdF_i (Or.inl rfl)) hF3, fun z => by cases z⟩)
                                        | (rw [stS_p hc112 hRR, rd1_cf (by decide) (by decide) hc59]
                                           exact ⟨rfl, hq3, rdF_t (rdF_i (Or.inl rfl)) hF3, fun z => by cases z⟩)
                                        | (rw [stS_p hc112 hRR, rd1_ct (it := 59) (by decide) (by decide) hc59]
                                           refine ⟨rfl, gI_self _ _ _ _, rdF_t (rdF_i (Or.inl rfl)) (rdF_t hF3 (rdF_i (Or.inl rfl))), fun _ => ⟨?_, ?_, ?_⟩⟩
                                           · exact fun _ i hi => (gI_ne (Or.inl (by decide))).trans (htd3 rfl i hi)
                                           · exact fun z => absurd (hc112.symm.trans z) (by decide)
                                           · exact fun z => absurd (hc112.symm.trans z) (by decide))
                                        | (rw [stS_r hc114 hRR, rd1_f rfl]
                                           exact ⟨rfl, hq3, rdF_t (rdF_i (Or.inl rfl)) hF3, fun z => by cases z⟩)
                                        | (rw [stS_r hc114 hRR, rd1_cf (by decide) (by decide) hc59]
                                           exact ⟨rfl, hq3, rdF_t (rdF_i (Or.inl rfl)) hF3, fun z => by cases z⟩)
                                        | (rw [stS_r hc114 hRR, rd1_ct (it := 59) (by decide) (by decide) hc59]
                                           refine ⟨rfl, gI_self _ _ _ _, rdF_t (rdF_i (Or.inl rfl)) (rdF_t hF3 (rdF_i (Or.inl rfl))), fun _ => ⟨?_, ?_, ?_⟩⟩
                                           · exact fun z => absurd (hc114.symm.trans z) (by decide)
                                           · exact fun _ i hi => (gI_ne (Or.inl (by decide))).trans (htd3 rfl i hi)
                                           · exact fun z => absurd (hc114.symm.trans z) (by decide))
                                        | (rw [stS_f hc102 hRR, rd1_f rfl]
                                           exact ⟨rfl, hq3, rdF_t (rdF_i (Or.inl rfl)) hF3, fun z => by cases z⟩)
                                        | (rw [stS_f hc102 hRR, rd1_cf (by decide) (by decide) hc59]
                                           exact ⟨rfl, hq3, rdF_t (rdF_i (Or.inl rfl)) hF3, fun z => by cases z⟩)
                                        | (rw [stS_f hc102 hRR, rd1_ct (it := 59) (by decide) (by decide) hc59]
                                           refine ⟨rfl, gI_self _ _ _ _, rdF_t (rdF_i (Or.inl rfl)) (rdF_t hF3 (rdF_i (Or.inl rfl))), fun _ => ⟨?_, ?_, ?_⟩⟩
                                           · exact fun z => absurd (hc102.symm.trans z) (by decide)
                                           · exact fun z => absurd (hc102.symm.trans z) (by decide)
                                           · exact fun _ => (gI_ne (Or.inl (by decide))).trans (htd3 rfl 0 (by omega)))
                                        | (rw [stS_n hc112 hc114 hc102]; exact ⟨rfl, hp, rdF_r, fun z => by cases z⟩))
                               · first
                                   | (exfalso; first | exact absurd h57 (by decide) | exact h57 (by decide) | (simp at h57; done))
                                   | (refine xG_run 2 rfl (by repeat' (first | exact trivial | assumption | exact xob_b rfl | exact xal_b rfl | (apply And.intro) | decide)) ?_
                                      try dsimp only [xsto1, xsto2, xkill, xget, xset, gd_0, gd_s]
                                      refine r2_z rfl rfl (by first | decide | assumption) ?_
                                      first
                                        | (rw [stS_p hc112 hRR, rd1_f rfl]
                                           exact ⟨rfl, hq3, rdF_t (rdF_i (Or.inl rfl)) hF3, fun z => by cases z⟩)
                                        | (rw [stS_p hc112 hRR, rd1_cf (by decide) (by decide) hc59]
                                           exact ⟨rfl, hq3, rdF_t (rdF_i (Or.inl rfl)) hF3, fun z => by cases z⟩)
                                        | (rw [stS_p hc112 hRR, rd1_ct (it := 59) (by decide) (by decide) hc59]
                                           refine ⟨rfl, gI_self _ _ _ _, rdF_t (rdF_i (Or.inl rfl)) (rdF_t hF3 (rdF_i (Or.inl rfl))), fun _ => ⟨?_, ?_, ?_⟩⟩
                                           · exact fun _ i hi => (gI_ne (Or.inl (by decide))).trans (htd3 rfl i hi)
                                           · exact fun z => absurd (hc112.symm.trans z) (by decide)
                                           · exact fun z => absurd (hc112.symm.trans z) (by decide))
                                        | (rw [stS_r hc114 hRR, rd1_f rfl]
                                           exact ⟨rfl, hq3, rdF_t (rdF_i (Or.inl rfl)) hF3, fun z => by cases z⟩)
                                        | (rw [stS_r hc114 hRR, rd1_cf (by decide) (by decide) hc59]
                                           exact ⟨rfl, hq3, rdF_t (rdF_i (Or.inl rfl)) hF3, fun z => by cases z⟩)
                                        | (rw [stS_r hc114 hRR, rd1_ct (it := 59) (by decide) (by decide) hc59]
                                           refine ⟨rfl, gI_self _ _ _ _, rdF_t (rdF_i (Or.inl rfl)) (rdF_t hF3 (rdF_i (Or.inl rfl))), fun _ => ⟨?_, ?_, ?_⟩⟩
                                           · exact fun z => absurd (hc114.symm.trans z) (by decide)
                                           · exact fun _ i hi => (gI_ne (Or.inl (by decide))).trans (htd3 rfl i hi)
                                           · exact fun z => absurd (hc114.symm.trans z) (by decide))
                                        | (rw [stS_f hc102 hRR, rd1_f rfl]
                                           exact ⟨rfl, hq3, rdF_t (rdF_i (Or.inl rfl)) hF3, fun z => by cases z⟩)
                                        | (rw [stS_f hc102 hRR, rd1_cf (by decide) (by decide) hc59]
                                           exact ⟨rfl, hq3, rdF_t (rdF_i (Or.inl rfl)) hF3, fun z => by cases z⟩)
                                        | (rw [stS_f hc102 hRR, rd1_ct (it := 59) (by decide) (by decide) hc59]
                                           refine ⟨rfl, gI_self _ _ _ _, rdF_t (rdF_i (Or.inl rfl)) (rdF_t hF3 (rdF_i (Or.inl rfl))), fun _ => ⟨?_, ?_, ?_⟩⟩
                                           · exact fun z => absurd (hc102.symm.trans z) (by decide)
                                           · exact fun z => absurd (hc102.symm.trans z) (by decide)
                                           · exact fun _ => (gI_ne (Or.inl (by decide))).trans (htd3 rfl 0 (by omega)))
                                        | (rw [stS_n hc112 hc114 hc102]; exact ⟨rfl, hp, rdF_r, fun z => by cases z⟩))
                             · dsimp only [Option.toList, List.cons_append, List.nil_append]
                               refine xG_br rfl (fun h57 => ?_) (fun h57 => ?_)
                               · first
                                   | (exfalso; first | exact absurd h57 (by decide) | exact h57 (by decide) | (simp at h57; done))
                                   | (refine xG_run 1 rfl (by repeat' (first | exact trivial | assumption | exact xob_b rfl | exact xal_b rfl | (apply And.intro) | decide)) ?_
                                      try dsimp only [xsto1, xsto2, xkill, xget, xset, gd_0, gd_s]
                                      refine r2_z rfl rfl (by first | decide | assumption) ?_
                                      first
                                        | (rw [stS_p hc112 hRR, rd1_f rfl]
                                           exact ⟨rfl, hq3, rdF_t (rdF_i (Or.inl rfl)) hF3, fun z => by cases z⟩)
                                        | (rw [stS_p hc112 hRR, rd1_cf (by decide) (by decide) hc59]
                                           exact ⟨rfl, hq3, rdF_t (rdF_i (Or.inl rfl)) hF3, fun z => by cases z⟩)
                                        | (rw [stS_p hc112 hRR, rd1_ct (it := 59) (by decide) (by decide) hc59]
                                           refine ⟨rfl, gI_self _ _ _ _, rdF_t (rdF_i (Or.inl rfl)) (rdF_t hF3 (rdF_i (Or.inl rfl))), fun _ => ⟨?_, ?_, ?_⟩⟩
                                           · exact fun _ i hi => (gI_ne (Or.inl (by decide))).trans (htd3 rfl i hi)
                                           · exact fun z => absurd (hc112.symm.trans z) (by decide)
                                           · exact fun z => absurd (hc112.symm.trans z) (by decide))
                                        | (rw [stS_r hc114 hRR, rd1_f rfl]
                                           exact ⟨rfl, hq3, rdF_t (rdF_i (Or.inl rfl)) hF3, fun z => by cases z⟩)
                                        | (rw [stS_r hc114 hRR, rd1_cf (by decide) (by decide) hc59]
                                           exact ⟨rfl, hq3, rdF_t (rdF_i (Or.inl rfl)) hF3, fun z => by cases z⟩)
                                        | (rw [stS_r hc114 hRR, rd1_ct (it := 59) (by decide) (by decide) hc59]
                                           refine ⟨rfl, gI_self _ _ _ _, rdF_t (rdF_i (Or.inl rfl)) (rdF_t hF3 (rdF_i (Or.inl rfl))), fun _ => ⟨?_, ?_, ?_⟩⟩
                                           · exact fun z => absurd (hc114.symm.trans z) (by decide)
                                           · exact fun _ i hi => (gI_ne (Or.inl (by decide))).trans (htd3 rfl i hi)
                                           · exact fun z => absurd (hc114.symm.trans z) (by decide))
                                        | (rw [stS_f hc102 hRR, rd1_f rfl]
                                           exact ⟨rfl, hq3, rdF_t (rdF_i (Or.inl rfl)) hF3, fun z => by cases z⟩)
                                        | (rw [stS_f hc102 hRR, rd1_cf (by decide) (by decide) hc59]
                                           exact ⟨rfl, hq3, rdF_t (rdF_i (Or.inl rfl)) hF3, fun z => by cases z⟩)
                                        | (rw [stS_f hc102 hRR, rd1_ct (it := 59) (by decide) (by decide) hc59]
                                           refine ⟨rfl, gI_self _ _ _ _, rdF_t (rdF_i (Or.inl rfl)) (rdF_t hF3 (rdF_i (Or.inl rfl))), fun _ => ⟨?_, ?_, ?_⟩⟩
                                           · exact fun z => absurd (hc102.symm.trans z) (by decide)
                                           · exact fun z => absurd (hc102.symm.trans z) (by decide)
                                           · exact fun _ => (gI_ne (Or.inl (by decide))).trans (htd3 rfl 0 (by omega)))
                                        | (rw [stS_n hc112 hc114 hc102]; exact ⟨rfl, hp, rdF_r, fun z => by cases z⟩))
                               · first
                                   | (exfalso; first | exact absurd h57 (by decide) | exact h57 (by decide) | (simp at h57; done))
                                   | (refine xG_run 2 rfl (by repeat' (first | exact trivial | assumption | exact xob_b rfl | exact xal_b rfl | (apply And.intro) | decide)) ?_
                                      try dsimp only [xsto1, xsto2, xkill, xget, xset, gd_0, gd_s]
                                      refine r2_z rfl rfl (by first | decide | assumption) ?_
                                      first
                                        | (rw [stS_p hc112 hRR, rd1_f rfl]
                                           exact ⟨rfl, hq3, rdF_t (rdF_i (Or.inl rfl)) hF3, fun z => by cases z⟩)
                                        | (rw [stS_p hc112 hRR, rd1_cf (by decide) (by decide) hc59]
                                           exact ⟨rfl, hq3, rdF_t (rdF_i (Or.inl rfl)) hF3, fun z => by cases z⟩)
                                        | (rw [stS_p hc112 hRR, rd1_ct (it := 59) (by decide) (by decide) hc59]
                                           refine ⟨rfl, gI_self _ _ _ _, rdF_t (rdF_i (Or.inl rfl)) (rdF_t hF3 (rdF_i (Or.inl rfl))), fun _ => ⟨?_, ?_, ?_⟩⟩
                                           · exact fun _ i hi => (gI_ne (Or.inl (by decide))).trans (htd3 rfl i hi)
                                           · exact fun z => absurd (hc112.symm.trans z) (by decide)
                                           · exact fun z => absurd (hc112.symm.trans z) (by decide))
                                        | (rw [stS_r hc114 hRR, rd1_f rfl]
                                           exact ⟨rfl, hq3, rdF_t (rdF_i (Or.inl rfl)) hF3, fun z => by cases z⟩)
                                        | (rw [stS_r hc114 hRR, rd1_cf (by decide) (by decide) hc59]
                                           exact ⟨rfl, hq3, rdF_t (rdF_i (Or.inl rfl)) hF3, fun z => by cases z⟩)
                                        | (rw [stS_r hc114 hRR, rd1_ct (it := 59) (by decide) (by decide) hc59]
                                           refine ⟨rfl, gI_self _ _ _ _, rdF_t (rdF_i (Or.inl rfl)) (rdF_t hF3 (rdF_i (Or.inl rfl))), fun _ => ⟨?_, ?_, ?_⟩⟩
                                           · exact fun z => absurd (hc114.symm.trans z) (by decide)
                                           · exact fun _ i hi => (gI_ne (Or.inl (by decide))).trans (htd3 rfl i hi)
                                           · exact fun z => absurd (hc114.symm.trans z) (by decide))
                                        | (rw [stS_f hc102 hRR, rd1_f rfl]
                                           exact ⟨rfl, hq3, rdF_t (rdF_i (Or.inl rfl)) hF3, fun z => by cases z⟩)
                                        | (rw [stS_f hc102 hRR, rd1_cf (by decide) (by decide) hc59]
                                           exact ⟨rfl, hq3, rdF_t (rdF_i (Or.inl rfl)) hF3, fun z => by cases z⟩)
                                        | (rw [stS_f hc102 hRR, rd1_ct (it := 59) (by decide) (by decide) hc59]
                                           refine ⟨rfl, gI_self _ _ _ _, rdF_t (rdF_i (Or.inl rfl)) (rdF_t hF3 (rdF_i (Or.inl rfl))), fun _ => ⟨?_, ?_, ?_⟩⟩
                                           · exact fun z => absurd (hc102.symm.trans z) (by decide)
                                           · exact fun z => absurd (hc102.symm.trans z) (by decide)
                                           · exact fun _ => (gI_ne (Or.inl (by decide))).trans (htd3 rfl 0 (by omega)))
                                        | (rw [stS_n hc112 hc114 hc102]; exact ⟨rfl, hp, rdF_r, fun z => by cases z⟩)))
                    · dsimp only [Option.toList, List.cons_append, List.nil_append]
                      have hT3 := rT_F hTa hF3
                      have hq9 : q ≤ n := by
                        have e := rdS_le (T := T) (n := n) (l := itK true 5) (s := (true, p + 1, [], 0)) (by show p + 1 ≤ n; omega) (itK_le 5)
                        rw [hRR] at e
                        exact e
                      refine xG_br rfl (fun h48 => ?_) (fun h48 => ?_)
                      · first
                          | (exfalso; first | exact absurd h48 (by decide) | exact h48 (by decide) | (simp at h48; done))
                          | (refine xG_run 1 rfl (by repeat' (first | exact trivial | assumption | exact xob_b rfl | exact xal_b rfl | (apply And.intro) | decide)) ?_
                             try dsimp only [xsto1, xsto2, xkill, xget, xset, gd_0, gd_s]
                             refine r2_z rfl rfl (by first | decide | assumption) ?_
                             first
                               | (rw [stS_p hc112 hRR, rd1_f rfl]
                                  exact ⟨rfl, hq3, rdF_t (rdF_i (Or.inl rfl)) hF3, fun z => by cases z⟩)
                               | (rw [stS_p hc112 hRR, rd1_cf (by decide) (by decide) hc59]
                                  exact ⟨rfl, hq3, rdF_t (rdF_i (Or.inl rfl)) hF3, fun z => by cases z⟩)
                               | (rw [stS_p hc112 hRR, rd1_ct (it := 59) (by decide) (by decide) hc59]
                                  refine ⟨rfl, gI_self _ _ _ _, rdF_t (rdF_i (Or.inl rfl)) (rdF_t hF3 (rdF_i (Or.inl rfl))), fun _ => ⟨?_, ?_, ?_⟩⟩
                                  · exact fun _ i hi => (gI_ne (Or.inl (by decide))).trans (htd3 rfl i hi)
                                  · exact fun z => absurd (hc112.symm.trans z) (by decide)
                                  · exact fun z => absurd (hc112.symm.trans z) (by decide))
                               | (rw [stS_r hc114 hRR, rd1_f rfl]
                                  exact ⟨rfl, hq3, rdF_t (rdF_i (Or.inl rfl)) hF3, fun z => by cases z⟩)
                               | (rw [stS_r hc114 hRR, rd1_cf (by decide) (by decide) hc59]
                                  exact ⟨rfl, hq3, rdF_t (rdF_i (Or.inl rfl)) hF3, fun z => by cases z⟩)
                               | (rw [stS_r hc114 hRR, rd1_ct (it := 59) (by decide) (by decide) hc59]
                                  refine ⟨rfl, gI_self _ _ _ _, rdF_t (rdF_i (Or.inl rfl)) (rdF_t hF3 (rdF_i (Or.inl rfl))), fun _ => ⟨?_, ?_, ?_⟩⟩
                                  · exact fun z => absurd (hc114.symm.trans z) (by decide)
                                  · exact fun _ i hi => (gI_ne (Or.inl (by decide))).trans (htd3 rfl i hi)
                                  · exact fun z => absurd (hc114.symm.trans z) (by decide))
                               | (rw [stS_f hc102 hRR, rd1_f rfl]
                                  exact ⟨rfl, hq3, rdF_t (rdF_i (Or.inl rfl)) hF3, fun z => by cases z⟩)
                               | (rw [stS_f hc102 hRR, rd1_cf (by decide) (by decide) hc59]
                                  exact ⟨rfl, hq3, rdF_t (rdF_i (Or.inl rfl)) hF3, fun z => by cases z⟩)
                               | (rw [stS_f hc102 hRR, rd1_ct (it := 59) (by decide) (by decide) hc59]
                                  refine ⟨rfl, gI_self _ _ _ _, rdF_t (rdF_i (Or.inl rfl)) (rdF_t hF3 (rdF_i (Or.inl rfl))), fun _ => ⟨?_, ?_, ?_⟩⟩
                                  · exact fun z => absurd (hc102.symm.trans z) (by decide)
                                  · exact fun z => absurd (hc102.symm.trans z) (by decide)
                                  · exact fun _ => (gI_ne (Or.inl (by decide))).trans (htd3 rfl 0 (by omega)))
                               | (rw [stS_n hc112 hc114 hc102]; exact ⟨rfl, hp, rdF_r, fun z => by cases z⟩))
                      · first
                          | (exfalso; first | exact absurd h48 (by decide) | exact h48 (by decide) | (simp at h48; done))
                          | (refine xG_run 2 rfl (by repeat' (first | exact trivial | assumption | exact xob_b rfl | exact xal_b rfl | (apply And.intro) | decide)) ?_
                             try dsimp only [xsto1, xsto2, xkill, xget, xset, gd_0, gd_s]
                             refine xG_c2 1 rfl (by repeat' (first | exact trivial | assumption | exact xob_b rfl | exact xal_b rfl | (apply And.intro) | decide)) rfl rfl (by decide) cw_X12_takes (d' := d - 1) (e_takes (p := q) (c := 59) hT3 hq3 (by omega) (by omega)) (by omega) ?_
                             rintro v M4 (⟨hc59, rfl, rfl⟩ | ⟨hc59, rfl, rfl⟩)
                             · dsimp only [Option.toList, List.cons_append, List.nil_append]
                               refine xG_br rfl (fun h57 => ?_) (fun h57 => ?_)
                               · first
                                   | (exfalso; first | exact absurd h57 (by decide) | exact h57 (by decide) | (simp at h57; done))
                                   | (refine xG_run 1 rfl (by repeat' (first | exact trivial | assumption | exact xob_b rfl | exact xal_b rfl | (apply And.intro) | decide)) ?_
                                      try dsimp only [xsto1, xsto2, xkill, xget, xset, gd_0, gd_s]
                                      refine r2_z rfl rfl (by first | decide | assumption) ?_
                                      first
                                        | (rw [stS_p hc112 hRR, rd1_f rfl]
                                           exact ⟨rfl, hq3, rdF_t (rdF_i (Or.inl rfl)) hF3, fun z => by cases z⟩)
                                        | (rw [stS_p hc112 hRR, rd1_cf (by decide) (by decide) hc59]
                                           exact ⟨rfl, hq3, rdF_t (rdF_i (Or.inl rfl)) hF3, fun z => by cases z⟩)
                                        | (rw [stS_p hc112 hRR, rd1_ct (it := 59) (by decide) (by decide) hc59]
                                           refine ⟨rfl, gI_self _ _ _ _, rdF_t (rdF_i (Or.inl rfl)) (rdF_t hF3 (rdF_i (Or.inl rfl))), fun _ => ⟨?_, ?_, ?_⟩⟩
                                           · exact fun _ i hi => (gI_ne (Or.inl (by decide))).trans (htd3 rfl i hi)
                                           · exact fun z => absurd (hc112.symm.trans z) (by decide)
                                           · exact fun z => absurd (hc112.symm.trans z) (by decide))
                                        | (rw [stS_r hc114 hRR, rd1_f rfl]
                                           exact ⟨rfl, hq3, rdF_t (rdF_i (Or.inl rfl)) hF3, fun z => by cases z⟩)
                                        | (rw [stS_r hc114 hRR, rd1_cf (by decide) (by decide) hc59]
                                           exact ⟨rfl, hq3, rdF_t (rdF_i (Or.inl rfl)) hF3, fun z => by cases z⟩)
                                        | (rw [stS_r hc114 hRR, rd1_ct (it := 59) (by decide) (by decide) hc59]
                                           refine ⟨rfl, gI_self _ _ _ _, rdF_t (rdF_i (Or.inl rfl)) (rdF_t hF3 (rdF_i (Or.inl rfl))), fun _ => ⟨?_, ?_, ?_⟩⟩
                                           · exact fun z => absurd (hc114.symm.trans z) (by decide)
                                           · exact fun _ i hi => (gI_ne (Or.inl (by decide))).trans (htd3 rfl i hi)
                                           · exact fun z => absurd (hc114.symm.trans z) (by decide))
                                        | (rw [stS_f hc102 hRR, rd1_f rfl]
                                           exact ⟨rfl, hq3, rdF_t (rdF_i (Or.inl rfl)) hF3, fun z => by cases z⟩)
                                        | (rw [stS_f hc102 hRR, rd1_cf (by decide) (by decide) hc59]
                                           exact ⟨rfl, hq3, rdF_t (rdF_i (Or.inl rfl)) hF3, fun z => by cases z⟩)
                                        | (rw [stS_f hc102 hRR, rd1_ct (it := 59) (by decide) (by decide) hc59]
                                           refine ⟨rfl, gI_self _ _ _ _, rdF_t (rdF_i (Or.inl rfl)) (rdF_t hF3 (rdF_i (Or.inl rfl))), fun _ => ⟨?_, ?_, ?_⟩⟩
                                           · exact fun z => absurd (hc102.symm.trans z) (by decide)
                                           · exact fun z => absurd (hc102.symm.trans z) (by decide)
                                           · exact fun _ => (gI_ne (Or.inl (by decide))).trans (htd3 rfl 0 (by omega)))
                                        | (rw [stS_n hc112 hc114 hc102]; exact ⟨rfl, hp, rdF_r, fun z => by cases z⟩))
                               · first
                                   | (exfalso; first | exact absurd h57 (by decide) | exact h57 (by decide) | (simp at h57; done))
                                   | (refine xG_run 2 rfl (by repeat' (first | exact trivial | assumption | exact xob_b rfl | exact xal_b rfl | (apply And.intro) | decide)) ?_
                                      try dsimp only [xsto1, xsto2, xkill, xget, xset, gd_0, gd_s]
                                      refine r2_z rfl rfl (by first | decide | assumption) ?_
                                      first
                                        | (rw [stS_p hc112 hRR, rd1_f rfl]
                                           exact ⟨rfl, hq3, rdF_t (rdF_i (Or.inl rfl)) hF3, fun z => by cases z⟩)
                                        | (rw [stS_p hc112 hRR, rd1_cf (by decide) (by decide) hc59]
                                           exact ⟨rfl, hq3, rdF_t (rdF_i (Or.inl rfl)) hF3, fun z => by cases z⟩)
                                        | (rw [stS_p hc112 hRR, rd1_ct (it := 59) (by decide) (by decide) hc59]
                                           refine ⟨rfl, gI_self _ _ _ _, rdF_t (rdF_i (Or.inl rfl)) (rdF_t hF3 (rdF_i (Or.inl rfl))), fun _ => ⟨?_, ?_, ?_⟩⟩
                                           · exact fun _ i hi => (gI_ne (Or.inl (by decide))).trans (htd3 rfl i hi)
                                           · exact fun z => absurd (hc112.symm.trans z) (by decide)
                                           · exact fun z => absurd (hc112.symm.trans z) (by decide))
                                        | (rw [stS_r hc114 hRR, rd1_f rfl]
                                           exact ⟨rfl, hq3, rdF_t (rdF_i (Or.inl rfl)) hF3, fun z => by cases z⟩)
                                        | (rw [stS_r hc114 hRR, rd1_cf (by decide) (by decide) hc59]
                                           exact ⟨rfl, hq3, rdF_t (rdF_i (Or.inl rfl)) hF3, fun z => by cases z⟩)
                                        | (rw [stS_r hc114 hRR, rd1_ct (it := 59) (by decide) (by decide) hc59]
                                           refine ⟨rfl, gI_self _ _ _ _, rdF_t (rdF_i (Or.inl rfl)) (rdF_t hF3 (rdF_i (Or.inl rfl))), fun _ => ⟨?_, ?_, ?_⟩⟩
                                           · exact fun z => absurd (hc114.symm.trans z) (by decide)
                                           · exact fun _ i hi => (gI_ne (Or.inl (by decide))).trans (htd3 rfl i hi)
                                           · exact fun z => absurd (hc114.symm.trans z) (by decide))
                                        | (rw [stS_f hc102 hRR, rd1_f rfl]
                                           exact ⟨rfl, hq3, rdF_t (rdF_i (Or.inl rfl)) hF3, fun z => by cases z⟩)
                                        | (rw [stS_f hc102 hRR, rd1_cf (by decide) (by decide) hc59]
                                           exact ⟨rfl, hq3, rdF_t (rdF_i (Or.inl rfl)) hF3, fun z => by cases z⟩)
                                        | (rw [stS_f hc102 hRR, rd1_ct (it := 59) (by decide) (by decide) hc59]
                                           refine ⟨rfl, gI_self _ _ _ _, rdF_t (rdF_i (Or.inl rfl)) (rdF_t hF3 (rdF_i (Or.inl rfl))), fun _ => ⟨?_, ?_, ?_⟩⟩
                                           · exact fun z => absurd (hc102.symm.trans z) (by decide)
                                           · exact fun z => absurd (hc102.symm.trans z) (by decide)
                                           · exact fun _ => (gI_ne (Or.inl (by decide))).trans (htd3 rfl 0 (by omega)))
                                        | (rw [stS_n hc112 hc114 hc102]; exact ⟨rfl, hp, rdF_r, fun z => by cases z⟩))
                             · dsimp only [Option.toList, List.cons_append, List.nil_append]
                               refine xG_br rfl (fun h57 => ?_) (fun h57 => ?_)
                               · first
                                   | (exfalso; first | exact absurd h57 (by decide) | exact h57 (by decide) | (simp at h57; done))
                                   | (refine xG_run 1 rfl (by repeat' (first | exact trivial | assumption | exact xob_b rfl | exact xal_b rfl | (apply And.intro) | decide)) ?_
                                      try dsimp only [xsto1, xsto2, xkill, xget, xset, gd_0, gd_s]
                                      refine r2_z rfl rfl (by first | decide | assumption) ?_
                                      first
                                        | (rw [stS_p hc112 hRR, rd1_f rfl]
                                           exact ⟨rfl, hq3, rdF_t (rdF_i (Or.inl rfl)) hF3, fun z => by cases z⟩)
                                        | (rw [stS_p hc112 hRR, rd1_cf (by decide) (by decide) hc59]
                                           exact ⟨rfl, hq3, rdF_t (rdF_i (Or.inl rfl)) hF3, fun z => by cases z⟩)
                                        | (rw [stS_p hc112 hRR, rd1_ct (it := 59) (by decide) (by decide) hc59]
                                           refine ⟨rfl, gI_self _ _ _ _, rdF_t (rdF_i (Or.inl rfl)) (rdF_t hF3 (rdF_i (Or.inl rfl))), fun _ => ⟨?_, ?_, ?_⟩⟩
                                           · exact fun _ i hi => (gI_ne (Or.inl (by decide))).trans (htd3 rfl i hi)
                                           · exact fun z => absurd (hc112.symm.trans z) (by decide)
                                           · exact fun z => absurd (hc112.symm.trans z) (by decide))
                                        | (rw [stS_r hc114 hRR, rd1_f rfl]
                                           exact ⟨rfl, hq3, rdF_t (rdF_i (Or.inl rfl)) hF3, fun z => by cases z⟩)
                                        | (rw [stS_r hc114 hRR, rd1_cf (by decide) (by decide) hc59]
                                           exact ⟨rfl, hq3, rdF_t (rdF_i (Or.inl rfl)) hF3, fun z => by cases z⟩)
                                        | (rw [stS_r hc114 hRR, rd1_ct (it := 59) (by decide) (by decide) hc59]
                                           refine ⟨rfl, gI_self _ _ _ _, rdF_t (rdF_i (Or.inl rfl)) (rdF_t hF3 (rdF_i (Or.inl rfl))), fun _ => ⟨?_, ?_, ?_⟩⟩
                                           · exact fun z => absurd (hc114.symm.trans z) (by decide)
                                           · exact fun _ i hi => (gI_ne (Or.inl (by decide))).trans (htd3 rfl i hi)
                                           · exact fun z => absurd (hc114.symm.trans z) (by decide))
                                        | (rw [stS_f hc102 hRR, rd1_f rfl]
                                           exact ⟨rfl, hq3, rdF_t (rdF_i (Or.inl rfl)) hF3, fun z => by cases z⟩)
                                        | (rw [stS_f hc102 hRR, rd1_cf (by decide) (by decide) hc59]
                                           exact ⟨rfl, hq3, rdF_t (rdF_i (Or.inl rfl)) hF3, fun z => by cases z⟩)
                                        | (rw [stS_f hc102 hRR, rd1_ct (it := 59) (by decide) (by decide) hc59]
                                           refine ⟨rfl, gI_self _ _ _ _, rdF_t (rdF_i (Or.inl rfl)) (rdF_t hF3 (rdF_i (Or.inl rfl))), fun _ => ⟨?_, ?_, ?_⟩⟩
                                           · exact fun z => absurd (hc102.symm.trans z) (by decide)
                                           · exact fun z => absurd (hc102.symm.trans z) (by decide)
                                           · exact fun _ => (gI_ne (Or.inl (by decide))).trans (htd3 rfl 0 (by omega)))
                                        | (rw [stS_n hc112 hc114 hc102]; exact ⟨rfl, hp, rdF_r, fun z => by cases z⟩))
                               · first
                                   | (exfalso; first | exact absurd h57 (by decide) | exact h57 (by decide) | (simp at h57; done))
                                   | (refine xG_run 2 rfl (by repeat' (first | exact trivial | assumption | exact xob_b rfl | exact xal_b rfl | (apply And.intro) | decide)) ?_
                                      try dsimp only [xsto1, xsto2, xkill, xget, xset, gd_0, gd_s]
                                      refine r2_z rfl rfl (by first | decide | assumption) ?_
                                      first
                                        | (rw [stS_p hc112 hRR, rd1_f rfl]
                                           exact ⟨rfl, hq3, rdF_t (rdF_i (Or.inl rfl)) hF3, fun z => by cases z⟩)
                                        | (rw [stS_p hc112 hRR, rd1_cf (by decide) (by decide) hc59]
                                           exact ⟨rfl, hq3, rdF_t (rdF_i (Or.inl rfl)) hF3, fun z => by cases z⟩)
                                        | (rw [stS_p hc112 hRR, rd1_ct (it := 59) (by decide) (by decide) hc59]
                                           refine ⟨rfl, gI_self _ _ _ _, rdF_t (rdF_i (Or.inl rfl)) (rdF_t hF3 (rdF_i (Or.inl rfl))), fun _ => ⟨?_, ?_, ?_⟩⟩
                                           · exact fun _ i hi => (gI_ne (Or.inl (by decide))).trans (htd3 rfl i hi)
                                           · exact fun z => absurd (hc112.symm.trans z) (by decide)
                                           · exact fun z => absurd (hc112.symm.trans z) (by decide))
                                        | (rw [stS_r hc114 hRR, rd1_f rfl]
                                           exact ⟨rfl, hq3, rdF_t (rdF_i (Or.inl rfl)) hF3, fun z => by cases z⟩)
                                        | (rw [stS_r hc114 hRR, rd1_cf (by decide) (by decide) hc59]
                                           exact ⟨rfl, hq3, rdF_t (rdF_i (Or.inl rfl)) hF3, fun z => by cases z⟩)
                                        | (rw [stS_r hc114 hRR, rd1_ct (it := 59) (by decide) (by decide) hc59]
                                           refine ⟨rfl, gI_self _ _ _ _, rdF_t (rdF_i (Or.inl rfl)) (rdF_t hF3 (rdF_i (Or.inl rfl))), fun _ => ⟨?_, ?_, ?_⟩⟩
                                           · exact fun z => absurd (hc114.symm.trans z) (by decide)
                                           · exact fun _ i hi => (gI_ne (Or.inl (by decide))).trans (htd3 rfl i hi)
                                           · exact fun z => absurd (hc114.symm.trans z) (by decide))
                                        | (rw [stS_f hc102 hRR, rd1_f rfl]
                                           exact ⟨rfl, hq3, rdF_t (rdF_i (Or.inl rfl)) hF3, fun z => by cases z⟩)
                                        | (rw [stS_f hc102 hRR, rd1_cf (by decide) (by decide) hc59]
                                           exact ⟨rfl, hq3, rdF_t (rdF_i (Or.inl rfl)) hF3, fun z => by cases z⟩)
                                        | (rw [stS_f hc102 hRR, rd1_ct (it := 59) (by decide) (by decide) hc59]
                                           refine ⟨rfl, gI_self _ _ _ _, rdF_t (rdF_i (Or.inl rfl)) (rdF_t hF3 (rdF_i (Or.inl rfl))), fun _ => ⟨?_, ?_, ?_⟩⟩
                                           · exact fun z => absurd (hc102.symm.trans z) (by decide)
                                           · exact fun z => absurd (hc102.symm.trans z) (by decide)
                                           · exact fun _ => (gI_ne (Or.inl (by decide))).trans (htd3 rfl 0 (by omega)))
                                        | (rw [stS_n hc112 hc114 hc102]; exact ⟨rfl, hp, rdF_r, fun z => by cases z⟩)))))
    · first
        | (exfalso; first | exact absurd h6 (by decide) | exact h6 (by decide) | (simp at h6; done))
        | (refine xG_run 3 rfl (by repeat' (first | exact trivial | assumption | exact xob_b rfl | exact xal_b rfl | (apply And.intro) | decide)) ?_
           try dsimp only [xsto1, xsto2, xkill, xget, xset, gd_0, gd_s]
           refine xG_c2 2 rfl (by repeat' (first | exact trivial | assumption | exact xob_b rfl | exact xal_b rfl | (apply And.intro) | decide)) rfl rfl (by decide) cw_X12_readsNumbers (d' := d - 1) (e_readsNumbersU (m := 5) (p := p + 1) (sv := 0) hTa (gI_self _ _ _ _) (by omega) (by omega) (by omega)) (by omega) ?_
           rintro v M3 ⟨rfl, hq3, hF3, htd3⟩
           rcases hRR : rdS T n (itK false 5) (true, p + 1, [], 0) with ⟨ok, q, l, sx⟩
           try rw [hRR] at hq3 htd3
           dsimp only at hq3 htd3
           cases ok
           · dsimp only [Option.toList, List.cons_append, List.nil_append]
             refine xG_br rfl (fun h15 => ?_) (fun h15 => ?_)
             · first
                 | (exfalso; first | exact absurd h15 (by decide) | exact h15 (by decide) | (simp at h15; done))
                 | (refine xG_run 1 rfl (by repeat' (first | exact trivial | assumption | exact xob_b rfl | exact xal_b rfl | (apply And.intro) | decide)) ?_
                    try dsimp only [xsto1, xsto2, xkill, xget, xset, gd_0, gd_s]
                    refine r2_z rfl rfl (by first | decide | assumption) ?_
                    first
                      | (rw [stS_p hc112 hRR, rd1_f rfl]
                         exact ⟨rfl, hq3, rdF_t (rdF_i (Or.inl rfl)) hF3, fun z => by cases z⟩)
                      | (rw [stS_p hc112 hRR, rd1_cf (by decide) (by decide) hc59]
                         exact ⟨rfl, hq3, rdF_t (rdF_i (Or.inl rfl)) hF3, fun z => by cases z⟩)
                      | (rw [stS_p hc112 hRR, rd1_ct (it := 59) (by decide) (by decide) hc59]
                         refine ⟨rfl, gI_self _ _ _ _, rdF_t (rdF_i (Or.inl rfl)) (rdF_t hF3 (rdF_i (Or.inl rfl))), fun _ => ⟨?_, ?_, ?_⟩⟩
                         · exact fun _ i hi => (gI_ne (Or.inl (by decide))).trans (htd3 rfl i hi)
                         · exact fun z => absurd (hc112.symm.trans z) (by decide)
                         · exact fun z => absurd (hc112.symm.trans z) (by decide))
                      | (rw [stS_r hc114 hRR, rd1_f rfl]
                         exact ⟨rfl, hq3, rdF_t (rdF_i (Or.inl rfl)) hF3, fun z => by cases z⟩)
                      | (rw [stS_r hc114 hRR, rd1_cf (by decide) (by decide) hc59]
                         exact ⟨rfl, hq3, rdF_t (rdF_i (Or.inl rfl)) hF3, fun z => by cases z⟩)
                      | (rw [stS_r hc114 hRR, rd1_ct (it := 59) (by decide) (by decide) hc59]
                         refine ⟨rfl, gI_self _ _ _ _, rdF_t (rdF_i (Or.inl rfl)) (rdF_t hF3 (rdF_i (Or.inl rfl))), fun _ => ⟨?_, ?_, ?_⟩⟩
                         · exact fun z => absurd (hc114.symm.trans z) (by decide)
                         · exact fun _ i hi => (gI_ne (Or.inl (by decide))).trans (htd3 rfl i hi)
                         · exact fun z => absurd (hc114.symm.trans z) (by decide))
                      | (rw [stS_f hc102 hRR, rd1_f rfl]
                         exact ⟨rfl, hq3, rdF_t (rdF_i (Or.inl rfl)) hF3, fun z => by cases z⟩)
                      | (rw [stS_f hc102 hRR, rd1_cf (by decide) (by decide) hc59]
                         exact ⟨rfl, hq3, rdF_t (rdF_i (Or.inl rfl)) hF3, fun z => by cases z⟩)
                      | (rw [stS_f hc102 hRR, rd1_ct (it := 59) (by decide) (by decide) hc59]
                         refine ⟨rfl, gI_self _ _ _ _, rdF_t (rdF_i (Or.inl rfl)) (rdF_t hF3 (rdF_i (Or.inl rfl))), fun _ => ⟨?_, ?_, ?_⟩⟩
                         · exact fun z => absurd (hc102.symm.trans z) (by decide)
                         · exact fun z => absurd (hc102.symm.trans z) (by decide)
                         · exact fun _ => (gI_ne (Or.inl (by decide))).trans (htd3 rfl 0 (by omega)))
                      | (rw [stS_n hc112 hc114 hc102]; exact ⟨rfl, hp, rdF_r, fun z => by cases z⟩))
             · first
                 | (exfalso; first | exact absurd h15 (by decide) | exact h15 (by decide) | (simp at h15; done))
                 | (refine xG_run 2 rfl (by repeat' (first | exact trivial | assumption | exact xob_b rfl | exact xal_b rfl | (apply And.intro) | decide)) ?_
                    try dsimp only [xsto1, xsto2, xkill, xget, xset, gd_0, gd_s]
                    refine xG_c2 1 rfl (by repeat' (first | exact trivial | assumption | exact xob_b rfl | exact xal_b rfl | (apply And.intro) | decide)) rfl rfl (by decide) cw_X12_takes (d' := d - 1) (e_takes (p := q) (c := 59) hT3 hq3 (by omega) (by omega)) (by omega) ?_
                    rintro v M4 (⟨hc59, rfl, rfl⟩ | ⟨hc59, rfl, rfl⟩)
                    · dsimp only [Option.toList, List.cons_append, List.nil_append]
                      refine xG_br rfl (fun h24 => ?_) (fun h24 => ?_)
                      · first
                          | (exfalso; first | exact absurd h24 (by decide) | exact h24 (by decide) | (simp at h24; done))
                          | (refine xG_run 1 rfl (by repeat' (first | exact trivial | assumption | exact xob_b rfl | exact xal_b rfl | (apply And.intro) | decide)) ?_
                             try dsimp only [xsto1, xsto2, xkill, xget, xset, gd_0, gd_s]
                             refine r2_z rfl rfl (by first | decide | assumption) ?_
                             first
                               | (rw [stS_p hc112 hRR, rd1_f rfl]
                                  exact ⟨rfl, hq3, rdF_t (rdF_i (Or.inl rfl)) hF3, fun z => by cases z⟩)
                               | (rw [stS_p hc112 hRR, rd1_cf (by decide) (by decide) hc59]
                                  exact ⟨rfl, hq3, rdF_t (rdF_i (Or.inl rfl)) hF3, fun z => by cases z⟩)
                               | (rw [stS_p hc112 hRR, rd1_ct (it := 59) (by decide) (by decide) hc59]
                                  refine ⟨rfl, gI_self _ _ _ _, rdF_t (rdF_i (Or.inl rfl)) (rdF_t hF3 (rdF_i (Or.inl rfl))), fun _ => ⟨?_, ?_, ?_⟩⟩
                                  · exact fun _ i hi => (gI_ne (Or.inl (by decide))).trans (htd3 rfl i hi)
                                  · exact fun z => absurd (hc112.symm.trans z) (by decide)
                                  · exact fun z => absurd (hc112.symm.trans z) (by decide))
                               | (rw [stS_r hc114 hRR, rd1_f rfl]
                                  exact ⟨rfl, hq3, rdF_t (rdF_i (Or.inl rfl)) hF3, fun z => by cases z⟩)
                               | (rw [stS_r hc114 hRR, rd1_cf (by decide) (by decide) hc59]
                                  exact ⟨rfl, hq3, rdF_t (rdF_i (Or.inl rfl)) hF3, fun z => by cases z⟩)
                               | (rw [stS_r hc114 hRR, rd1_ct (it := 59) (by decide) (by decide) hc59]
                                  refine ⟨rfl, gI_self _ _ _ _, rdF_t (rdF_i (Or.inl rfl)) (rdF_t hF3 (rdF_i (Or.inl rfl))), fun _ => ⟨?_, ?_, ?_⟩⟩
                                  · exact fun z => absurd (hc114.symm.trans z) (by decide)
                                  · exact fun _ i hi => (gI_ne (Or.inl (by decide))).trans (htd3 rfl i hi)
                                  · exact fun z => absurd (hc114.symm.trans z) (by decide))
                               | (rw [stS_f hc102 hRR, rd1_f rfl]
                                  exact ⟨rfl, hq3, rdF_t (rdF_i (Or.inl rfl)) hF3, fun z => by cases z⟩)
                               | (rw [stS_f hc102 hRR, rd1_cf (by decide) (by decide) hc59]
                                  exact ⟨rfl, hq3, rdF_t (rdF_i (Or.inl rfl)) hF3, fun z => by cases z⟩)
                               | (rw [stS_f hc102 hRR, rd1_ct (it := 59) (by decide) (by decide) hc59]
                                  refine ⟨rfl, gI_self _ _ _ _, rdF_t (rdF_i (Or.inl rfl)) (rdF_t hF3 (rdF_i (Or.inl rfl))), fun _ => ⟨?_, ?_, ?_⟩⟩
                                  · exact fun z => absurd (hc102.symm.trans z) (by decide)
                                  · exact fun z => absurd (hc102.symm.trans z) (by decide)
                                  · exact fun _ => (gI_ne (Or.inl (by decide))).trans (htd3 rfl 0 (by omega)))
                               | (rw [stS_n hc112 hc114 hc102]; exact ⟨rfl, hp, rdF_r, fun z => by cases z⟩))
                      · first
                          | (exfalso; first | exact absurd h24 (by decide) | exact h24 (by decide) | (simp at h24; done))
                          | (refine xG_run 2 rfl (by repeat' (first | exact trivial | assumption | exact xob_b rfl | exact xal_b rfl | (apply And.intro) | decide)) ?_
                             try dsimp only [xsto1, xsto2, xkill, xget, xset, gd_0, gd_s]
                             refine r2_z rfl rfl (by first | decide | assumption) ?_
                             first
                               | (rw [stS_p hc112 hRR, rd1_f rfl]
                                  exact ⟨rfl, hq3, rdF_t (rdF_i (Or.inl rfl)) hF3, fun z => by cases z⟩)
                               | (rw [stS_p hc112 hRR, rd1_cf (by decide) (by decide) hc59]
                                  exact ⟨rfl, hq3, rdF_t (rdF_i (Or.inl rfl)) hF3, fun z => by cases z⟩)
                               | (rw [stS_p hc112 hRR, rd1_ct (it := 59) (by decide) (by decide) hc59]
                                  refine ⟨rfl, gI_self _ _ _ _, rdF_t (rdF_i (Or.inl rfl)) (rdF_t hF3 (rdF_i (Or.inl rfl))), fun _ => ⟨?_, ?_, ?_⟩⟩
                                  · exact fun _ i hi => (gI_ne (Or.inl (by decide))).trans (htd3 rfl i hi)
                                  · exact fun z => absurd (hc112.symm.trans z) (by decide)
                                  · exact fun z => absurd (hc112.symm.trans z) (by decide))
                               | (rw [stS_r hc114 hRR, rd1_f rfl]
                                  exact ⟨rfl, hq3, rdF_t (rdF_i (Or.inl rfl)) hF3, fun z => by cases z⟩)
                               | (rw [stS_r hc114 hRR, rd1_cf (by decide) (by decide) hc59]
                                  exact ⟨rfl, hq3, rdF_t (rdF_i (Or.inl rfl)) hF3, fun z => by cases z⟩)
                               | (rw [stS_r hc114 hRR, rd1_ct (it := 59) (by decide) (by decide) hc59]
                                  refine ⟨rfl, gI_self _ _ _ _, rdF_t (rdF_i (Or.inl rfl)) (rdF_t hF3 (rdF_i (Or.inl rfl))), fun _ => ⟨?_, ?_, ?_⟩⟩
                                  · exact fun z => absurd (hc114.symm.trans z) (by decide)
                                  · exact fun _ i hi => (gI_ne (Or.inl (by decide))).trans (htd3 rfl i hi)
                                  · exact fun z => absurd (hc114.symm.trans z) (by decide))
                               | (rw [stS_f hc102 hRR, rd1_f rfl]
                                  exact ⟨rfl, hq3, rdF_t (rdF_i (Or.inl rfl)) hF3, fun z => by cases z⟩)
                               | (rw [stS_f hc102 hRR, rd1_cf (by decide) (by decide) hc59]
                                  exact ⟨rfl, hq3, rdF_t (rdF_i (Or.inl rfl)) hF3, fun z => by cases z⟩)
                               | (rw [stS_f hc102 hRR, rd1_ct (it := 59) (by decide) (by decide) hc59]
                                  refine ⟨rfl, gI_self _ _ _ _, rdF_t (rdF_i (Or.inl rfl)) (rdF_t hF3 (rdF_i (Or.inl rfl))), fun _ => ⟨?_, ?_, ?_⟩⟩
                                  · exact fun z => absurd (hc102.symm.trans z) (by decide)
                                  · exact fun z => absurd (hc102.symm.trans z) (by decide)
                                  · exact fun _ => (gI_ne (Or.inl (by decide))).trans (htd3 rfl 0 (by omega)))
                               | (rw [stS_n hc112 hc114 hc102]; exact ⟨rfl, hp, rdF_r, fun z => by cases z⟩))
                    · dsimp only [Option.toList, List.cons_append, List.nil_append]
                      refine xG_br rfl (fun h24 => ?_) (fun h24 => ?_)
                      · first
                          | (exfalso; first | exact absurd h24 (by decide) | exact h24 (by decide) | (simp at h24; done))
                          | (refine xG_run 1 rfl (by repeat' (first | exact trivial | assumption | exact xob_b rfl | exact xal_b rfl | (apply And.intro) | decide)) ?_
                             try dsimp only [xsto1, xsto2, xkill, xget, xset, gd_0, gd_s]
                             refine r2_z rfl rfl (by first | decide | assumption) ?_
                             first
                               | (rw [stS_p hc112 hRR, rd1_f rfl]
                                  exact ⟨rfl, hq3, rdF_t (rdF_i (Or.inl rfl)) hF3, fun z => by cases z⟩)
                               | (rw [stS_p hc112 hRR, rd1_cf (by decide) (by decide) hc59]
                                  exact ⟨rfl, hq3, rdF_t (rdF_i (Or.inl rfl)) hF3, fun z => by cases z⟩)
                               | (rw [stS_p hc112 hRR, rd1_ct (it := 59) (by decide) (by decide) hc59]
                                  refine ⟨rfl, gI_self _ _ _ _, rdF_t (rdF_i (Or.inl rfl)) (rdF_t hF3 (rdF_i (Or.inl rfl))), fun _ => ⟨?_, ?_, ?_⟩⟩
                                  · exact fun _ i hi => (gI_ne (Or.inl (by decide))).trans (htd3 rfl i hi)
                                  · exact fun z => absurd (hc112.symm.trans z) (by decide)
                                  · exact fun z => absurd (hc112.symm.trans z) (by decide))
                               | (rw [stS_r hc114 hRR, rd1_f rfl]
                                  exact ⟨rfl, hq3, rdF_t (rdF_i (Or.inl rfl)) hF3, fun z => by cases z⟩)
                               | (rw [stS_r hc114 hRR, rd1_cf (by decide) (by decide) hc59]
                                  exact ⟨rfl, hq3, rdF_t (rdF_i (Or.inl rfl)) hF3, fun z => by cases z⟩)
                               | (rw [stS_r hc114 hRR, rd1_ct (it := 59) (by decide) (by decide) hc59]
                                  refine ⟨rfl, gI_self _ _ _ _, rdF_t (rdF_i (Or.inl rfl)) (rdF_t hF3 (rdF_i (Or.inl rfl))), fun _ => ⟨?_, ?_, ?_⟩⟩
                                  · exact fun z => absurd (hc114.symm.trans z) (by decide)
                                  · exact fun _ i hi => (gI_ne (Or.inl (by decide))).trans (htd3 rfl i hi)
                                  · exact fun z => absurd (hc114.symm.trans z) (by decide))
                               | (rw [stS_f hc102 hRR, rd1_f rfl]
                                  exact ⟨rfl, hq3, rdF_t (rdF_i (Or.inl rfl)) hF3, fun z => by cases z⟩)
                               | (rw [stS_f hc102 hRR, rd1_cf (by decide) (by decide) hc59]
                                  exact ⟨rfl, hq3, rdF_t (rdF_i (Or.inl rfl)) hF3, fun z => by cases z⟩)
                               | (rw [stS_f hc102 hRR, rd1_ct (it := 59) (by decide) (by decide) hc59]
                                  refine ⟨rfl, gI_self _ _ _ _, rdF_t (rdF_i (Or.inl rfl)) (rdF_t hF3 (rdF_i (Or.inl rfl))), fun _ => ⟨?_, ?_, ?_⟩⟩
                                  · exact fun z => absurd (hc102.symm.trans z) (by decide)
                                  · exact fun z => absurd (hc102.symm.trans z) (by decide)
                                  · exact fun _ => (gI_ne (Or.inl (by decide))).trans (htd3 rfl 0 (by omega)))
                               | (rw [stS_n hc112 hc114 hc102]; exact ⟨rfl, hp, rdF_r, fun z => by cases z⟩))
                      · first
                          | (exfalso; first | exact absurd h24 (by decide) | exact h24 (by decide) | (simp at h24; done))
                          | (refine xG_run 2 rfl (by repeat' (first | exact trivial | assumption | exact xob_b rfl | exact xal_b rfl | (apply And.intro) | decide)) ?_
                             try dsimp only [xsto1, xsto2, xkill, xget, xset, gd_0, gd_s]
                             refine r2_z rfl rfl (by first | decide | assumption) ?_
                             first
                               | (rw [stS_p hc112 hRR, rd1_f rfl]
                                  exact ⟨rfl, hq3, rdF_t (rdF_i (Or.inl rfl)) hF3, fun z => by cases z⟩)
                               | (rw [stS_p hc112 hRR, rd1_cf (by decide) (by decide) hc59]
                                  exact ⟨rfl, hq3, rdF_t (rdF_i (Or.inl rfl)) hF3, fun z => by cases z⟩)
                               | (rw [stS_p hc112 hRR, rd1_ct (it := 59) (by decide) (by decide) hc59]
                                  refine ⟨rfl, gI_self _ _ _ _, rdF_t (rdF_i (Or.inl rfl)) (rdF_t hF3 (rdF_i (Or.inl rfl))), fun _ => ⟨?_, ?_, ?_⟩⟩
                                  · exact fun _ i hi => (gI_ne (Or.inl (by decide))).trans (htd3 rfl i hi)
                                  · exact fun z => absurd (hc112.symm.trans z) (by decide)
                                  · exact fun z => absurd (hc112.symm.trans z) (by decide))
                               | (rw [stS_r hc114 hRR, rd1_f rfl]
                                  exact ⟨rfl, hq3, rdF_t (rdF_i (Or.inl rfl)) hF3, fun z => by cases z⟩)
                               | (rw [stS_r hc114 hRR, rd1_cf (by decide) (by decide) hc59]
                                  exact ⟨rfl, hq3, rdF_t (rdF_i (Or.inl rfl)) hF3, fun z => by cases z⟩)
                               | (rw [stS_r hc114 hRR, rd1_ct (it := 59) (by decide) (by decide) hc59]
                                  refine ⟨rfl, gI_self _ _ _ _, rdF_t (rdF_i (Or.inl rfl)) (rdF_t hF3 (rdF_i (Or.inl rfl))), fun _ => ⟨?_, ?_, ?_⟩⟩
                                  · exact fun z => absurd (hc114.symm.trans z) (by decide)
                                  · exact fun _ i hi => (gI_ne (Or.inl (by decide))).trans (htd3 rfl i hi)
                                  · exact fun z => absurd (hc114.symm.trans z) (by decide))
                               | (rw [stS_f hc102 hRR, rd1_f rfl]
                                  exact ⟨rfl, hq3, rdF_t (rdF_i (Or.inl rfl)) hF3, fun z => by cases z⟩)
                               | (rw [stS_f hc102 hRR, rd1_cf (by decide) (by decide) hc59]
                                  exact ⟨rfl, hq3, rdF_t (rdF_i (Or.inl rfl)) hF3, fun z => by cases z⟩)
                               | (rw [stS_f hc102 hRR, rd1_ct (it := 59) (by decide) (by decide) hc59]
                                  refine ⟨rfl, gI_self _ _ _ _, rdF_t (rdF_i (Or.inl rfl)) (rdF_t hF3 (rdF_i (Or.inl rfl))), fun _ => ⟨?_, ?_, ?_⟩⟩
                                  · exact fun z => absurd (hc102.symm.trans z) (by decide)
                                  · exact fun z => absurd (hc102.symm.trans z) (by decide)
                                  · exact fun _ => (gI_ne (Or.inl (by decide))).trans (htd3 rfl 0 (by omega)))
                               | (rw [stS_n hc112 hc114 hc102]; exact ⟨rfl, hp, rdF_r, fun z => by cases z⟩)))
           · dsimp only [Option.toList, List.cons_append, List.nil_append]
             have hT3 := rT_F hTa hF3
             have hq9 : q ≤ n := by
               have e := rdS_le (T := T) (n := n) (l := itK false 5) (s := (true, p + 1, [], 0)) (by show p + 1 ≤ n; omega) (itK_le 5)
               rw [hRR] at e
               exact e
             refine xG_br rfl (fun h15 => ?_) (fun h15 => ?_)
             · first
                 | (exfalso; first | exact absurd h15 (by decide) | exact h15 (by decide) | (simp at h15; done))
                 | (refine xG_run 1 rfl (by repeat' (first | exact trivial | assumption | exact xob_b rfl | exact xal_b rfl | (apply And.intro) | decide)) ?_
                    try dsimp only [xsto1, xsto2, xkill, xget, xset, gd_0, gd_s]
                    refine r2_z rfl rfl (by first | decide | assumption) ?_
                    first
                      | (rw [stS_p hc112 hRR, rd1_f rfl]
                         exact ⟨rfl, hq3, rdF_t (rdF_i (Or.inl rfl)) hF3, fun z => by cases z⟩)
                      | (rw [stS_p hc112 hRR, rd1_cf (by decide) (by decide) hc59]
                         exact ⟨rfl, hq3, rdF_t (rdF_i (Or.inl rfl)) hF3, fun z => by cases z⟩)
                      | (rw [stS_p hc112 hRR, rd1_ct (it := 59) (by decide) (by decide) hc59]
                         refine ⟨rfl, gI_self _ _ _ _, rdF_t (rdF_i (Or.inl rfl)) (rdF_t hF3 (rdF_i (Or.inl rfl))), fun _ => ⟨?_, ?_, ?_⟩⟩
                         · exact fun _ i hi => (gI_ne (Or.inl (by decide))).trans (htd3 rfl i hi)
                         · exact fun z => absurd (hc112.symm.trans z) (by decide)
                         · exact fun z => absurd (hc112.symm.trans z) (by decide))
                      | (rw [stS_r hc114 hRR, rd1_f rfl]
                         exact ⟨rfl, hq3, rdF_t (rdF_i (Or.inl rfl)) hF3, fun z => by cases z⟩)
                      | (rw [stS_r hc114 hRR, rd1_cf (by decide) (by decide) hc59]
                         exact ⟨rfl, hq3, rdF_t (rdF_i (Or.inl rfl)) hF3, fun z => by cases z⟩)
                      | (rw [stS_r hc114 hRR, rd1_ct (it := 59) (by decide) (by decide) hc59]
                         refine ⟨rfl, gI_self _ _ _ _, rdF_t (rdF_i (Or.inl rfl)) (rdF_t hF3 (rdF_i (Or.inl rfl))), fun _ => ⟨?_, ?_, ?_⟩⟩
                         · exact fun z => absurd (hc114.symm.trans z) (by decide)
                         · exact fun _ i hi => (gI_ne (Or.inl (by decide))).trans (htd3 rfl i hi)
                         · exact fun z => absurd (hc114.symm.trans z) (by decide))
                      | (rw [stS_f hc102 hRR, rd1_f rfl]
                         exact ⟨rfl, hq3, rdF_t (rdF_i (Or.inl rfl)) hF3, fun z => by cases z⟩)
                      | (rw [stS_f hc102 hRR, rd1_cf (by decide) (by decide) hc59]
                         exact ⟨rfl, hq3, rdF_t (rdF_i (Or.inl rfl)) hF3, fun z => by cases z⟩)
                      | (rw [stS_f hc102 hRR, rd1_ct (it := 59) (by decide) (by decide) hc59]
                         refine ⟨rfl, gI_self _ _ _ _, rdF_t (rdF_i (Or.inl rfl)) (rdF_t hF3 (rdF_i (Or.inl rfl))), fun _ => ⟨?_, ?_, ?_⟩⟩
                         · exact fun z => absurd (hc102.symm.trans z) (by decide)
                         · exact fun z => absurd (hc102.symm.trans z) (by decide)
                         · exact fun _ => (gI_ne (Or.inl (by decide))).trans (htd3 rfl 0 (by omega)))
                      | (rw [stS_n hc112 hc114 hc102]; exact ⟨rfl, hp, rdF_r, fun z => by cases z⟩))
             · first
                 | (exfalso; first | exact absurd h15 (by decide) | exact h15 (by decide) | (simp at h15; done))
                 | (refine xG_run 2 rfl (by repeat' (first | exact trivial | assumption | exact xob_b rfl | exact xal_b rfl | (apply And.intro) | decide)) ?_
                    try dsimp only [xsto1, xsto2, xkill, xget, xset, gd_0, gd_s]
                    refine xG_c2 1 rfl (by repeat' (first | exact trivial | assumption | exact xob_b rfl | exact xal_b rfl | (apply And.intro) | decide)) rfl rfl (by decide) cw_X12_takes (d' := d - 1) (e_takes (p := q) (c := 59) hT3 hq3 (by omega) (by omega)) (by omega) ?_
                    rintro v M4 (⟨hc59, rfl, rfl⟩ | ⟨hc59, rfl, rfl⟩)
                    · dsimp only [Option.toList, List.cons_append, List.nil_append]
                      refine xG_br rfl (fun h24 => ?_) (fun h24 => ?_)
                      · first
                          | (exfalso; first | exact absurd h24 (by decide) | exact h24 (by decide) | (simp at h24; done))
                          | (refine xG_run 1 rfl (by repeat' (first | exact trivial | assumption | exact xob_b rfl | exact xal_b rfl | (apply And.intro) | decide)) ?_
                             try dsimp only [xsto1, xsto2, xkill, xget, xset, gd_0, gd_s]
                             refine r2_z rfl rfl (by first | decide | assumption) ?_
                             first
                               | (rw [stS_p hc112 hRR, rd1_f rfl]
                                  exact ⟨rfl, hq3, rdF_t (rdF_i (Or.inl rfl)) hF3, fun z => by cases z⟩)
                               | (rw [stS_p hc112 hRR, rd1_cf (by decide) (by decide) hc59]
                                  exact ⟨rfl, hq3, rdF_t (rdF_i (Or.inl rfl)) hF3, fun z => by cases z⟩)
                               | (rw [stS_p hc112 hRR, rd1_ct (it := 59) (by decide) (by decide) hc59]
                                  refine ⟨rfl, gI_self _ _ _ _, rdF_t (rdF_i (Or.inl rfl)) (rdF_t hF3 (rdF_i (Or.inl rfl))), fun _ => ⟨?_, ?_, ?_⟩⟩
                                  · exact fun _ i hi => (gI_ne (Or.inl (by decide))).trans (htd3 rfl i hi)
                                  · exact fun z => absurd (hc112.symm.trans z) (by decide)
                                  · exact fun z => absurd (hc112.symm.trans z) (by decide))
                               | (rw [stS_r hc114 hRR, rd1_f rfl]
                                  exact ⟨rfl, hq3, rdF_t (rdF_i (Or.inl rfl)) hF3, fun z => by cases z⟩)
                               | (rw [stS_r hc114 hRR, rd1_cf (by decide) (by decide) hc59]
                                  exact ⟨rfl, hq3, rdF_t (rdF_i (Or.inl rfl)) hF3, fun z => by cases z⟩)
                               | (rw [stS_r hc114 hRR, rd1_ct (it := 59) (by decide) (by decide) hc59]
                                  refine ⟨rfl, gI_self _ _ _ _, rdF_t (rdF_i (Or.inl rfl)) (rdF_t hF3 (rdF_i (Or.inl rfl))), fun _ => ⟨?_, ?_, ?_⟩⟩
                                  · exact fun z => absurd (hc114.symm.trans z) (by decide)
                                  · exact fun _ i hi => (gI_ne (Or.inl (by decide))).trans (htd3 rfl i hi)
                                  · exact fun z => absurd (hc114.symm.trans z) (by decide))
                               | (rw [stS_f hc102 hRR, rd1_f rfl]
                                  exact ⟨rfl, hq3, rdF_t (rdF_i (Or.inl rfl)) hF3, fun z => by cases z⟩)
                               | (rw [stS_f hc102 hRR, rd1_cf (by decide) (by decide) hc59]
                                  exact ⟨rfl, hq3, rdF_t (rdF_i (Or.inl rfl)) hF3, fun z => by cases z⟩)
                               | (rw [stS_f hc102 hRR, rd1_ct (it := 59) (by decide) (by decide) hc59]
                                  refine ⟨rfl, gI_self _ _ _ _, rdF_t (rdF_i (Or.inl rfl)) (rdF_t hF3 (rdF_i (Or.inl rfl))), fun _ => ⟨?_, ?_, ?_⟩⟩
                                  · exact fun z => absurd (hc102.symm.trans z) (by decide)
                                  · exact fun z => absurd (hc102.symm.trans z) (by decide)
                                  · exact fun _ => (gI_ne (Or.inl (by decide))).trans (htd3 rfl 0 (by omega)))
                               | (rw [stS_n hc112 hc114 hc102]; exact ⟨rfl, hp, rdF_r, fun z => by cases z⟩))
                      · first
                          | (exfalso; first | exact absurd h24 (by decide) | exact h24 (by decide) | (simp at h24; done))
                          | (refine xG_run 2 rfl (by repeat' (first | exact trivial | assumption | exact xob_b rfl | exact xal_b rfl | (apply And.intro) | decide)) ?_
                             try dsimp only [xsto1, xsto2, xkill, xget, xset, gd_0, gd_s]
                             refine r2_z rfl rfl (by first | decide | assumption) ?_
                             first
                               | (rw [stS_p hc112 hRR, rd1_f rfl]
                                  exact ⟨rfl, hq3, rdF_t (rdF_i (Or.inl rfl)) hF3, fun z => by cases z⟩)
                               | (rw [stS_p hc112 hRR, rd1_cf (by decide) (by decide) hc59]
                                  exact ⟨rfl, hq3, rdF_t (rdF_i (Or.inl rfl)) hF3, fun z => by cases z⟩)
                               | (rw [stS_p hc112 hRR, rd1_ct (it := 59) (by decide) (by decide) hc59]
                                  refine ⟨rfl, gI_self _ _ _ _, rdF_t (rdF_i (Or.inl rfl)) (rdF_t hF3 (rdF_i (Or.inl rfl))), fun _ => ⟨?_, ?_, ?_⟩⟩
                                  · exact fun _ i hi => (gI_ne (Or.inl (by decide))).trans (htd3 rfl i hi)
                                  · exact fun z => absurd (hc112.symm.trans z) (by decide)
                                  · exact fun z => absurd (hc112.symm.trans z) (by decide))
                               | (rw [stS_r hc114 hRR, rd1_f rfl]
                                  exact ⟨rfl, hq3, rdF_t (rdF_i (Or.inl rfl)) hF3, fun z => by cases z⟩)
                               | (rw [stS_r hc114 hRR, rd1_cf (by decide) (by decide) hc59]
                                  exact ⟨rfl, hq3, rdF_t (rdF_i (Or.inl rfl)) hF3, fun z => by cases z⟩)
                               | (rw [stS_r hc114 hRR, rd1_ct (it := 59) (by decide) (by decide) hc59]
                                  refine ⟨rfl, gI_self _ _ _ _, rdF_t (rdF_i (Or.inl rfl)) (rdF_t hF3 (rdF_i (Or.inl rfl))), fun _ => ⟨?_, ?_, ?_⟩⟩
                                  · exact fun z => absurd (hc114.symm.trans z) (by decide)
                                  · exact fun _ i hi => (gI_ne (Or.inl (by decide))).trans (htd3 rfl i hi)
                                  · exact fun z => absurd (hc114.symm.trans z) (by decide))
                               | (rw [stS_f hc102 hRR, rd1_f rfl]
                                  exact ⟨rfl, hq3, rdF_t (rdF_i (Or.inl rfl)) hF3, fun z => by cases z⟩)
                               | (rw [stS_f hc102 hRR, rd1_cf (by decide) (by decide) hc59]
                                  exact ⟨rfl, hq3, rdF_t (rdF_i (Or.inl rfl)) hF3, fun z => by cases z⟩)
                               | (rw [stS_f hc102 hRR, rd1_ct (it := 59) (by decide) (by decide) hc59]
                                  refine ⟨rfl, gI_self _ _ _ _, rdF_t (rdF_i (Or.inl rfl)) (rdF_t hF3 (rdF_i (Or.inl rfl))), fun _ => ⟨?_, ?_, ?_⟩⟩
                                  · exact fun z => absurd (hc102.symm.trans z) (by decide)
                                  · exact fun z => absurd (hc102.symm.trans z) (by decide)
                                  · exact fun _ => (gI_ne (Or.inl (by decide))).trans (htd3 rfl 0 (by omega)))
                               | (rw [stS_n hc112 hc114 hc102]; exact ⟨rfl, hp, rdF_r, fun z => by cases z⟩))
                    · dsimp only [Option.toList, List.cons_append, List.nil_append]
                      refine xG_br rfl (fun h24 => ?_) (fun h24 => ?_)
                      · first
                          | (exfalso; first | exact absurd h24 (by decide) | exact h24 (by decide) | (simp at h24; done))
                          | (refine xG_run 1 rfl (by repeat' (first | exact trivial | assumption | exact xob_b rfl | exact xal_b rfl | (apply And.intro) | decide)) ?_
                             try dsimp only [xsto1, xsto2, xkill, xget, xset, gd_0, gd_s]
                             refine r2_z rfl rfl (by first | decide | assumption) ?_
                             first
                               | (rw [stS_p hc112 hRR, rd1_f rfl]
                                  exact ⟨rfl, hq3, rdF_t (rdF_i (Or.inl rfl)) hF3, fun z => by cases z⟩)
                               | (rw [stS_p hc112 hRR, rd1_cf (by decide) (by decide) hc59]
                                  exact ⟨rfl, hq3, rdF_t (rdF_i (Or.inl rfl)) hF3, fun z => by cases z⟩)
                               | (rw [stS_p hc112 hRR, rd1_ct (it := 59) (by decide) (by decide) hc59]
                                  refine ⟨rfl, gI_self _ _ _ _, rdF_t (rdF_i (Or.inl rfl)) (rdF_t hF3 (rdF_i (Or.inl rfl))), fun _ => ⟨?_, ?_, ?_⟩⟩
                                  · exact fun _ i hi => (gI_ne (Or.inl (by decide))).trans (htd3 rfl i hi)
                                  · exact fun z => absurd (hc112.symm.trans z) (by decide)
                                  · exact fun z => absurd (hc112.symm.trans z) (by decide))
                               | (rw [stS_r hc114 hRR, rd1_f rfl]
                                  exact ⟨rfl, hq3, rdF_t (rdF_i (Or.inl rfl)) hF3, fun z => by cases z⟩)
                               | (rw [stS_r hc114 hRR, rd1_cf (by decide) (by decide) hc59]
                                  exact ⟨rfl, hq3, rdF_t (rdF_i (Or.inl rfl)) hF3, fun z => by cases z⟩)
                               | (rw [stS_r hc114 hRR, rd1_ct (it := 59) (by decide) (by decide) hc59]
                                  refine ⟨rfl, gI_self _ _ _ _, rdF_t (rdF_i (Or.inl rfl)) (rdF_t hF3 (rdF_i (Or.inl rfl))), fun _ => ⟨?_, ?_, ?_⟩⟩
                                  · exact fun z => absurd (hc114.symm.trans z) (by decide)
                                  · exact fun _ i hi => (gI_ne (Or.inl (by decide))).trans (htd3 rfl i hi)
                                  · exact fun z => absurd (hc114.symm.trans z) (by decide))
                               | (rw [stS_f hc102 hRR, rd1_f rfl]
                                  exact ⟨rfl, hq3, rdF_t (rdF_i (Or.inl rfl)) hF3, fun z => by cases z⟩)
                               | (rw [stS_f hc102 hRR, rd1_cf (by decide) (by decide) hc59]
                                  exact ⟨rfl, hq3, rdF_t (rdF_i (Or.inl rfl)) hF3, fun z => by cases z⟩)
                               | (rw [stS_f hc102 hRR, rd1_ct (it := 59) (by decide) (by decide) hc59]
                                  refine ⟨rfl, gI_self _ _ _ _, rdF_t (rdF_i (Or.inl rfl)) (rdF_t hF3 (rdF_i (Or.inl rfl))), fun _ => ⟨?_, ?_, ?_⟩⟩
                                  · exact fun z => absurd (hc102.symm.trans z) (by decide)
                                  · exact fun z => absurd (hc102.symm.trans z) (by decide)
                                  · exact fun _ => (gI_ne (Or.inl (by decide))).trans (htd3 rfl 0 (by omega)))
                               | (rw [stS_n hc112 hc114 hc102]; exact ⟨rfl, hp, rdF_r, fun z => by cases z⟩))
                      · first
                          | (exfalso; first | exact absurd h24 (by decide) | exact h24 (by decide) | (simp at h24; done))
                          | (refine xG_run 2 rfl (by repeat' (first | exact trivial | assumption | exact xob_b rfl | exact xal_b rfl | (apply And.intro) | decide)) ?_
                             try dsimp only [xsto1, xsto2, xkill, xget, xset, gd_0, gd_s]
                             refine r2_z rfl rfl (by first | decide | assumption) ?_
                             first
                               | (rw [stS_p hc112 hRR, rd1_f rfl]
                                  exact ⟨rfl, hq3, rdF_t (rdF_i (Or.inl rfl)) hF3, fun z => by cases z⟩)
                               | (rw [stS_p hc112 hRR, rd1_cf (by decide) (by decide) hc59]
                                  exact ⟨rfl, hq3, rdF_t (rdF_i (Or.inl rfl)) hF3, fun z => by cases z⟩)
                               | (rw [stS_p hc112 hRR, rd1_ct (it := 59) (by decide) (by decide) hc59]
                                  refine ⟨rfl, gI_self _ _ _ _, rdF_t (rdF_i (Or.inl rfl)) (rdF_t hF3 (rdF_i (Or.inl rfl))), fun _ => ⟨?_, ?_, ?_⟩⟩
                                  · exact fun _ i hi => (gI_ne (Or.inl (by decide))).trans (htd3 rfl i hi)
                                  · exact fun z => absurd (hc112.symm.trans z) (by decide)
                                  · exact fun z => absurd (hc112.symm.trans z) (by decide))
                               | (rw [stS_r hc114 hRR, rd1_f rfl]
                                  exact ⟨rfl, hq3, rdF_t (rdF_i (Or.inl rfl)) hF3, fun z => by cases z⟩)
                               | (rw [stS_r hc114 hRR, rd1_cf (by decide) (by decide) hc59]
                                  exact ⟨rfl, hq3, rdF_t (rdF_i (Or.inl rfl)) hF3, fun z => by cases z⟩)
                               | (rw [stS_r hc114 hRR, rd1_ct (it := 59) (by decide) (by decide) hc59]
                                  refine ⟨rfl, gI_self _ _ _ _, rdF_t (rdF_i (Or.inl rfl)) (rdF_t hF3 (rdF_i (Or.inl rfl))), fun _ => ⟨?_, ?_, ?_⟩⟩
                                  · exact fun z => absurd (hc114.symm.trans z) (by decide)
                                  · exact fun _ i hi => (gI_ne (Or.inl (by decide))).trans (htd3 rfl i hi)
                                  · exact fun z => absurd (hc114.symm.trans z) (by decide))
                               | (rw [stS_f hc102 hRR, rd1_f rfl]
                                  exact ⟨rfl, hq3, rdF_t (rdF_i (Or.inl rfl)) hF3, fun z => by cases z⟩)
                               | (rw [stS_f hc102 hRR, rd1_cf (by decide) (by decide) hc59]
                                  exact ⟨rfl, hq3, rdF_t (rdF_i (Or.inl rfl)) hF3, fun z => by cases z⟩)
                               | (rw [stS_f hc102 hRR, rd1_ct (it := 59) (by decide) (by decide) hc59]
                                  refine ⟨rfl, gI_self _ _ _ _, rdF_t (rdF_i (Or.inl rfl)) (rdF_t hF3 (rdF_i (Or.inl rfl))), fun _ => ⟨?_, ?_, ?_⟩⟩
                                  · exact fun z => absurd (hc102.symm.trans z) (by decide)
                                  · exact fun z => absurd (hc102.symm.trans z) (by decide)
                                  · exact fun _ => (gI_ne (Or.inl (by decide))).trans (htd3 rfl 0 (by omega)))
                               | (rw [stS_n hc112 hc114 hc102]; exact ⟨rfl, hp, rdF_r, fun z => by cases z⟩))))
set_option maxRecDepth 4000 in
theorem e_opens {κ : xKK} {d : Nat} {M : xM} {j : Nat} (hj : j < 8) : xE2 κ mX12_opens d [.ref 166, .int (nI j)] M (fun v M' => v = none ∧ M' = rpO M j) := by
  refine xE2_of ci_X12_opens cl_X12_opens cw_X12_opens rfl (L := [some (.ref 166), some (.int (nI j))]) rfl ?_
  have hs : xar 172 0 182 (nI j) := xar_n rfl 8 rfl hj (by omega)
  have hj1 : (nI j).toNatClampNeg = j := nI_cl (by omega)
  have e1 : (120 : Int32) * nI j = nI (120 * j) := by show nI 120 * nI j = _; rw [pk_mul]
  refine xG_run 8 rfl (by repeat' (first | exact trivial | assumption | exact xob_b rfl | exact xal_b rfl | (apply And.intro) | decide)) ?_
  try dsimp only [xsto1, xsto2, xkill, xget, xset, gd_0, gd_s]
  try rw [e1]
  try rw [hj1]
  refine xG_run 8 rfl (by repeat' (first | exact trivial | assumption | exact xob_b rfl | exact xal_b rfl | (apply And.intro) | decide)) ?_
  try dsimp only [xsto1, xsto2, xkill, xget, xset, gd_0, gd_s]
  try rw [e1]
  try rw [hj1]
  refine xG_run 2 rfl (by repeat' (first | exact trivial | assumption | exact xob_b rfl | exact xal_b rfl | (apply And.intro) | decide)) ?_
  try dsimp only [xsto1, xsto2, xkill, xget, xset, gd_0, gd_s]
  try rw [e1]
  try rw [hj1]
  refine r2_v rfl rfl ?_
  refine ⟨rfl, ?_⟩
  (try rw [e1])
  (try rw [hj1])
  rfl
def pcJ (R : xM) (np : Nat) (a : Nat → Int32) (j : Nat) : xM := (fun x k => if x = 167 ∧ 7 * np ≤ k ∧ k < 7 * np + j then (if k < 7 * np + 5 then a (k - 7 * np) else 0) else gI R x k, R.2.1, R.2.2)
def rpJ (R : xM) (nr : Nat) (a : Nat → Int32) (sd : Int32) (j : Nat) : xM := (fun x k => if x = 167 ∧ 70 + 6 * nr ≤ k ∧ k < 70 + 6 * nr + j then tlA a sd (k - (70 + 6 * nr)) else gI R x k, R.2.1, R.2.2)
section PJ
variable {R : xM} {np nr j : Nat} {a : Nat → Int32} {sd V : Int32}
theorem pcJ_g {x k : Nat} : gI (pcJ R np a j) x k = if x = 167 ∧ 7 * np ≤ k ∧ k < 7 * np + j then (if k < 7 * np + 5 then a (k - 7 * np) else 0) else gI R x k := rfl
theorem rpJ_g {x k : Nat} : gI (rpJ R nr a sd j) x k = if x = 167 ∧ 70 + 6 * nr ≤ k ∧ k < 70 + 6 * nr + j then tlA a sd (k - (70 + 6 * nr)) else gI R x k := rfl
theorem pcJ_0 : R = pcJ R np a 0 := xM_ext (fun x k => by rw [pcJ_g, if_neg (by omega)]) (fun _ _ => rfl) (fun _ _ => rfl)
theorem rpJ_0 : R = rpJ R nr a sd 0 := xM_ext (fun x k => by rw [rpJ_g, if_neg (by omega)]) (fun _ _ => rfl) (fun _ _ => rfl)
theorem pcJ_s (h : V = if j < 5 then a j else 0) : sI (pcJ R np a j) 167 (7 * np + j) V = pcJ R np a (j + 1) := by
  refine xM_ext (fun x k => ?_) (fun _ _ => rfl) (fun _ _ => rfl)
  rw [gIsI, pcJ_g, pcJ_g]
  by_cases c : x = 167 ∧ k = 7 * np + j
  · rw [if_pos c, if_pos (by omega), h, show k - 7 * np = j by omega]
    by_cases c2 : j < 5
    · rw [if_pos c2, if_pos (by omega)]
    · rw [if_neg c2, if_neg (by omega)]
  · rw [if_neg c]
    by_cases c2 : x = 167 ∧ 7 * np ≤ k ∧ k < 7 * np + j
    · rw [if_pos c2, if_pos (show x = 167 ∧ 7 * np ≤ k ∧ k < 7 * np + (j + 1) by omega)]
    · rw [if_neg c2, if_neg (by omega)]
theorem rpJ_s (h : V = tlA a sd j) : sI (rpJ R nr a sd j) 167 (70 + 6 * nr + j) V = rpJ R nr a sd (j + 1) := by
  refine xM_ext (fun x k => ?_) (fun _ _ => rfl) (fun _ _ => rfl)
  rw [gIsI, rpJ_g, rpJ_g]
  by_cases c : x = 167 ∧ k = 70 + 6 * nr + j
  · rw [if_pos c, if_pos (by omega), h, show k - (70 + 6 * nr) = j by omega]
  · rw [if_neg c]
    by_cases c2 : x = 167 ∧ 70 + 6 * nr ≤ k ∧ k < 70 + 6 * nr + j
    · rw [if_pos c2, if_pos (by omega)]
    · rw [if_neg c2, if_neg (by omega)]
theorem pcJ_e (hn : np < 10) : sI (pcJ R np a 7) 167 1643 (nI (np + 1)) = pcM R np a := by
  refine xM_ext (fun x k => ?_) (fun _ _ => rfl) (fun _ _ => rfl)
  rw [gIsI, pcJ_g, pcM_g]
  by_cases c : x = 167 ∧ k = 1643
  · rw [if_pos c, if_neg (by omega), if_pos c]
  · rw [if_neg c, if_neg c]
theorem rpJ_e (hn : nr < 12) : sI (rpJ R nr a sd 6) 167 1644 (nI (nr + 1)) = rpM R nr a sd := by
  refine xM_ext (fun x k => ?_) (fun _ _ => rfl) (fun _ _ => rfl)
  rw [gIsI, rpJ_g, rpM_g]
  by_cases c : x = 167 ∧ k = 1644
  · rw [if_pos c, if_neg (by omega), if_pos c]
  · rw [if_neg c, if_neg c]
theorem in_p0 {x : Int32} : (0 < x ∧ x ≤ 99) ↔ (1 : Int64) ≤ x.toInt64 ∧ x.toInt64 ≤ 99 := by
  rw [Int64.le_iff_toInt_le, Int64.le_iff_toInt_le, Int32.toInt_toInt64, Int32.lt_iff_toInt_lt, Int32.le_iff_toInt_le, Int32.toInt_zero, show (1 : Int64).toInt = 1 from rfl, show (99 : Int64).toInt = 99 from rfl, show (99 : Int32).toInt = 99 from rfl]
  omega
theorem in_p1 {h x : Int32} (hh : nr3 1 99 h) : (h < x ∧ x ≤ 99) ↔ (h + 1).toInt64 ≤ x.toInt64 ∧ x.toInt64 ≤ 99 := by
  have e1 : (1 : Int32).toInt = 1 := rfl
  have h1 := hh.1
  have h2 := hh.2
  rw [Int64.le_iff_toInt_le, Int64.le_iff_toInt_le, Int32.toInt_toInt64, Int32.toInt_toInt64, fb_addI (by omega) (by omega), e1, Int32.lt_iff_toInt_lt, Int32.le_iff_toInt_le, show (99 : Int64).toInt = 99 from rfl, show (99 : Int32).toInt = 99 from rfl]
  omega
end PJ
set_option maxRecDepth 4000 in
theorem e_makesPiece {κ : xKK} {d : Nat} {M : xM} {np : Nat} {a : Nat → Int32} (hn : gI M 167 1643 = nI np) (hn2 : np ≤ 10) (hh : np ≠ 0 → nr3 1 99 (rs M (np - 1) 1)) (hA : ∀ k, k < 5 → gI M 177 k = a k) (hd : 1 ≤ d) : xE2 κ mX12_makesPiece d [.ref 166] M (fun v M' => (pcA np (rB M np) a ∧ v = some (.int 1) ∧ M' = pcM M np a) ∨ (¬ pcA np (rB M np) a ∧ v = some (.int 0) ∧ M' = M)) := by
  refine xE2_of ci_X12_makesPiece cl_X12_makesPiece cw_X12_makesPiece rfl (L := [some (.ref 166), none, none]) rfl ?_
  have hA0 : gI M 177 (0 : Int32).toNatClampNeg = a 0 := hA 0 (by omega)
  have hs0 : xar 177 0 182 0 := xar_n (j := 0) rfl 6 rfl (by omega) (by omega)
  have hA1 : gI M 177 (1 : Int32).toNatClampNeg = a 1 := hA 1 (by omega)
  have hs1 : xar 177 0 182 1 := xar_n (j := 1) rfl 6 rfl (by omega) (by omega)
  have hA2 : gI M 177 (2 : Int32).toNatClampNeg = a 2 := hA 2 (by omega)
  have hs2 : xar 177 0 182 2 := xar_n (j := 2) rfl 6 rfl (by omega) (by omega)
  have hA3 : gI M 177 (3 : Int32).toNatClampNeg = a 3 := hA 3 (by omega)
  have hs3 : xar 177 0 182 3 := xar_n (j := 3) rfl 6 rfl (by omega) (by omega)
  have hA4 : gI M 177 (4 : Int32).toNatClampNeg = a 4 := hA 4 (by omega)
  have hs4 : xar 177 0 182 4 := xar_n (j := 4) rfl 6 rfl (by omega) (by omega)
  have hs9 : xar 167 0 182 1643 := xar_n (j := 1643) rfl 1651 rfl (by omega) (by omega)
  have hcl : (1643 : Int32).toNatClampNeg = 1643 := rfl
  refine xG_run 7 rfl (by repeat' (first | exact trivial | assumption | exact xob_b rfl | exact xal_b rfl | (apply And.intro) | decide)) ?_
  try dsimp only [xsto1, xsto2, xkill, xget, xset, gd_0, gd_s]
  try rw [hcl]
  try rw [hn]
  try rw [hA0]
  try rw [hA1]
  try rw [hA2]
  try rw [hA3]
  try rw [hA4]
  refine xG_br rfl (fun h12 => ?_) (fun h12 => ?_)
  · refine xG_run 1 rfl (by repeat' (first | exact trivial | assumption | exact xob_b rfl | exact xal_b rfl | (apply And.intro) | decide)) ?_
    try dsimp only [xsto1, xsto2, xkill, xget, xset, gd_0, gd_s]
    try rw [hcl]
    try rw [hn]
    try rw [hA0]
    try rw [hA1]
    try rw [hA2]
    try rw [hA3]
    try rw [hA4]
    refine r2_z rfl rfl (by first | decide | assumption) ?_
    refine Or.inr ⟨?_, rfl, rfl⟩
    rintro ⟨y1, y2, y3, y4, y5, y6, y7, y8, y9⟩
    first
      | (have := (nI_eq (a := np) (b := 10) (by omega) (by omega)).mp h12; omega)
      | exact i_nlt y2 h22
      | exact b57 ⟨y3, y4⟩
      | exact b74 ⟨y5, y6⟩
      | exact i_nlt y7 h85
      | exact b102 ⟨y8, y9⟩
  · refine xG_run 5 rfl (by repeat' (first | exact trivial | assumption | exact xob_b rfl | exact xal_b rfl | (apply And.intro) | decide)) ?_
    try dsimp only [xsto1, xsto2, xkill, xget, xset, gd_0, gd_s]
    try rw [hcl]
    try rw [hn]
    try rw [hA0]
    try rw [hA1]
    try rw [hA2]
    try rw [hA3]
    try rw [hA4]
    refine xG_br rfl (fun h22 => ?_) (fun h22 => ?_)
    · refine xG_run 1 rfl (by repeat' (first | exact trivial | assumption | exact xob_b rfl | exact xal_b rfl | (apply And.intro) | decide)) ?_
      try dsimp only [xsto1, xsto2, xkill, xget, xset, gd_0, gd_s]
      try rw [hcl]
      try rw [hn]
      try rw [hA0]
      try rw [hA1]
      try rw [hA2]
      try rw [hA3]
      try rw [hA4]
      refine r2_z rfl rfl (by first | decide | assumption) ?_
      refine Or.inr ⟨?_, rfl, rfl⟩
      rintro ⟨y1, y2, y3, y4, y5, y6, y7, y8, y9⟩
      first
        | (have := (nI_eq (a := np) (b := 10) (by omega) (by omega)).mp h12; omega)
        | exact i_nlt y2 h22
        | exact b57 ⟨y3, y4⟩
        | exact b74 ⟨y5, y6⟩
        | exact i_nlt y7 h85
        | exact b102 ⟨y8, y9⟩
    · refine xG_run 6 rfl (by repeat' (first | exact trivial | assumption | exact xob_b rfl | exact xal_b rfl | (apply And.intro) | decide)) ?_
      try dsimp only [xsto1, xsto2, xkill, xget, xset, gd_0, gd_s]
      try rw [hcl]
      try rw [hn]
      try rw [hA0]
      try rw [hA1]
      try rw [hA2]
      try rw [hA3]
      try rw [hA4]
      refine xG_br rfl (fun h33 => ?_) (fun h33 => ?_)
      · have hz : ¬ np = 0 := fun q => h33 (by rw [q]; rfl)
        refine xG_run 5 rfl (by repeat' (first | exact trivial | assumption | exact xob_b rfl | exact xal_b rfl | (apply And.intro) | decide)) ?_
        try dsimp only [xsto1, xsto2, xkill, xget, xset, gd_0, gd_s]
        try rw [hcl]
        try rw [hn]
        try rw [hA0]
        try rw [hA1]
        try rw [hA2]
        try rw [hA3]
        try rw [hA4]
        refine xG_c2 2 rfl (by repeat' (first | exact trivial | assumption | exact xob_b rfl | exact xal_b rfl | (apply And.intro) | decide)) rfl rfl (by decide) cw_X12_of (d' := d - 1) (e_of (p := np - 1) (k := 1) (nI_p1 (by omega) (by omega)) rfl (by omega)) (by omega) ?_
        rintro v M' ⟨rfl, hM⟩
        subst M'
        dsimp only [Option.toList, List.cons_append, List.nil_append]
        refine xG_run 4 rfl (by repeat' (first | exact trivial | assumption | exact xob_b rfl | exact xal_b rfl | (apply And.intro) | decide)) ?_
        try dsimp only [xsto1, xsto2, xkill, xget, xset, gd_0, gd_s]
        try rw [hcl]
        try rw [hn]
        try rw [hA0]
        try rw [hA1]
        try rw [hA2]
        try rw [hA3]
        try rw [hA4]
        refine xG_c2 3 rfl (by repeat' (first | exact trivial | assumption | exact xob_b rfl | exact xal_b rfl | (apply And.intro) | decide)) rfl rfl (by decide) cw_X12_isIn (d' := d - 1) (e_isIn (c := rB M np < a 1 ∧ a 1 ≤ 99) (by unfold rB; rw [if_neg hz]; exact in_p1 (hh hz))) (by omega) ?_
        rintro v M' ⟨rfl, hM⟩
        subst M'
        dsimp only [Option.toList, List.cons_append, List.nil_append]
        refine xG_br rfl (fun h57 => ?_) (fun h57 => ?_)
        · have b57 := z0.mp h57
          refine xG_run 1 rfl (by repeat' (first | exact trivial | assumption | exact xob_b rfl | exact xal_b rfl | (apply And.intro) | decide)) ?_
          try dsimp only [xsto1, xsto2, xkill, xget, xset, gd_0, gd_s]
          try rw [hcl]
          try rw [hn]
          try rw [hA0]
          try rw [hA1]
          try rw [hA2]
          try rw [hA3]
          try rw [hA4]
          refine r2_z rfl rfl (by first | decide | assumption) ?_
          refine Or.inr ⟨?_, rfl, rfl⟩
          rintro ⟨y1, y2, y3, y4, y5, y6, y7, y8, y9⟩
          first
            | (have := (nI_eq (a := np) (b := 10) (by omega) (by omega)).mp h12; omega)
            | exact i_nlt y2 h22
            | exact b57 ⟨y3, y4⟩
            | exact b74 ⟨y5, y6⟩
            | exact i_nlt y7 h85
            | exact b102 ⟨y8, y9⟩
        · have b57 := z1.mp h57
          refine xG_run 7 rfl (by repeat' (first | exact trivial | assumption | exact xob_b rfl | exact xal_b rfl | (apply And.intro) | decide)) ?_
          try dsimp only [xsto1, xsto2, xkill, xget, xset, gd_0, gd_s]
          try rw [hcl]
          try rw [hn]
          try rw [hA0]
          try rw [hA1]
          try rw [hA2]
          try rw [hA3]
          try rw [hA4]
          refine xG_c2 3 rfl (by repeat' (first | exact trivial | assumption | exact xob_b rfl | exact xal_b rfl | (apply And.intro) | decide)) rfl rfl (by decide) cw_X12_isIn (d' := d - 1) (e_isIn (c := 1 ≤ a 2 ∧ a 2 ≤ 99) (in32 rfl rfl)) (by omega) ?_
          rintro v M' ⟨rfl, hM⟩
          subst M'
          dsimp only [Option.toList, List.cons_append, List.nil_append]
          refine xG_br rfl (fun h74 => ?_) (fun h74 => ?_)
          · have b74 := z0.mp h74
            refine xG_run 1 rfl (by repeat' (first | exact trivial | assumption | exact xob_b rfl | exact xal_b rfl | (apply And.intro) | decide)) ?_
            try dsimp only [xsto1, xsto2, xkill, xget, xset, gd_0, gd_s]
            try rw [hcl]
            try rw [hn]
            try rw [hA0]
            try rw [hA1]
            try rw [hA2]
            try rw [hA3]
            try rw [hA4]
            refine r2_z rfl rfl (by first | decide | assumption) ?_
            refine Or.inr ⟨?_, rfl, rfl⟩
            rintro ⟨y1, y2, y3, y4, y5, y6, y7, y8, y9⟩
            first
              | (have := (nI_eq (a := np) (b := 10) (by omega) (by omega)).mp h12; omega)
              | exact i_nlt y2 h22
              | exact b57 ⟨y3, y4⟩
              | exact b74 ⟨y5, y6⟩
              | exact i_nlt y7 h85
              | exact b102 ⟨y8, y9⟩
          · have b74 := z1.mp h74
            refine xG_run 5 rfl (by repeat' (first | exact trivial | assumption | exact xob_b rfl | exact xal_b rfl | (apply And.intro) | decide)) ?_
            try dsimp only [xsto1, xsto2, xkill, xget, xset, gd_0, gd_s]
            try rw [hcl]
            try rw [hn]
            try rw [hA0]
            try rw [hA1]
            try rw [hA2]
            try rw [hA3]
            try rw [hA4]
            refine xG_br rfl (fun h85 => ?_) (fun h85 => ?_)
            · refine xG_run 1 rfl (by repeat' (first | exact trivial | assumption | exact xob_b rfl | exact xal_b rfl | (apply And.intro) | decide)) ?_
              try dsimp only [xsto1, xsto2, xkill, xget, xset, gd_0, gd_s]
              try rw [hcl]
              try rw [hn]
              try rw [hA0]
              try rw [hA1]
              try rw [hA2]
              try rw [hA3]
              try rw [hA4]
              refine r2_z rfl rfl (by first | decide | assumption) ?_
              refine Or.inr ⟨?_, rfl, rfl⟩
              rintro ⟨y1, y2, y3, y4, y5, y6, y7, y8, y9⟩
              first
                | (have := (nI_eq (a := np) (b := 10) (by omega) (by omega)).mp h12; omega)
                | exact i_nlt y2 h22
                | exact b57 ⟨y3, y4⟩
                | exact b74 ⟨y5, y6⟩
                | exact i_nlt y7 h85
                | exact b102 ⟨y8, y9⟩
            · refine xG_run 7 rfl (by repeat' (first | exact trivial | assumption | exact xob_b rfl | exact xal_b rfl | (apply And.intro) | decide)) ?_
              try dsimp only [xsto1, xsto2, xkill, xget, xset, gd_0, gd_s]
              try rw [hcl]
              try rw [hn]
              try rw [hA0]
              try rw [hA1]
              try rw [hA2]
              try rw [hA3]
              try rw [hA4]
              refine xG_c2 3 rfl (by repeat' (first | exact trivial | assumption | exact xob_b rfl | exact xal_b rfl | (apply And.intro) | decide)) rfl rfl (by decide) cw_X12_isIn (d' := d - 1) (e_isIn (c := 1 ≤ a 4 ∧ a 4 ≤ 99) (in32 rfl rfl)) (by omega) ?_
              rintro v M' ⟨rfl, hM⟩
              subst M'
              dsimp only [Option.toList, List.cons_append, List.nil_append]
              refine xG_br rfl (fun h102 => ?_) (fun h102 => ?_)
              · have b102 := z1.mp h102
                refine xG_run 2 rfl (by repeat' (first | exact trivial | assumption | exact xob_b rfl | exact xal_b rfl | (apply And.intro) | decide)) ?_
                try dsimp only [xsto1, xsto2, xkill, xget, xset, gd_0, gd_s]
                try rw [hcl]
                try rw [hn]
                try rw [hA0]
                try rw [hA1]
                try rw [hA2]
                try rw [hA3]
                try rw [hA4]
                have hlt : np < 10 := by
                  have : ¬ np = 10 := fun q => h12 (by rw [q]; rfl)
                  omega
                have hok : pcA np (rB M np) a := ⟨hlt, i_nlt2 h22, b57.1, b57.2, b74.1, b74.2, i_nlt2 h85, b102.1, b102.2⟩
                have hm7 : gI (pcJ M np a 7) 167 1643 = nI np := by rw [pcJ_g, if_neg (by omega)]; exact hn
                have e0 : M = pcJ M np a 0 := pcJ_0
                show xG κ mX12_makesPiece _ (109, [some (.ref 166), some (.int (nI np)), some (.int (nI 0))], [], M, z2) _
                conv => arg 4; rw [e0]
                refine xG_up (fun j => (109, [some (.ref 166), some (.int (nI np)), some (.int (nI j))], [], pcJ M np a j, z2)) 7 ?_ ?_ 0 (Nat.zero_le _)
                · intro j hj ih
                  have hj1 : (nI j).toNatClampNeg = j := nI_cl (by omega)
                  have e1 : (7 : Int32) * nI np + nI j = nI (7 * np + j) := ix7 np j
                  have e2 : ((7 : Int32) * nI np + nI j).toNatClampNeg = 7 * np + j := by rw [e1]; exact nI_cl (by omega)
                  have hx : xar 167 0 182 ((7 : Int32) * nI np + nI j) := by rw [e1]; exact xar_n rfl 1651 rfl (by omega) (by omega)
                  have hy : j < 6 → xar 177 0 182 (nI j) := fun h => xar_n rfl 6 rfl h (by omega)
                  refine xG_run 2 rfl (by repeat' (first | exact trivial | assumption | exact xob_b rfl | exact xal_b rfl | (apply And.intro) | decide)) ?_
                  try dsimp only [xsto1, xsto2, xkill, xget, xset, gd_0, gd_s]
                  refine xG_brF rfl (show ¬ nI 7 ≤ nI j from nI_ge hj (by omega)) ?_
                  refine xG_run 8 rfl (by repeat' (first | exact trivial | assumption | exact xob_b rfl | exact xal_b rfl | (apply And.intro) | decide)) ?_
                  try dsimp only [xsto1, xsto2, xkill, xget, xset, gd_0, gd_s]
                  refine xG_run 1 rfl (by repeat' (first | exact trivial | assumption | exact xob_b rfl | exact xal_b rfl | (apply And.intro) | decide)) ?_
                  try dsimp only [xsto1, xsto2, xkill, xget, xset, gd_0, gd_s]
                  refine xG_br rfl (fun h127 => ?_) (fun h127 => ?_)
                  · have h5 : ¬ j < 5 := fun q => nI_nlt9 q (by omega) (show nI 5 ≤ nI j from h127)
                    refine xG_run 4 rfl (by repeat' (first | exact trivial | assumption | exact xob_b rfl | exact xal_b rfl | (apply And.intro) | decide)) ?_
                    try dsimp only [xsto1, xsto2, xkill, xget, xset, gd_0, gd_s]
                    rw [e2, nI_1]
                    first
                      | (rw [pcJ_s (by rw [if_neg h5])]; exact ih)
                      | (rw [hj1, show gI (pcJ M np a j) 177 j = a j from (by rw [pcJ_g, if_neg (by omega)]; exact hA j h5), pcJ_s (by rw [if_pos h5])]; exact ih)
                  · have h5 : j < 5 := nI_lt9 (n := 5) (by omega) (by omega) h127
                    have hy := hy (by omega)
                    refine xG_run 8 rfl (by repeat' (first | exact trivial | assumption | exact xob_b rfl | exact xal_b rfl | (apply And.intro) | decide)) ?_
                    try dsimp only [xsto1, xsto2, xkill, xget, xset, gd_0, gd_s]
                    rw [e2, nI_1]
                    first
                      | (rw [pcJ_s (by rw [if_neg h5])]; exact ih)
                      | (rw [hj1, show gI (pcJ M np a j) 177 j = a j from (by rw [pcJ_g, if_neg (by omega)]; exact hA j h5), pcJ_s (by rw [if_pos h5])]; exact ih)
                · refine xG_run 2 rfl (by repeat' (first | exact trivial | assumption | exact xob_b rfl | exact xal_b rfl | (apply And.intro) | decide)) ?_
                  try dsimp only [xsto1, xsto2, xkill, xget, xset, gd_0, gd_s]
                  try rw [hcl]
                  try rw [hm7]
                  try rw [nI_1]
                  refine xG_brT rfl (Int32.le_refl _) ?_
                  refine xG_run 5 rfl (by repeat' (first | exact trivial | assumption | exact xob_b rfl | exact xal_b rfl | (apply And.intro) | decide)) ?_
                  try dsimp only [xsto1, xsto2, xkill, xget, xset, gd_0, gd_s]
                  try rw [hcl]
                  try rw [hm7]
                  try rw [nI_1]
                  try rw [hcl]
                  try rw [hm7]
                  refine xG_run 2 rfl (by repeat' (first | exact trivial | assumption | exact xob_b rfl | exact xal_b rfl | (apply And.intro) | decide)) ?_
                  try dsimp only [xsto1, xsto2, xkill, xget, xset, gd_0, gd_s]
                  try rw [hcl]
                  try rw [hm7]
                  try rw [nI_1]
                  try rw [nI_1]
                  refine xG_run 2 rfl (by repeat' (first | exact trivial | assumption | exact xob_b rfl | exact xal_b rfl | (apply And.intro) | decide)) ?_
                  try dsimp only [xsto1, xsto2, xkill, xget, xset, gd_0, gd_s]
                  try rw [hcl]
                  try rw [hm7]
                  try rw [nI_1]
                  refine r2_z rfl rfl (by first | decide | assumption) ?_
                  rw [pcJ_e hlt]
                  exact Or.inl ⟨hok, rfl, rfl⟩
              · have b102 := z0.mp (Decidable.not_not.mp h102)
                refine xG_run 1 rfl (by repeat' (first | exact trivial | assumption | exact xob_b rfl | exact xal_b rfl | (apply And.intro) | decide)) ?_
                try dsimp only [xsto1, xsto2, xkill, xget, xset, gd_0, gd_s]
                try rw [hcl]
                try rw [hn]
                try rw [hA0]
                try rw [hA1]
                try rw [hA2]
                try rw [hA3]
                try rw [hA4]
                refine r2_z rfl rfl (by first | decide | assumption) ?_
                refine Or.inr ⟨?_, rfl, rfl⟩
                rintro ⟨y1, y2, y3, y4, y5, y6, y7, y8, y9⟩
                first
                  | (have := (nI_eq (a := np) (b := 10) (by omega) (by omega)).mp h12; omega)
                  | exact i_nlt y2 h22
                  | exact b57 ⟨y3, y4⟩
                  | exact b74 ⟨y5, y6⟩
                  | exact i_nlt y7 h85
                  | exact b102 ⟨y8, y9⟩
      · have hz : np = 0 := (nI_eq (a := np) (b := 0) (by omega) (by omega)).mp (Decidable.not_not.mp h33)
        refine xG_run 3 rfl (by repeat' (first | exact trivial | assumption | exact xob_b rfl | exact xal_b rfl | (apply And.intro) | decide)) ?_
        try dsimp only [xsto1, xsto2, xkill, xget, xset, gd_0, gd_s]
        try rw [hcl]
        try rw [hn]
        try rw [hA0]
        try rw [hA1]
        try rw [hA2]
        try rw [hA3]
        try rw [hA4]
        refine xG_c2 3 rfl (by repeat' (first | exact trivial | assumption | exact xob_b rfl | exact xal_b rfl | (apply And.intro) | decide)) rfl rfl (by decide) cw_X12_isIn (d' := d - 1) (e_isIn (c := rB M np < a 1 ∧ a 1 ≤ 99) (by unfold rB; rw [if_pos hz]; exact in_p0)) (by omega) ?_
        rintro v M' ⟨rfl, hM⟩
        subst M'
        dsimp only [Option.toList, List.cons_append, List.nil_append]
        refine xG_br rfl (fun h57 => ?_) (fun h57 => ?_)
        · have b57 := z0.mp h57
          refine xG_run 1 rfl (by repeat' (first | exact trivial | assumption | exact xob_b rfl | exact xal_b rfl | (apply And.intro) | decide)) ?_
          try dsimp only [xsto1, xsto2, xkill, xget, xset, gd_0, gd_s]
          try rw [hcl]
          try rw [hn]
          try rw [hA0]
          try rw [hA1]
          try rw [hA2]
          try rw [hA3]
          try rw [hA4]
          refine r2_z rfl rfl (by first | decide | assumption) ?_
          refine Or.inr ⟨?_, rfl, rfl⟩
          rintro ⟨y1, y2, y3, y4, y5, y6, y7, y8, y9⟩
          first
            | (have := (nI_eq (a := np) (b := 10) (by omega) (by omega)).mp h12; omega)
            | exact i_nlt y2 h22
            | exact b57 ⟨y3, y4⟩
            | exact b74 ⟨y5, y6⟩
            | exact i_nlt y7 h85
            | exact b102 ⟨y8, y9⟩
        · have b57 := z1.mp h57
          refine xG_run 7 rfl (by repeat' (first | exact trivial | assumption | exact xob_b rfl | exact xal_b rfl | (apply And.intro) | decide)) ?_
          try dsimp only [xsto1, xsto2, xkill, xget, xset, gd_0, gd_s]
          try rw [hcl]
          try rw [hn]
          try rw [hA0]
          try rw [hA1]
          try rw [hA2]
          try rw [hA3]
          try rw [hA4]
          refine xG_c2 3 rfl (by repeat' (first | exact trivial | assumption | exact xob_b rfl | exact xal_b rfl | (apply And.intro) | decide)) rfl rfl (by decide) cw_X12_isIn (d' := d - 1) (e_isIn (c := 1 ≤ a 2 ∧ a 2 ≤ 99) (in32 rfl rfl)) (by omega) ?_
          rintro v M' ⟨rfl, hM⟩
          subst M'
          dsimp only [Option.toList, List.cons_append, List.nil_append]
          refine xG_br rfl (fun h74 => ?_) (fun h74 => ?_)
          · have b74 := z0.mp h74
            refine xG_run 1 rfl (by repeat' (first | exact trivial | assumption | exact xob_b rfl | exact xal_b rfl | (apply And.intro) | decide)) ?_
            try dsimp only [xsto1, xsto2, xkill, xget, xset, gd_0, gd_s]
            try rw [hcl]
            try rw [hn]
            try rw [hA0]
            try rw [hA1]
            try rw [hA2]
            try rw [hA3]
            try rw [hA4]
            refine r2_z rfl rfl (by first | decide | assumption) ?_
            refine Or.inr ⟨?_, rfl, rfl⟩
            rintro ⟨y1, y2, y3, y4, y5, y6, y7, y8, y9⟩
            first
              | (have := (nI_eq (a := np) (b := 10) (by omega) (by omega)).mp h12; omega)
              | exact i_nlt y2 h22
              | exact b57 ⟨y3, y4⟩
              | exact b74 ⟨y5, y6⟩
              | exact i_nlt y7 h85
              | exact b102 ⟨y8, y9⟩
          · have b74 := z1.mp h74
            refine xG_run 5 rfl (by repeat' (first | exact trivial | assumption | exact xob_b rfl | exact xal_b rfl | (apply And.intro) | decide)) ?_
            try dsimp only [xsto1, xsto2, xkill, xget, xset, gd_0, gd_s]
            try rw [hcl]
            try rw [hn]
            try rw [hA0]
            try rw [hA1]
            try rw [hA2]
            try rw [hA3]
            try rw [hA4]
            refine xG_br rfl (fun h85 => ?_) (fun h85 => ?_)
            · refine xG_run 1 rfl (by repeat' (first | exact trivial | assumption | exact xob_b rfl | exact xal_b rfl | (apply And.intro) | decide)) ?_
              try dsimp only [xsto1, xsto2, xkill, xget, xset, gd_0, gd_s]
              try rw [hcl]
              try rw [hn]
              try rw [hA0]
              try rw [hA1]
              try rw [hA2]
              try rw [hA3]
              try rw [hA4]
              refine r2_z rfl rfl (by first | decide | assumption) ?_
              refine Or.inr ⟨?_, rfl, rfl⟩
              rintro ⟨y1, y2, y3, y4, y5, y6, y7, y8, y9⟩
              first
                | (have := (nI_eq (a := np) (b := 10) (by omega) (by omega)).mp h12; omega)
                | exact i_nlt y2 h22
                | exact b57 ⟨y3, y4⟩
                | exact b74 ⟨y5, y6⟩
                | exact i_nlt y7 h85
                | exact b102 ⟨y8, y9⟩
            · refine xG_run 7 rfl (by repeat' (first | exact trivial | assumption | exact xob_b rfl | exact xal_b rfl | (apply And.intro) | decide)) ?_
              try dsimp only [xsto1, xsto2, xkill, xget, xset, gd_0, gd_s]
              try rw [hcl]
              try rw [hn]
              try rw [hA0]
              try rw [hA1]
              try rw [hA2]
              try rw [hA3]
              try rw [hA4]
              refine xG_c2 3 rfl (by repeat' (first | exact trivial | assumption | exact xob_b rfl | exact xal_b rfl | (apply And.intro) | decide)) rfl rfl (by decide) cw_X12_isIn (d' := d - 1) (e_isIn (c := 1 ≤ a 4 ∧ a 4 ≤ 99) (in32 rfl rfl)) (by omega) ?_
              rintro v M' ⟨rfl, hM⟩
              subst M'
              dsimp only [Option.toList, List.cons_append, List.nil_append]
              refine xG_br rfl (fun h102 => ?_) (fun h102 => ?_)
              · have b102 := z1.mp h102
                refine xG_run 2 rfl (by repeat' (first | exact trivial | assumption | exact xob_b rfl | exact xal_b rfl | (apply And.intro) | decide)) ?_
                try dsimp only [xsto1, xsto2, xkill, xget, xset, gd_0, gd_s]
                try rw [hcl]
                try rw [hn]
                try rw [hA0]
                try rw [hA1]
                try rw [hA2]
                try rw [hA3]
                try rw [hA4]
                have hlt : np < 10 := by
                  have : ¬ np = 10 := fun q => h12 (by rw [q]; rfl)
                  omega
                have hok : pcA np (rB M np) a := ⟨hlt, i_nlt2 h22, b57.1, b57.2, b74.1, b74.2, i_nlt2 h85, b102.1, b102.2⟩
                have hm7 : gI (pcJ M np a 7) 167 1643 = nI np := by rw [pcJ_g, if_neg (by omega)]; exact hn
                have e0 : M = pcJ M np a 0 := pcJ_0
                show xG κ mX12_makesPiece _ (109, [some (.ref 166), some (.int (nI np)), some (.int (nI 0))], [], M, z2) _
                conv => arg 4; rw [e0]
                refine xG_up (fun j => (109, [some (.ref 166), some (.int (nI np)), some (.int (nI j))], [], pcJ M np a j, z2)) 7 ?_ ?_ 0 (Nat.zero_le _)
                · intro j hj ih
                  have hj1 : (nI j).toNatClampNeg = j := nI_cl (by omega)
                  have e1 : (7 : Int32) * nI np + nI j = nI (7 * np + j) := ix7 np j
                  have e2 : ((7 : Int32) * nI np + nI j).toNatClampNeg = 7 * np + j := by rw [e1]; exact nI_cl (by omega)
                  have hx : xar 167 0 182 ((7 : Int32) * nI np + nI j) := by rw [e1]; exact xar_n rfl 1651 rfl (by omega) (by omega)
                  have hy : j < 6 → xar 177 0 182 (nI j) := fun h => xar_n rfl 6 rfl h (by omega)
                  refine xG_run 2 rfl (by repeat' (first | exact trivial | assumption | exact xob_b rfl | exact xal_b rfl | (apply And.intro) | decide)) ?_
                  try dsimp only [xsto1, xsto2, xkill, xget, xset, gd_0, gd_s]
                  refine xG_brF rfl (show ¬ nI 7 ≤ nI j from nI_ge hj (by omega)) ?_
                  refine xG_run 8 rfl (by repeat' (first | exact trivial | assumption | exact xob_b rfl | exact xal_b rfl | (apply And.intro) | decide)) ?_
                  try dsimp only [xsto1, xsto2, xkill, xget, xset, gd_0, gd_s]
                  refine xG_run 1 rfl (by repeat' (first | exact trivial | assumption | exact xob_b rfl | exact xal_b rfl | (apply And.intro) | decide)) ?_
                  try dsimp only [xsto1, xsto2, xkill, xget, xset, gd_0, gd_s]
                  refine xG_br rfl (fun h127 => ?_) (fun h127 => ?_)
                  · have h5 : ¬ j < 5 := fun q => nI_nlt9 q (by omega) (show nI 5 ≤ nI j from h127)
                    refine xG_run 4 rfl (by repeat' (first | exact trivial | assumption | exact xob_b rfl | exact xal_b rfl | (apply And.intro) | decide)) ?_
                    try dsimp only [xsto1, xsto2, xkill, xget, xset, gd_0, gd_s]
                    rw [e2, nI_1]
                    first
                      | (rw [pcJ_s (by rw [if_neg h5])]; exact ih)
                      | (rw [hj1, show gI (pcJ M np a j) 177 j = a j from (by rw [pcJ_g, if_neg (by omega)]; exact hA j h5), pcJ_s (by rw [if_pos h5])]; exact ih)
                  · have h5 : j < 5 := nI_lt9 (n := 5) (by omega) (by omega) h127
                    have hy := hy (by omega)
                    refine xG_run 8 rfl (by repeat' (first | exact trivial | assumption | exact xob_b rfl | exact xal_b rfl | (apply And.intro) | decide)) ?_
                    try dsimp only [xsto1, xsto2, xkill, xget, xset, gd_0, gd_s]
                    rw [e2, nI_1]
                    first
                      | (rw [pcJ_s (by rw [if_neg h5])]; exact ih)
                      | (rw [hj1, show gI (pcJ M np a j) 177 j = a j from (by rw [pcJ_g, if_neg (by omega)]; exact hA j h5), pcJ_s (by rw [if_pos h5])]; exact ih)
                · refine xG_run 2 rfl (by repeat' (first | exact trivial | assumption | exact xob_b rfl | exact xal_b rfl | (apply And.intro) | decide)) ?_
                  try dsimp only [xsto1, xsto2, xkill, xget, xset, gd_0, gd_s]
                  try rw [hcl]
                  try rw [hm7]
                  try rw [nI_1]
                  refine xG_brT rfl (Int32.le_refl _) ?_
                  refine xG_run 5 rfl (by repeat' (first | exact trivial | assumption | exact xob_b rfl | exact xal_b rfl | (apply And.intro) | decide)) ?_
                  try dsimp only [xsto1, xsto2, xkill, xget, xset, gd_0, gd_s]
                  try rw [hcl]
                  try rw [hm7]
                  try rw [nI_1]
                  try rw [hcl]
                  try rw [hm7]
                  refine xG_run 2 rfl (by repeat' (first | exact trivial | assumption | exact xob_b rfl | exact xal_b rfl | (apply And.intro) | decide)) ?_
                  try dsimp only [xsto1, xsto2, xkill, xget, xset, gd_0, gd_s]
                  try rw [hcl]
                  try rw [hm7]
                  try rw [nI_1]
                  try rw [nI_1]
                  refine xG_run 2 rfl (by repeat' (first | exact trivial | assumption | exact xob_b rfl | exact xal_b rfl | (apply And.intro) | decide)) ?_
                  try dsimp only [xsto1, xsto2, xkill, xget, xset, gd_0, gd_s]
                  try rw [hcl]
                  try rw [hm7]
                  try rw [nI_1]
                  refine r2_z rfl rfl (by first | decide | assumption) ?_
                  rw [pcJ_e hlt]
                  exact Or.inl ⟨hok, rfl, rfl⟩
              · have b102 := z0.mp (Decidable.not_not.mp h102)
                refine xG_run 1 rfl (by repeat' (first | exact trivial | assumption | exact xob_b rfl | exact xal_b rfl | (apply And.intro) | decide)) ?_
                try dsimp only [xsto1, xsto2, xkill, xget, xset, gd_0, gd_s]
                try rw [hcl]
                try rw [hn]
                try rw [hA0]
                try rw [hA1]
                try rw [hA2]
                try rw [hA3]
                try rw [hA4]
                refine r2_z rfl rfl (by first | decide | assumption) ?_
                refine Or.inr ⟨?_, rfl, rfl⟩
                rintro ⟨y1, y2, y3, y4, y5, y6, y7, y8, y9⟩
                first
                  | (have := (nI_eq (a := np) (b := 10) (by omega) (by omega)).mp h12; omega)
                  | exact i_nlt y2 h22
                  | exact b57 ⟨y3, y4⟩
                  | exact b74 ⟨y5, y6⟩
                  | exact i_nlt y7 h85
                  | exact b102 ⟨y8, y9⟩
set_option maxRecDepth 4000 in
theorem e_makesRope {κ : xKK} {d : Nat} {M : xM} {np nr : Nat} {a : Nat → Int32} {sd : Int32} (hn : gI M 167 1643 = nI np) (hn2 : np ≤ 10) (hr : gI M 167 1644 = nI nr) (hr2 : nr ≤ 12) (hA : ∀ k, k < 5 → gI M 177 k = tlA a sd k) (hd : 2 ≤ d) : xE2 κ mX12_makesRope d [.ref 166] M (fun v M' => (rpA np nr a ∧ v = some (.int 1) ∧ M' = rpM M nr a sd) ∨ (¬ rpA np nr a ∧ v = some (.int 0) ∧ M' = M)) := by
  refine xE2_of ci_X12_makesRope cl_X12_makesRope cw_X12_makesRope rfl (L := [some (.ref 166), none, none]) rfl ?_
  have hA0 : gI M 177 (0 : Int32).toNatClampNeg = a 0 := hA 0 (by omega)
  have hs0 : xar 177 0 182 0 := xar_n (j := 0) rfl 6 rfl (by omega) (by omega)
  have hA2 : gI M 177 (2 : Int32).toNatClampNeg = a 1 := hA 2 (by omega)
  have hs2 : xar 177 0 182 2 := xar_n (j := 2) rfl 6 rfl (by omega) (by omega)
  have hA3 : gI M 177 (3 : Int32).toNatClampNeg = a 2 := hA 3 (by omega)
  have hs3 : xar 177 0 182 3 := xar_n (j := 3) rfl 6 rfl (by omega) (by omega)
  have hs9 : xar 167 0 182 1644 := xar_n (j := 1644) rfl 1651 rfl (by omega) (by omega)
  have hcl : (1644 : Int32).toNatClampNeg = 1644 := rfl
  refine xG_run 7 rfl (by repeat' (first | exact trivial | assumption | exact xob_b rfl | exact xal_b rfl | (apply And.intro) | decide)) ?_
  try dsimp only [xsto1, xsto2, xkill, xget, xset, gd_0, gd_s]
  try rw [hcl]
  try rw [hr]
  try rw [hA0]
  try rw [hA2]
  try rw [hA3]
  refine xG_br rfl (fun h12 => ?_) (fun h12 => ?_)
  · refine xG_run 1 rfl (by repeat' (first | exact trivial | assumption | exact xob_b rfl | exact xal_b rfl | (apply And.intro) | decide)) ?_
    try dsimp only [xsto1, xsto2, xkill, xget, xset, gd_0, gd_s]
    try rw [hcl]
    try rw [hr]
    try rw [hA0]
    try rw [hA2]
    try rw [hA3]
    refine r2_z rfl rfl (by first | decide | assumption) ?_
    refine Or.inr ⟨?_, rfl, rfl⟩
    rintro ⟨y1, y2, y3, y4, y5, y6⟩
    first
      | (have := (nI_eq (a := nr) (b := 12) (by omega) (by omega)).mp h12; omega)
      | exact b25 y1
      | exact b42 ⟨y3, y4⟩
      | exact b59 ⟨y5, y6⟩
  · refine xG_run 5 rfl (by repeat' (first | exact trivial | assumption | exact xob_b rfl | exact xal_b rfl | (apply And.intro) | decide)) ?_
    try dsimp only [xsto1, xsto2, xkill, xget, xset, gd_0, gd_s]
    try rw [hcl]
    try rw [hr]
    try rw [hA0]
    try rw [hA2]
    try rw [hA3]
    refine xG_c2 1 rfl (by repeat' (first | exact trivial | assumption | exact xob_b rfl | exact xal_b rfl | (apply And.intro) | decide)) rfl rfl (by decide) cw_X12_isPiece (d' := d - 1) (e_isPiece hn hn2 (by omega)) (by omega) ?_
    rintro v M' ⟨rfl, hM⟩
    subst M'
    dsimp only [Option.toList, List.cons_append, List.nil_append]
    refine xG_br rfl (fun h25 => ?_) (fun h25 => ?_)
    · have b25 := z0.mp h25
      refine xG_run 1 rfl (by repeat' (first | exact trivial | assumption | exact xob_b rfl | exact xal_b rfl | (apply And.intro) | decide)) ?_
      try dsimp only [xsto1, xsto2, xkill, xget, xset, gd_0, gd_s]
      try rw [hcl]
      try rw [hr]
      try rw [hA0]
      try rw [hA2]
      try rw [hA3]
      refine r2_z rfl rfl (by first | decide | assumption) ?_
      refine Or.inr ⟨?_, rfl, rfl⟩
      rintro ⟨y1, y2, y3, y4, y5, y6⟩
      first
        | (have := (nI_eq (a := nr) (b := 12) (by omega) (by omega)).mp h12; omega)
        | exact b25 y1
        | exact b42 ⟨y3, y4⟩
        | exact b59 ⟨y5, y6⟩
    · have b25 := z1.mp h25
      refine xG_run 7 rfl (by repeat' (first | exact trivial | assumption | exact xob_b rfl | exact xal_b rfl | (apply And.intro) | decide)) ?_
      try dsimp only [xsto1, xsto2, xkill, xget, xset, gd_0, gd_s]
      try rw [hcl]
      try rw [hr]
      try rw [hA0]
      try rw [hA2]
      try rw [hA3]
      refine xG_c2 3 rfl (by repeat' (first | exact trivial | assumption | exact xob_b rfl | exact xal_b rfl | (apply And.intro) | decide)) rfl rfl (by decide) cw_X12_isIn (d' := d - 1) (e_isIn (c := 1 ≤ a 1 ∧ a 1 ≤ 99) (in32 rfl rfl)) (by omega) ?_
      rintro v M' ⟨rfl, hM⟩
      subst M'
      dsimp only [Option.toList, List.cons_append, List.nil_append]
      refine xG_br rfl (fun h42 => ?_) (fun h42 => ?_)
      · have b42 := z0.mp h42
        refine xG_run 1 rfl (by repeat' (first | exact trivial | assumption | exact xob_b rfl | exact xal_b rfl | (apply And.intro) | decide)) ?_
        try dsimp only [xsto1, xsto2, xkill, xget, xset, gd_0, gd_s]
        try rw [hcl]
        try rw [hr]
        try rw [hA0]
        try rw [hA2]
        try rw [hA3]
        refine r2_z rfl rfl (by first | decide | assumption) ?_
        refine Or.inr ⟨?_, rfl, rfl⟩
        rintro ⟨y1, y2, y3, y4, y5, y6⟩
        first
          | (have := (nI_eq (a := nr) (b := 12) (by omega) (by omega)).mp h12; omega)
          | exact b25 y1
          | exact b42 ⟨y3, y4⟩
          | exact b59 ⟨y5, y6⟩
      · have b42 := z1.mp h42
        refine xG_run 7 rfl (by repeat' (first | exact trivial | assumption | exact xob_b rfl | exact xal_b rfl | (apply And.intro) | decide)) ?_
        try dsimp only [xsto1, xsto2, xkill, xget, xset, gd_0, gd_s]
        try rw [hcl]
        try rw [hr]
        try rw [hA0]
        try rw [hA2]
        try rw [hA3]
        refine xG_c2 3 rfl (by repeat' (first | exact trivial | assumption | exact xob_b rfl | exact xal_b rfl | (apply And.intro) | decide)) rfl rfl (by decide) cw_X12_isIn (d' := d - 1) (e_isIn (c := 1 ≤ a 2 ∧ a 2 ≤ 99) (in32 rfl rfl)) (by omega) ?_
        rintro v M' ⟨rfl, hM⟩
        subst M'
        dsimp only [Option.toList, List.cons_append, List.nil_append]
        refine xG_br rfl (fun h59 => ?_) (fun h59 => ?_)
        · have b59 := z1.mp h59
          refine xG_run 2 rfl (by repeat' (first | exact trivial | assumption | exact xob_b rfl | exact xal_b rfl | (apply And.intro) | decide)) ?_
          try dsimp only [xsto1, xsto2, xkill, xget, xset, gd_0, gd_s]
          try rw [hcl]
          try rw [hr]
          try rw [hA0]
          try rw [hA2]
          try rw [hA3]
          have hlt : nr < 12 := by
            have : ¬ nr = 12 := fun q => h12 (by rw [q]; rfl)
            omega
          have hok : rpA np nr a := ⟨b25, hlt, b42.1, b42.2, b59.1, b59.2⟩
          have hm7 : gI (rpJ M nr a sd 6) 167 1644 = nI nr := by rw [rpJ_g, if_neg (by omega)]; exact hr
          have e0 : M = rpJ M nr a sd 0 := rpJ_0
          show xG κ mX12_makesRope _ (66, [some (.ref 166), some (.int (nI nr)), some (.int (nI 0))], [], M, z2) _
          conv => arg 4; rw [e0]
          refine xG_up (fun j => (66, [some (.ref 166), some (.int (nI nr)), some (.int (nI j))], [], rpJ M nr a sd j, z2)) 6 ?_ ?_ 0 (Nat.zero_le _)
          · intro j hj ih
            have hj1 : (nI j).toNatClampNeg = j := nI_cl (by omega)
            have e1 : (70 : Int32) + 6 * nI nr + nI j = nI (70 + 6 * nr + j) := ix6 nr j
            have e2 : ((70 : Int32) + 6 * nI nr + nI j).toNatClampNeg = 70 + 6 * nr + j := by rw [e1]; exact nI_cl (by omega)
            have hx : xar 167 0 182 ((70 : Int32) + 6 * nI nr + nI j) := by rw [e1]; exact xar_n rfl 1651 rfl (by omega) (by omega)
            have hy : j < 6 → xar 177 0 182 (nI j) := fun h => xar_n rfl 6 rfl h (by omega)
            refine xG_run 2 rfl (by repeat' (first | exact trivial | assumption | exact xob_b rfl | exact xal_b rfl | (apply And.intro) | decide)) ?_
            try dsimp only [xsto1, xsto2, xkill, xget, xset, gd_0, gd_s]
            refine xG_brF rfl (show ¬ nI 6 ≤ nI j from nI_ge hj (by omega)) ?_
            refine xG_run 8 rfl (by repeat' (first | exact trivial | assumption | exact xob_b rfl | exact xal_b rfl | (apply And.intro) | decide)) ?_
            try dsimp only [xsto1, xsto2, xkill, xget, xset, gd_0, gd_s]
            refine xG_run 3 rfl (by repeat' (first | exact trivial | assumption | exact xob_b rfl | exact xal_b rfl | (apply And.intro) | decide)) ?_
            try dsimp only [xsto1, xsto2, xkill, xget, xset, gd_0, gd_s]
            refine xG_br rfl (fun h87 => ?_) (fun h87 => ?_)
            · have h5 : ¬ j < 5 := fun q => nI_nlt9 q (by omega) (show nI 5 ≤ nI j from h87)
              refine xG_run 4 rfl (by repeat' (first | exact trivial | assumption | exact xob_b rfl | exact xal_b rfl | (apply And.intro) | decide)) ?_
              try dsimp only [xsto1, xsto2, xkill, xget, xset, gd_0, gd_s]
              rw [e2, nI_1]
              first
                | (have h9 : j = 5 := by omega
                   rw [rpJ_s (by subst h9; rfl)]; exact ih)
                | (rw [hj1, show gI (rpJ M nr a sd j) 177 j = tlA a sd j from (by rw [rpJ_g, if_neg (by omega)]; exact hA j h5), rpJ_s rfl]; exact ih)
            · have h5 : j < 5 := nI_lt9 (n := 5) (by omega) (by omega) h87
              have hy := hy (by omega)
              refine xG_run 8 rfl (by repeat' (first | exact trivial | assumption | exact xob_b rfl | exact xal_b rfl | (apply And.intro) | decide)) ?_
              try dsimp only [xsto1, xsto2, xkill, xget, xset, gd_0, gd_s]
              rw [e2, nI_1]
              first
                | (have h9 : j = 5 := by omega
                   rw [rpJ_s (by subst h9; rfl)]; exact ih)
                | (rw [hj1, show gI (rpJ M nr a sd j) 177 j = tlA a sd j from (by rw [rpJ_g, if_neg (by omega)]; exact hA j h5), rpJ_s rfl]; exact ih)
          · refine xG_run 2 rfl (by repeat' (first | exact trivial | assumption | exact xob_b rfl | exact xal_b rfl | (apply And.intro) | decide)) ?_
            try dsimp only [xsto1, xsto2, xkill, xget, xset, gd_0, gd_s]
            try rw [hcl]
            try rw [hm7]
            try rw [nI_1]
            refine xG_brT rfl (Int32.le_refl _) ?_
            refine xG_run 5 rfl (by repeat' (first | exact trivial | assumption | exact xob_b rfl | exact xal_b rfl | (apply And.intro) | decide)) ?_
            try dsimp only [xsto1, xsto2, xkill, xget, xset, gd_0, gd_s]
            try rw [hcl]
            try rw [hm7]
            try rw [nI_1]
            try rw [hcl]
            try rw [hm7]
            refine xG_run 2 rfl (by repeat' (first | exact trivial | assumption | exact xob_b rfl | exact xal_b rfl | (apply And.intro) | decide)) ?_
            try dsimp only [xsto1, xsto2, xkill, xget, xset, gd_0, gd_s]
            try rw [hcl]
            try rw [hm7]
            try rw [nI_1]
            try rw [nI_1]
            refine xG_run 2 rfl (by repeat' (first | exact trivial | assumption | exact xob_b rfl | exact xal_b rfl | (apply And.intro) | decide)) ?_
            try dsimp only [xsto1, xsto2, xkill, xget, xset, gd_0, gd_s]
            try rw [hcl]
            try rw [hm7]
            try rw [nI_1]
            refine r2_z rfl rfl (by first | decide | assumption) ?_
            rw [rpJ_e hlt]
            exact Or.inl ⟨hok, rfl, rfl⟩
        · have b59 := z0.mp (Decidable.not_not.mp h59)
          refine xG_run 1 rfl (by repeat' (first | exact trivial | assumption | exact xob_b rfl | exact xal_b rfl | (apply And.intro) | decide)) ?_
          try dsimp only [xsto1, xsto2, xkill, xget, xset, gd_0, gd_s]
          try rw [hcl]
          try rw [hr]
          try rw [hA0]
          try rw [hA2]
          try rw [hA3]
          refine r2_z rfl rfl (by first | decide | assumption) ?_
          refine Or.inr ⟨?_, rfl, rfl⟩
          rintro ⟨y1, y2, y3, y4, y5, y6⟩
          first
            | (have := (nI_eq (a := nr) (b := 12) (by omega) (by omega)).mp h12; omega)
            | exact b25 y1
            | exact b42 ⟨y3, y4⟩
            | exact b59 ⟨y5, y6⟩
