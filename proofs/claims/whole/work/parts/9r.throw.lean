/-! ===== push, rest, element of the class ===== -/
theorem r3_l {m : xMI} {Post : Int64 → xM → Prop} {Thr : String → xM → Prop} {κ : xKK} {r : xRm} {pc nx : Nat} {L : xLc} {M : xM} {v : Int64} {e1 : (Nat × Nat × Nat) × Int32 × Int64} (h : xat m pc = some (.lreturn, nx, e1)) (hr : m.2.1.2.1 = some .long) (hp : Post v M) : xG κ m r (pc, L, [.long v], M, z2) (xTE m Post Thr) := xG_done (Or.inl ⟨_, v, h, rfl, rfl, hr, hp, rfl, rfl⟩)
theorem r3_t {m : xMI} {Post : Int64 → xM → Prop} {Thr : String → xM → Prop} {κ : xKK} {r : xRm} {pc : Nat} {L : xLc} {M : xM} {cls text : String} {ik is ic : Nat} {wide : Bool} (hI : xThI m pc cls text ik is ic wide) (hs : ∀ κ s, xTh κ s → (∃ a, vk_R m.1.1 is text a s) ∧ va_Nw (.castable cls cls) s) (hp : Thr cls M) : xG κ m r (pc, L, [], M, z2) (xTE m Post Thr) := xG_done (Or.inr ⟨cls, text, ik, is, ic, wide, hI, hs, hp, rfl, rfl⟩)
theorem xG_wid {κ : xKK} {m : xMI} {d c s pc n : Nat} {L : xLc} {st : List Value} {M : xM} {ex : Bool} {YS : xX → Prop} (h : xG κ m (d, 0, 0) (pc, L, st, M, n, ex, 0, 0) YS) : xG κ m (d, c, s) (pc, L, st, M, n, ex, 0, 0) YS := by
  intro p e R s0 me args below meth c0 Q hC hY
  obtain ⟨hx, hb, hml, hown, hts, hK, hfr, hlo, hce, hsl, hsz, hini, hcI, hcL⟩ := hC
  have h1 := h p e R s0 me args below meth c0 Q ⟨hx, hb, hml, hown, hts, hK, hfr, hlo, Nat.zero_le _, Nat.zero_le _, hsz, hini, hcI, hcL⟩ (fun Y y H locs ls h1 h3 h4 h5 h6 h7 => hY Y y H locs ls h1 h3 h4 h5 (Nat.le_trans h6 (Nat.zero_le _)) (Nat.le_trans h7 (Nat.zero_le _)))
  exact fun H locs ls h2 h3 h4 h5 _ _ => h1 H locs ls h2 h3 h4 h5 (Nat.le_refl 0) (Nat.le_refl 0)
theorem thG {L : List Cond} (h : (L.filter goodWord).all (fun w => lw_tbl.contains w && goodWord w) = true) : ∀ w ∈ L.filter goodWord, w ∈ GW := fun w hw => by
  have h1 := List.all_eq_true.mp h w hw
  rw [Bool.and_eq_true] at h1
  exact List.mem_filter.mpr ⟨List.contains_iff_mem.mp h1.1, h1.2⟩
theorem thE {L : List Cond} {l : List Cond} (h : (L.filter (fun w => !goodWord w)).all (fun w => l.contains w) = true) : ∀ w ∈ L.filter (fun w => !goodWord w), w ∈ l := fun w hw => List.contains_iff_mem.mp (List.all_eq_true.mp h w hw)
theorem thO {L : List Cond} (h : L.all vx_ot = true) : ∀ w ∈ L, vx_ot w = true := fun w hw => List.all_eq_true.mp h w hw
theorem thI_push : xThI mX11_push 13 xIAE "no such piece" 147 149 151 false := ⟨by decide +kernel, by decide +kernel, by decide +kernel, by decide +kernel, by decide +kernel, xw1 (by decide +kernel), xw1 (by decide +kernel), thG (by decide +kernel), thE (by decide +kernel), thO (by decide +kernel), by decide +kernel⟩
theorem thI_rest : xThI mX11_rest 14 xIAE "no such lean" 147 158 151 false := ⟨by decide +kernel, by decide +kernel, by decide +kernel, by decide +kernel, by decide +kernel, xw1 (by decide +kernel), xw1 (by decide +kernel), thG (by decide +kernel), thE (by decide +kernel), thO (by decide +kernel), by decide +kernel⟩
theorem thI_el1 : xThI mX11_element 10 xIAE "no such shelf" 147 382 151 true := ⟨by decide +kernel, by decide +kernel, by decide +kernel, by decide +kernel, by decide +kernel, xw1 (by decide +kernel), xw1 (by decide +kernel), thG (by decide +kernel), thE (by decide +kernel), thO (by decide +kernel), by decide +kernel⟩
theorem thI_el2 : xThI mX11_element 38 xISE "no row, or no such place" 384 386 388 true := ⟨by decide +kernel, by decide +kernel, by decide +kernel, by decide +kernel, by decide +kernel, xw1 (by decide +kernel), xw1 (by decide +kernel), thG (by decide +kernel), thE (by decide +kernel), thO (by decide +kernel), by decide +kernel⟩
set_option maxRecDepth 4000 in
theorem t_push {κ : xKK} {M : xM} (hl : κ.1.stackTraces = false) {np : Nat} (hn : gI M 1 1 = nI np) (hn2 : np ≤ 10) (hsh : ∀ i, i < np → 0 ≤ (cSh M 1 (6 + i)).toInt ∧ (cSh M 1 (6 + i)).toInt < 5) {i : Int32} : xTv κ mX11_push (20, 1, 6) [.ref 0, .int i] M (fun v M' => ∃ j, j < np ∧ i = nI j ∧ v = cPu M 1 (6 + j) ∧ M' = M) (fun E M' => E = xIAE ∧ ¬ (∃ j, j < np ∧ i = nI j) ∧ M' = M) := by
  refine xTv_of hl ci_X11_push cl_X11_push cw_X11_push ⟨by decide, by decide, by decide⟩ rfl (L := [some (.ref 0), some (.int i), none]) rfl ?_
  refine xG_wid ?_
  refine xG_run 3 rfl (by repeat' (first | exact trivial | assumption | exact xob_b rfl | exact xal_b rfl | (apply And.intro) | decide)) ?_
  try dsimp only [xsto1, xsto2, xkill, xget, xset, gd_0, gd_s]
  refine xG_c2 1 rfl (by repeat' (first | exact trivial | assumption | exact xob_b rfl | exact xal_b rfl | (apply And.intro) | decide)) rfl rfl (by decide) cw_X1_pieceAt (d' := 19) (e_pieceAt hn hn2) (by omega) ?_
  rintro v M' ⟨hv, hM⟩
  subst M'
  rcases hv with ⟨rfl, hnp⟩ | ⟨p, hp, hip, rfl⟩
  · dsimp only [Option.toList, List.cons_append, List.nil_append]
    refine xG_run 3 rfl (by repeat' (first | exact trivial | assumption | exact xob_b rfl | exact xal_b rfl | (apply And.intro) | decide)) ?_
    try dsimp only [xsto1, xsto2, xkill, xget, xset, gd_0, gd_s]
    exact r3_t thI_push (fun κ s h => ⟨h.2.2.2.1, h.2.2.1.1⟩) ⟨rfl, fun ⟨j9, a1, a2⟩ => hnp (by rw [a2]; exact inI a1 (by omega)), rfl⟩
  · dsimp only [Option.toList, List.cons_append, List.nil_append]
    have hxp : xob (6 + p) 3 182 := xob_p1 (by omega)
    refine xG_run 6 rfl (by repeat' (first | exact trivial | assumption | exact xob_b rfl | exact xal_b rfl | (apply And.intro) | decide)) ?_
    try dsimp only [xsto1, xsto2, xkill, xget, xset, gd_0, gd_s]
    refine xG_c2 1 rfl (by repeat' (first | exact trivial | assumption | exact xob_b rfl | exact xal_b rfl | (apply And.intro) | decide)) rfl rfl (by decide) cw_X1_pushOn (d' := 19) (e_pushOn1 (by omega) (hsh p hp).1 (hsh p hp).2 (by omega)) (by omega) ?_
    rintro v M' ⟨rfl, hM⟩
    subst M'
    dsimp only [Option.toList, List.cons_append, List.nil_append]
    refine r3_l rfl rfl ?_
    exact ⟨p, hp, hip, rfl, rfl⟩
set_option maxRecDepth 4000 in
theorem t_rest {κ : xKK} {M : xM} (hl : κ.1.stackTraces = false) {np : Nat} (hn : gI M 1 1 = nI np) (hn2 : np ≤ 10) {nr : Nat} (hr : gI M 1 3 = nI nr) (hr2 : nr ≤ 12) (hsh : ∀ i, i < np → 0 ≤ (cSh M 1 (6 + i)).toInt ∧ (cSh M 1 (6 + i)).toInt < 5) {i : Int32} : xTv κ mX11_rest (20, 1, 6) [.ref 0, .int i] M (fun v M' => -300 ≤ i ∧ i ≤ 300 ∧ v = cAll M 1 np nr i ∧ bFr M M') (fun E M' => E = xIAE ∧ ¬ (-300 ≤ i ∧ i ≤ 300) ∧ M' = M) := by
  refine xTv_of hl ci_X11_rest cl_X11_rest cw_X11_rest ⟨by decide, by decide, by decide⟩ rfl (L := [some (.ref 0), some (.int i)]) rfl ?_
  refine xG_wid ?_
  refine xG_run 2 rfl (by repeat' (first | exact trivial | assumption | exact xob_b rfl | exact xal_b rfl | (apply And.intro) | decide)) ?_
  try dsimp only [xsto1, xsto2, xkill, xget, xset, gd_0, gd_s]
  refine xG_br rfl (fun h4 => ?_) (fun h4 => ?_)
  · exact r3_t thI_rest (fun κ s h => ⟨h.2.2.2.2.1, h.2.2.1.1⟩) ⟨rfl, fun q => by first | exact i_nlt q.1 h4 | exact h11 q.2, rfl⟩
  · refine xG_run 2 rfl (by repeat' (first | exact trivial | assumption | exact xob_b rfl | exact xal_b rfl | (apply And.intro) | decide)) ?_
    try dsimp only [xsto1, xsto2, xkill, xget, xset, gd_0, gd_s]
    refine xG_br rfl (fun h11 => ?_) (fun h11 => ?_)
    · refine xG_run 6 rfl (by repeat' (first | exact trivial | assumption | exact xob_b rfl | exact xal_b rfl | (apply And.intro) | decide)) ?_
      try dsimp only [xsto1, xsto2, xkill, xget, xset, gd_0, gd_s]
      refine xG_c2 3 rfl (by repeat' (first | exact trivial | assumption | exact xob_b rfl | exact xal_b rfl | (apply And.intro) | decide)) rfl rfl (by decide) cw_X0_load (d' := 19) (e_load1 hn hn2 hr hr2 hsh (by omega)) (by omega) ?_
      rintro v M1 ⟨pl, rl, c, e, rfl, hg, hpl, hrl, hs, ht, hB, hp, hB2⟩
      dsimp only [Option.toList, List.cons_append, List.nil_append]
      have hR : ∀ l : Int32, -300 ≤ l.toInt → l.toInt ≤ 300 → cRest M1 1 pl rl c e l = cAll M 1 np nr l := fun l a1 a2 => cRest_all (by omega) hn2 hr2 hB.1 hs ht hp hB2 a1 a2
      have b1 : -300 ≤ i.toInt := by have := Int32.le_iff_toInt_le.mp (Int32.not_lt.mp h4); exact this
      have b2 : i.toInt ≤ 300 := by have := Int32.le_iff_toInt_le.mp h11; exact this
      refine xG_run 3 rfl (by repeat' (first | exact trivial | assumption | exact xob_b rfl | exact xal_b rfl | (apply And.intro) | decide)) ?_
      try dsimp only [xsto1, xsto2, xkill, xget, xset, gd_0, gd_s]
      refine xG_c2 1 rfl (by repeat' (first | exact trivial | assumption | exact xob_b rfl | exact xal_b rfl | (apply And.intro) | decide)) rfl rfl (by decide) cw_X0_restAt (d' := 19) (e_restAt1 hg b1 b2 (by omega)) (by omega) ?_
      rintro v M' ⟨rfl, hM⟩
      subst M'
      dsimp only [Option.toList, List.cons_append, List.nil_append]
      refine r3_l rfl rfl ?_
      exact ⟨Int32.not_lt.mp h4, h11, hR i b1 b2, hB⟩
    · exact r3_t thI_rest (fun κ s h => ⟨h.2.2.2.2.1, h.2.2.1.1⟩) ⟨rfl, fun q => by first | exact i_nlt q.1 h4 | exact h11 q.2, rfl⟩
set_option maxRecDepth 4000 in
theorem t_element {κ : xKK} {M : xM} (hl : κ.1.stackTraces = false) (hz : ∀ j, j < 8 → ∃ z, z ≤ 120 ∧ gI M (142 + 3 * j) 3 = nI z) {i a : Int32} : xTv κ mX11_element (20, 1, 6) [.ref 0, .int i, .int a] M (fun v M' => ∃ j, j < 8 ∧ i = nI j ∧ (gI M (142 + 3 * j) 0 = 2 ∧ hsP M j a 1) ∧ v = (gI M (144 + 3 * j) a.toNatClampNeg).toInt64 ∧ M' = M) (fun E M' => ((E = xISE ∧ ∃ j, j < 8 ∧ i = nI j ∧ ¬ (gI M (142 + 3 * j) 0 = 2 ∧ hsP M j a 1)) ∨ (E = xIAE ∧ ¬ ∃ j, j < 8 ∧ i = nI j)) ∧ M' = M) := by
  refine xTv_of hl ci_X11_element cl_X11_element cw_X11_element ⟨by decide, by decide, by decide⟩ rfl (L := [some (.ref 0), some (.int i), some (.int a), none]) rfl ?_
  refine xG_wid ?_
  refine xG_run 2 rfl (by repeat' (first | exact trivial | assumption | exact xob_b rfl | exact xal_b rfl | (apply And.intro) | decide)) ?_
  try dsimp only [xsto1, xsto2, xkill, xget, xset, gd_0, gd_s]
  refine xG_c2 1 rfl (by repeat' (first | exact trivial | assumption | exact xob_b rfl | exact xal_b rfl | (apply And.intro) | decide)) rfl rfl (by decide) cw_X11_shelfAt (d' := 19) e_shelfAt (by omega) ?_
  rintro v M' ⟨hv, hM⟩
  subst M'
  rcases hv with ⟨rfl, hno⟩ | ⟨j, hj, hij, rfl⟩
  · dsimp only [Option.toList, List.cons_append, List.nil_append]
    refine xG_run 3 rfl (by repeat' (first | exact trivial | assumption | exact xob_b rfl | exact xal_b rfl | (apply And.intro) | decide)) ?_
    try dsimp only [xsto1, xsto2, xkill, xget, xset, gd_0, gd_s]
    exact r3_t thI_el1 (fun κ s h => ⟨h.2.2.2.2.2.1, h.2.2.1.1⟩) ⟨Or.inr ⟨rfl, fun ⟨j9, a1, a2⟩ => hno (by rw [a2]; exact inI a1 (by omega))⟩, rfl⟩
  · dsimp only [Option.toList, List.cons_append, List.nil_append]
    have hxj : xob (142 + 3 * j) 8 182 := xob_sh hj
    have hspj : xob (143 + 3 * j) 3 182 := xob_sp hj
    refine xG_run 6 rfl (by repeat' (first | exact trivial | assumption | exact xob_b rfl | exact xal_b rfl | (apply And.intro) | decide)) ?_
    try dsimp only [xsto1, xsto2, xkill, xget, xset, gd_0, gd_s]
    refine xG_br rfl (fun h26 => ?_) (fun h26 => ?_)
    · exact r3_t thI_el2 (fun κ s h => ⟨h.2.2.2.2.2.2, h.2.2.1.2.1⟩) ⟨Or.inl ⟨rfl, j, hj, hij, fun q => by first | exact h26 q.1 | exact b35 q.2⟩, rfl⟩
    · refine xG_run 3 rfl (by repeat' (first | exact trivial | assumption | exact xob_b rfl | exact xal_b rfl | (apply And.intro) | decide)) ?_
      try dsimp only [xsto1, xsto2, xkill, xget, xset, gd_0, gd_s]
      refine xG_c2 2 rfl (by repeat' (first | exact trivial | assumption | exact xob_b rfl | exact xal_b rfl | (apply And.intro) | decide)) rfl rfl (by decide) cw_X8_hasSpan (d' := 19) (e_hasSpan hj) (by omega) ?_
      rintro v M' ⟨rfl, hM⟩
      subst M'
      dsimp only [Option.toList, List.cons_append, List.nil_append]
      refine xG_br rfl (fun h35 => ?_) (fun h35 => ?_)
      · have b35 := z1.mp h35
        obtain ⟨z, hz1, hz2⟩ := hz j hj
        have hs := hs_1 hj b35 hz2 hz1
        refine xG_run 2 rfl (by repeat' (first | exact trivial | assumption | exact xob_b rfl | exact xal_b rfl | (apply And.intro) | decide)) ?_
        try dsimp only [xsto1, xsto2, xkill, xget, xset, gd_0, gd_s]
        rw [sh_el hj]
        refine xG_run 3 rfl (by repeat' (first | exact trivial | assumption | exact xob_b rfl | exact xal_b rfl | (apply And.intro) | decide)) ?_
        try dsimp only [xsto1, xsto2, xkill, xget, xset, gd_0, gd_s]
        refine r3_l rfl rfl ?_
        exact ⟨j, hj, hij, ⟨by first | exact h26 | exact Decidable.not_not.mp h26, b35⟩, rfl, rfl⟩
      · have b35 := z0.mp (Decidable.not_not.mp h35)
        exact r3_t thI_el2 (fun κ s h => ⟨h.2.2.2.2.2.2, h.2.2.1.2.1⟩) ⟨Or.inl ⟨rfl, j, hj, hij, fun q => by first | exact h26 q.1 | exact b35 q.2⟩, rfl⟩
