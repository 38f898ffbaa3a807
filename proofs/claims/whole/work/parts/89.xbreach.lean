/-! ===== lookAround, leastHolding, breach, climb of the class ===== -/
set_option maxRecDepth 4000 in
theorem e_lookAround {κ : xKK} {d : Nat} {M : xM} {np nr ng : Nat} {R : xM} (hm : mR M 1 R 167 np nr ng) (hj0 : gJ R 166 18 = 0) {hour : Int32} (hd : 7 ≤ d) : xE2 κ mX11_lookAround d [.ref 0, .int hour] M (fun v M' => v = none ∧ kFr M M' ∧ ∀ p i, i < 6 → gI M' 131 i = fct R np nr p hour i) := by
  refine xE2_of ci_X11_lookAround cl_X11_lookAround cw_X11_lookAround rfl (L := [some (.ref 0), some (.int hour), none, none]) rfl ?_
  have hn := hm.2.1.1
  have hn2 := hm.1.1
  have hr := hm.2.2.1.1
  have hr2 := hm.1.2.1
  have hsh : ∀ i, i < np → 0 ≤ (cSh M 1 (6 + i)).toInt ∧ (cSh M 1 (6 + i)).toInt < 5 := fun i hi => r_sh hm hi
  have hL : stN (cAll M 1 np nr) 300 = rSt R np nr := q_St hm hj0 (by omega)
  have hx0 : xar 131 0 182 0 := xar_n (j := 0) rfl 8 rfl (by omega) (by omega)
  have hx1 : xar 131 0 182 1 := xar_n (j := 1) rfl 8 rfl (by omega) (by omega)
  have hx2 : xar 131 0 182 2 := xar_n (j := 2) rfl 8 rfl (by omega) (by omega)
  have hx3 : xar 131 0 182 3 := xar_n (j := 3) rfl 8 rfl (by omega) (by omega)
  have hx4 : xar 131 0 182 4 := xar_n (j := 4) rfl 8 rfl (by omega) (by omega)
  have hx5 : xar 131 0 182 5 := xar_n (j := 5) rfl 8 rfl (by omega) (by omega)
  have hbi : ¬ rSt R np nr = 1000 → bi 300 (rSt R np nr) := fun h => by
    have := stN_bi (F := cAll M 1 np nr) (mo := 300) (by omega) (by rw [hL]; exact h)
    rw [hL] at this
    exact this
  have hc0 : (0 : Int32).toNatClampNeg = 0 := rfl
  have hc1 : (1 : Int32).toNatClampNeg = 1 := rfl
  have hc2 : (2 : Int32).toNatClampNeg = 2 := rfl
  have hc3 : (3 : Int32).toNatClampNeg = 3 := rfl
  have hc4 : (4 : Int32).toNatClampNeg = 4 := rfl
  have hc5 : (5 : Int32).toNatClampNeg = 5 := rfl
  have hice : ∀ N, kFr M N → iSum (fun j => gI N (6 + j) 6) np = iSum (fun j => rs R j 5) np := fun N f => iSum_cong (fun k hk => (f.1 _ _ (by omega)).trans ((r_p hm hk).1 5 (by omega)))
  have hwho : ∀ N, kFr M N → nI nr - iSum (fun j => if gI N (16 + j) 5 = 0 then (1 : Int32) else 0) nr = iSum (fun r => if rr R r 5 = 0 then (0 : Int32) else 1) nr := fun N f => by
    rw [iS_sub (fun k hk => (Decidable.em (gI N (16 + k) 5 = 0)).elim (fun c => Or.inr (if_pos c)) (fun c => Or.inl (if_neg c))) (by omega)]
    refine iSum_cong (fun k hk => ?_)
    have e : gI N (16 + k) 5 = rr R k 5 := (f.1 _ _ (by omega)).trans ((r_q hm hk).1 5 (by omega))
    rw [e]
    by_cases c : rr R k 5 = 0
    · rw [if_pos c, if_pos rfl, if_pos c]
    · rw [if_neg c, if_neg (by decide), if_neg c]
  have hlo : ∀ N l, kFr M N → bi 300 l → bC (cLo N l nr) = bC (rLo R l nr) := fun N l f hl => by rw [cLo_q (mR_k hm f) hl nr (Nat.le_refl nr)]
  refine xG_run 1 rfl (by repeat' (first | exact trivial | assumption | exact xob_b rfl | exact xal_b rfl | (apply And.intro) | decide)) ?_
  try dsimp only [xsto1, xsto2, xkill, xget, xset, gd_0, gd_s]
  try simp (disch := omega) only [g_ne]
  refine xG_c2 0 rfl (by repeat' (first | exact trivial | assumption | exact xob_b rfl | exact xal_b rfl | (apply And.intro) | decide)) rfl rfl (by decide) cw_X11_leanNow (d' := d - 1) (e_leanNow hn hn2 hr hr2 hsh (by omega)) (by omega) ?_
  rintro v M1 ⟨rfl, hB1⟩
  rw [hL]
  have hk1 := kFr_b hB1
  have hsp : gI M1 1 5 = gI R 167 1648 := (hk1.1 _ _ (by omega)).trans hm.2.2.2.2.2.1.1
  have hr1 : gI M1 1 3 = nI nr := (hk1.1 _ _ (by omega)).trans hr
  have hw3 : ∀ a b c e f g, nI nr - iSum (fun j => if gI (sI (sI (sI M1 131 a b) 131 c e) 131 f g) (16 + j) 5 = 0 then (1 : Int32) else 0) nr = iSum (fun r => if rr R r 5 = 0 then (0 : Int32) else 1) nr := fun a b c e f g => hwho _ (kFr_t (kFr_t (kFr_t hk1 (kFr_i (by omega))) (kFr_i (by omega))) (kFr_i (by omega)))
  dsimp only [Option.toList, List.cons_append, List.nil_append]
  refine xG_run 8 rfl (by repeat' (first | exact trivial | assumption | exact xob_b rfl | exact xal_b rfl | (apply And.intro) | decide)) ?_
  try dsimp only [xsto1, xsto2, xkill, xget, xset, gd_0, gd_s]
  try simp (disch := omega) only [g_ne]
  refine xG_run 2 rfl (by repeat' (first | exact trivial | assumption | exact xob_b rfl | exact xal_b rfl | (apply And.intro) | decide)) ?_
  try dsimp only [xsto1, xsto2, xkill, xget, xset, gd_0, gd_s]
  try simp (disch := omega) only [g_ne]
  rw [hsp]
  refine xG_run 5 rfl (by repeat' (first | exact trivial | assumption | exact xob_b rfl | exact xal_b rfl | (apply And.intro) | decide)) ?_
  try dsimp only [xsto1, xsto2, xkill, xget, xset, gd_0, gd_s]
  try simp (disch := omega) only [g_ne]
  refine xG_br rfl (fun h29 => ?_) (fun h29 => ?_)
  · refine xG_run 6 rfl (by repeat' (first | exact trivial | assumption | exact xob_b rfl | exact xal_b rfl | (apply And.intro) | decide)) ?_
    try dsimp only [xsto1, xsto2, xkill, xget, xset, gd_0, gd_s]
    try simp (disch := omega) only [g_ne]
    refine xG_c2 0 rfl (by repeat' (first | exact trivial | assumption | exact xob_b rfl | exact xal_b rfl | (apply And.intro) | decide)) rfl rfl (by decide) cw_X1_allIce (d' := d - 1) (e_allIce (np := np) (((kFr_t (kFr_t hk1 (kFr_i (by omega))) (kFr_i (by omega))).1 _ _ (by omega)).trans hn) hn2) (by omega) ?_
    rintro v N ⟨rfl, hN⟩
    subst N
    rw [hice _ (kFr_t (kFr_t hk1 (kFr_i (by omega))) (kFr_i (by omega)))]
    dsimp only [Option.toList, List.cons_append, List.nil_append]
    refine xG_run 8 rfl (by repeat' (first | exact trivial | assumption | exact xob_b rfl | exact xal_b rfl | (apply And.intro) | decide)) ?_
    try dsimp only [xsto1, xsto2, xkill, xget, xset, gd_0, gd_s]
    try simp (disch := omega) only [g_ne]
    refine xG_c2 0 rfl (by repeat' (first | exact trivial | assumption | exact xob_b rfl | exact xal_b rfl | (apply And.intro) | decide)) rfl rfl (by decide) cw_X1_wholeRopes (d' := d - 1) (e_wholeRopes (nr := nr) (((kFr_t (kFr_t (kFr_t hk1 (kFr_i (by omega))) (kFr_i (by omega))) (kFr_i (by omega))).1 _ _ (by omega)).trans hr) hr2) (by omega) ?_
    rintro v N ⟨rfl, hN⟩
    subst N
    dsimp only [Option.toList, List.cons_append, List.nil_append]
    refine xG_run 1 rfl (by repeat' (first | exact trivial | assumption | exact xob_b rfl | exact xal_b rfl | (apply And.intro) | decide)) ?_
    try dsimp only [xsto1, xsto2, xkill, xget, xset, gd_0, gd_s]
    try simp (disch := omega) only [g_ne]
    first | rw [hr1, hwho _ hk1] | rw [hr1, hw3]
    refine xG_run 5 rfl (by repeat' (first | exact trivial | assumption | exact xob_b rfl | exact xal_b rfl | (apply And.intro) | decide)) ?_
    try dsimp only [xsto1, xsto2, xkill, xget, xset, gd_0, gd_s]
    try simp (disch := omega) only [g_ne]
    refine xG_br rfl (fun h74 => ?_) (fun h74 => ?_)
    · first
        | (exfalso; first | exact h74 h29 | exact h29 h74 | exact h29 (Decidable.not_not.mp h74) | exact h74 (Decidable.not_not.mp h29))
        | (refine xG_run 3 rfl (by repeat' (first | exact trivial | assumption | exact xob_b rfl | exact xal_b rfl | (apply And.intro) | decide)) ?_
           try dsimp only [xsto1, xsto2, xkill, xget, xset, gd_0, gd_s]
           try simp (disch := omega) only [g_ne]
           refine xG_c2 1 rfl (by repeat' (first | exact trivial | assumption | exact xob_b rfl | exact xal_b rfl | (apply And.intro) | decide)) rfl rfl (by decide) cw_X1_looseAt (d' := d - 1) (e_looseAt (nr := nr) (((kFr_t (kFr_t (kFr_t (kFr_t hk1 (kFr_i (by omega))) (kFr_i (by omega))) (kFr_i (by omega))) (kFr_i (by omega))).1 _ _ (by omega)).trans hr) hr2 (by omega)) (by omega) ?_
           rintro v N ⟨rfl, hN⟩
           subst N
           dsimp only [Option.toList, List.cons_append, List.nil_append]
           refine xG_c2 1 rfl (by repeat' (first | exact trivial | assumption | exact xob_b rfl | exact xal_b rfl | (apply And.intro) | decide)) rfl rfl (by decide) cw_J6_bitCount_0f7a4 (d' := d - 1) e_bitCount (by omega) ?_
           rintro v N ⟨rfl, hN⟩
           subst N
           rw [hlo _ _ (kFr_t (kFr_t (kFr_t (kFr_t hk1 (kFr_i (by omega))) (kFr_i (by omega))) (kFr_i (by omega))) (kFr_i (by omega))) (hbi h74)]
           dsimp only [Option.toList, List.cons_append, List.nil_append]
           refine xG_run 5 rfl (by repeat' (first | exact trivial | assumption | exact xob_b rfl | exact xal_b rfl | (apply And.intro) | decide)) ?_
           try dsimp only [xsto1, xsto2, xkill, xget, xset, gd_0, gd_s]
           try simp (disch := omega) only [g_ne]
           refine r2_v rfl rfl ?_
           refine ⟨rfl, (kFr_t (kFr_t (kFr_t (kFr_t (kFr_t (kFr_t hk1 (kFr_i (by omega))) (kFr_i (by omega))) (kFr_i (by omega))) (kFr_i (by omega))) (kFr_i (by omega))) (kFr_i (by omega))), fun p i hi => ?_⟩
           rcases (show i = 0 ∨ i = 1 ∨ i = 2 ∨ i = 3 ∨ i = 4 ∨ i = 5 by omega) with rfl | rfl | rfl | rfl | rfl | rfl
           all_goals simp (disch := omega) only [hc0, hc1, hc2, hc3, hc4, hc5, gI_self, g_ne]
           all_goals first | exact (if_neg h29).symm | rfl)
    · first
        | (exfalso; first | exact h74 h29 | exact h29 h74 | exact h29 (Decidable.not_not.mp h74) | exact h74 (Decidable.not_not.mp h29))
        | (refine xG_run 7 rfl (by repeat' (first | exact trivial | assumption | exact xob_b rfl | exact xal_b rfl | (apply And.intro) | decide)) ?_
           try dsimp only [xsto1, xsto2, xkill, xget, xset, gd_0, gd_s]
           try simp (disch := omega) only [g_ne]
           refine r2_v rfl rfl ?_
           refine ⟨rfl, (kFr_t (kFr_t (kFr_t (kFr_t (kFr_t (kFr_t hk1 (kFr_i (by omega))) (kFr_i (by omega))) (kFr_i (by omega))) (kFr_i (by omega))) (kFr_i (by omega))) (kFr_i (by omega))), fun p i hi => ?_⟩
           rcases (show i = 0 ∨ i = 1 ∨ i = 2 ∨ i = 3 ∨ i = 4 ∨ i = 5 by omega) with rfl | rfl | rfl | rfl | rfl | rfl
           all_goals simp (disch := omega) only [hc0, hc1, hc2, hc3, hc4, hc5, gI_self, g_ne]
           all_goals first | exact (if_neg h29).symm | rfl)
  · refine xG_run 7 rfl (by repeat' (first | exact trivial | assumption | exact xob_b rfl | exact xal_b rfl | (apply And.intro) | decide)) ?_
    try dsimp only [xsto1, xsto2, xkill, xget, xset, gd_0, gd_s]
    try simp (disch := omega) only [g_ne]
    refine xG_c2 0 rfl (by repeat' (first | exact trivial | assumption | exact xob_b rfl | exact xal_b rfl | (apply And.intro) | decide)) rfl rfl (by decide) cw_X1_allIce (d' := d - 1) (e_allIce (np := np) (((kFr_t (kFr_t hk1 (kFr_i (by omega))) (kFr_i (by omega))).1 _ _ (by omega)).trans hn) hn2) (by omega) ?_
    rintro v N ⟨rfl, hN⟩
    subst N
    rw [hice _ (kFr_t (kFr_t hk1 (kFr_i (by omega))) (kFr_i (by omega)))]
    dsimp only [Option.toList, List.cons_append, List.nil_append]
    refine xG_run 8 rfl (by repeat' (first | exact trivial | assumption | exact xob_b rfl | exact xal_b rfl | (apply And.intro) | decide)) ?_
    try dsimp only [xsto1, xsto2, xkill, xget, xset, gd_0, gd_s]
    try simp (disch := omega) only [g_ne]
    refine xG_c2 0 rfl (by repeat' (first | exact trivial | assumption | exact xob_b rfl | exact xal_b rfl | (apply And.intro) | decide)) rfl rfl (by decide) cw_X1_wholeRopes (d' := d - 1) (e_wholeRopes (nr := nr) (((kFr_t (kFr_t (kFr_t hk1 (kFr_i (by omega))) (kFr_i (by omega))) (kFr_i (by omega))).1 _ _ (by omega)).trans hr) hr2) (by omega) ?_
    rintro v N ⟨rfl, hN⟩
    subst N
    dsimp only [Option.toList, List.cons_append, List.nil_append]
    refine xG_run 1 rfl (by repeat' (first | exact trivial | assumption | exact xob_b rfl | exact xal_b rfl | (apply And.intro) | decide)) ?_
    try dsimp only [xsto1, xsto2, xkill, xget, xset, gd_0, gd_s]
    try simp (disch := omega) only [g_ne]
    first | rw [hr1, hwho _ hk1] | rw [hr1, hw3]
    refine xG_run 5 rfl (by repeat' (first | exact trivial | assumption | exact xob_b rfl | exact xal_b rfl | (apply And.intro) | decide)) ?_
    try dsimp only [xsto1, xsto2, xkill, xget, xset, gd_0, gd_s]
    try simp (disch := omega) only [g_ne]
    refine xG_br rfl (fun h74 => ?_) (fun h74 => ?_)
    · first
        | (exfalso; first | exact h74 h29 | exact h29 h74 | exact h29 (Decidable.not_not.mp h74) | exact h74 (Decidable.not_not.mp h29))
        | (refine xG_run 3 rfl (by repeat' (first | exact trivial | assumption | exact xob_b rfl | exact xal_b rfl | (apply And.intro) | decide)) ?_
           try dsimp only [xsto1, xsto2, xkill, xget, xset, gd_0, gd_s]
           try simp (disch := omega) only [g_ne]
           refine xG_c2 1 rfl (by repeat' (first | exact trivial | assumption | exact xob_b rfl | exact xal_b rfl | (apply And.intro) | decide)) rfl rfl (by decide) cw_X1_looseAt (d' := d - 1) (e_looseAt (nr := nr) (((kFr_t (kFr_t (kFr_t (kFr_t hk1 (kFr_i (by omega))) (kFr_i (by omega))) (kFr_i (by omega))) (kFr_i (by omega))).1 _ _ (by omega)).trans hr) hr2 (by omega)) (by omega) ?_
           rintro v N ⟨rfl, hN⟩
           subst N
           dsimp only [Option.toList, List.cons_append, List.nil_append]
           refine xG_c2 1 rfl (by repeat' (first | exact trivial | assumption | exact xob_b rfl | exact xal_b rfl | (apply And.intro) | decide)) rfl rfl (by decide) cw_J6_bitCount_0f7a4 (d' := d - 1) e_bitCount (by omega) ?_
           rintro v N ⟨rfl, hN⟩
           subst N
           rw [hlo _ _ (kFr_t (kFr_t (kFr_t (kFr_t hk1 (kFr_i (by omega))) (kFr_i (by omega))) (kFr_i (by omega))) (kFr_i (by omega))) (hbi h74)]
           dsimp only [Option.toList, List.cons_append, List.nil_append]
           refine xG_run 5 rfl (by repeat' (first | exact trivial | assumption | exact xob_b rfl | exact xal_b rfl | (apply And.intro) | decide)) ?_
           try dsimp only [xsto1, xsto2, xkill, xget, xset, gd_0, gd_s]
           try simp (disch := omega) only [g_ne]
           refine r2_v rfl rfl ?_
           refine ⟨rfl, (kFr_t (kFr_t (kFr_t (kFr_t (kFr_t (kFr_t hk1 (kFr_i (by omega))) (kFr_i (by omega))) (kFr_i (by omega))) (kFr_i (by omega))) (kFr_i (by omega))) (kFr_i (by omega))), fun p i hi => ?_⟩
           rcases (show i = 0 ∨ i = 1 ∨ i = 2 ∨ i = 3 ∨ i = 4 ∨ i = 5 by omega) with rfl | rfl | rfl | rfl | rfl | rfl
           all_goals simp (disch := omega) only [hc0, hc1, hc2, hc3, hc4, hc5, gI_self, g_ne]
           all_goals first | exact (if_pos (Decidable.not_not.mp h29)).symm | rfl)
    · first
        | (exfalso; first | exact h74 h29 | exact h29 h74 | exact h29 (Decidable.not_not.mp h74) | exact h74 (Decidable.not_not.mp h29))
        | (refine xG_run 7 rfl (by repeat' (first | exact trivial | assumption | exact xob_b rfl | exact xal_b rfl | (apply And.intro) | decide)) ?_
           try dsimp only [xsto1, xsto2, xkill, xget, xset, gd_0, gd_s]
           try simp (disch := omega) only [g_ne]
           refine r2_v rfl rfl ?_
           refine ⟨rfl, (kFr_t (kFr_t (kFr_t (kFr_t (kFr_t (kFr_t hk1 (kFr_i (by omega))) (kFr_i (by omega))) (kFr_i (by omega))) (kFr_i (by omega))) (kFr_i (by omega))) (kFr_i (by omega))), fun p i hi => ?_⟩
           rcases (show i = 0 ∨ i = 1 ∨ i = 2 ∨ i = 3 ∨ i = 4 ∨ i = 5 by omega) with rfl | rfl | rfl | rfl | rfl | rfl
           all_goals simp (disch := omega) only [hc0, hc1, hc2, hc3, hc4, hc5, gI_self, g_ne]
           all_goals first | exact (if_pos (Decidable.not_not.mp h29)).symm | rfl)
