theorem gwo_11 : Cond.methodLink mX11_init.1.1 1 Lib.objectInit ∈ GW := xw1 (by decide +kernel)
theorem gwc_11_7 : Cond.classLink mX11_init.1.1 7 "MastWind$Mast" ∈ GW := xw1 (by decide +kernel)
theorem gwn_1 : Cond.instantiable "MastWind$Mast" 10 ∈ GW := xw1 (by decide +kernel)
theorem gwi_1 : Cond.initialized "MastWind$Mast" ∈ GW := xw1 (by decide +kernel)
theorem gwk_11_9 : Cond.methodLink mX11_init.1.1 9 mX1_init.1.2.1 ∈ GW := xw1 (by decide +kernel)
theorem gwc_11_19 : Cond.classLink mX11_init.1.1 19 "MastWind$Rules" ∈ GW := xw1 (by decide +kernel)
theorem gwn_7 : Cond.instantiable "MastWind$Rules" 4 ∈ GW := xw1 (by decide +kernel)
theorem gwi_7 : Cond.initialized "MastWind$Rules" ∈ GW := xw1 (by decide +kernel)
theorem gwc_11_26 : Cond.classLink mX11_init.1.1 26 "MastWind$Offers" ∈ GW := xw1 (by decide +kernel)
theorem gwn_2 : Cond.instantiable "MastWind$Offers" 4 ∈ GW := xw1 (by decide +kernel)
theorem gwi_2 : Cond.initialized "MastWind$Offers" ∈ GW := xw1 (by decide +kernel)
theorem gwc_11_42 : Cond.classLink mX11_init.1.1 42 "MastWind$Shelf" ∈ GW := xw1 (by decide +kernel)
theorem gwc_11_48 : Cond.classLink mX11_init.1.1 48 "MastWind$Balance" ∈ GW := xw1 (by decide +kernel)
theorem gwn_0 : Cond.instantiable "MastWind$Balance" 6 ∈ GW := xw1 (by decide +kernel)
theorem gwi_0 : Cond.initialized "MastWind$Balance" ∈ GW := xw1 (by decide +kernel)
theorem gwc_11_55 : Cond.classLink mX11_init.1.1 55 "MastWind$TextReader" ∈ GW := xw1 (by decide +kernel)
theorem gwn_10 : Cond.instantiable "MastWind$TextReader" 9 ∈ GW := xw1 (by decide +kernel)
theorem gwi_10 : Cond.initialized "MastWind$TextReader" ∈ GW := xw1 (by decide +kernel)
theorem gwc_11_62 : Cond.classLink mX11_init.1.1 62 "MastWind$RuleReader" ∈ GW := xw1 (by decide +kernel)
theorem gwn_6 : Cond.instantiable "MastWind$RuleReader" 10 ∈ GW := xw1 (by decide +kernel)
theorem gwi_6 : Cond.initialized "MastWind$RuleReader" ∈ GW := xw1 (by decide +kernel)
theorem gwc_11_69 : Cond.classLink mX11_init.1.1 69 "MastWind$Redraw" ∈ GW := xw1 (by decide +kernel)
theorem gwn_4 : Cond.instantiable "MastWind$Redraw" 8 ∈ GW := xw1 (by decide +kernel)
theorem gwi_4 : Cond.initialized "MastWind$Redraw" ∈ GW := xw1 (by decide +kernel)
theorem gwc_11_76 : Cond.classLink mX11_init.1.1 76 "MastWind$SwingCount" ∈ GW := xw1 (by decide +kernel)
theorem gwn_9 : Cond.instantiable "MastWind$SwingCount" 3 ∈ GW := xw1 (by decide +kernel)
theorem gwi_9 : Cond.initialized "MastWind$SwingCount" ∈ GW := xw1 (by decide +kernel)
theorem gwn_8 : Cond.instantiable "MastWind$Shelf" 5 ∈ GW := xw1 (by decide +kernel)
theorem gwi_8 : Cond.initialized "MastWind$Shelf" ∈ GW := xw1 (by decide +kernel)
/-- while the MastWind (cell 0) is made: the cells 1 .. n-1 are as at the end but the shelves' array (122); ks, qs: which references of 0 and of 122 stand -/
def Acc (M : xM) (ks qs : List Nat) (n : Nat) : Prop := (∀ x, 1 ≤ x → x < n → x ≠ 122 → fin' M x) ∧ (∀ k, gI M 0 k = 0 ∧ gJ M 0 k = 0) ∧ (∀ k ∈ ks, gP M 0 k = srf 0 k) ∧ (122 < n → ∀ k, gI M 122 k = 0 ∧ gJ M 122 k = 0) ∧ (122 < n → ∀ k ∈ qs, gP M 122 k = srf 122 k)
theorem sm_at {M M' : xM} {n : Nat} (h : same (zN M n) M' n) (x k : Nat) (hx : x < n) : gI M' x k = gI M x k ∧ gJ M' x k = gJ M x k ∧ gP M' x k = gP M x k := by
  obtain ⟨h1, h2, h3⟩ := h x k hx
  rw [gIzN, if_neg (by omega)] at h1
  rw [gJzN, if_neg (by omega)] at h2
  rw [gPzN, if_neg (by omega)] at h3
  exact ⟨h1, h2, h3⟩
theorem fin_sP {M : xM} {a j x : Nat} {v : Option Nat} (h : fin' M x) (hx : x ≠ a) : fin' (sP M a j v) x := ⟨h.1, h.2.1, fun k hk => by rw [gPsP, if_neg (by omega)]; exact h.2.2 k hk⟩
theorem fin_eq {M M' : xM} {x : Nat} (h : fin' M x) (e : ∀ k, gI M' x k = gI M x k ∧ gJ M' x k = gJ M x k ∧ gP M' x k = gP M x k) : fin' M' x := ⟨fun k => (e k).1.trans (h.1 k), fun k => (e k).2.1.trans (h.2.1 k), fun k hk => (e k).2.2.trans (h.2.2 k hk)⟩
theorem acc_m {M M' : xM} {ks qs : List Nat} {n n2 : Nat} (A : Acc M ks qs n) (sm : same (zN M n) M' n) (fn : ∀ x, n ≤ x → x < n2 → fin' M' x) (hn : 0 < n) (h122 : 122 < n ∨ n2 ≤ 122 ∨ 122 < n2) (hno : n ≤ 122 → n2 ≤ 122) : Acc M' ks qs n2 := by
  obtain ⟨a1, a2, a3, a4, a5⟩ := A
  refine ⟨fun x x1 x2 x3 => ?_, fun k => ?_, fun k hk => ?_, fun q k => ?_, fun q k hk => ?_⟩
  · by_cases hx : x < n
    · exact fin_eq (a1 x x1 hx x3) (fun k => sm_at sm x k hx)
    · exact fn x (by omega) x2
  · have := sm_at sm 0 k hn
    exact ⟨this.1.trans (a2 k).1, this.2.1.trans (a2 k).2⟩
  · exact (sm_at sm 0 k hn).2.2.trans (a3 k hk)
  · have := sm_at sm 122 k (by omega)
    exact ⟨this.1.trans (a4 (by omega) k).1, this.2.1.trans (a4 (by omega) k).2⟩
  · exact (sm_at sm 122 k (by omega)).2.2.trans (a5 (by omega) k hk)
theorem acc_0 {M : xM} {ks qs : List Nat} {n j c : Nat} (A : Acc M ks qs n) (hs : srf 0 j = some c) : Acc (sP M 0 j (some c)) (j :: ks) qs n := by
  obtain ⟨a1, a2, a3, a4, a5⟩ := A
  refine ⟨fun x x1 x2 x3 => fin_sP (a1 x x1 x2 x3) (by omega), a2, fun k hk => ?_, a4, fun q k hk => ?_⟩
  · rw [gPsP]
    by_cases h : k = j
    · rw [if_pos ⟨rfl, h⟩, h, hs]
    · rw [if_neg (fun q => h q.2)]
      rcases List.mem_cons.mp hk with q | q
      · exact absurd q h
      · exact a3 k q
  · rw [gPsP, if_neg (by omega)]; exact a5 q k hk
theorem acc_1 {M : xM} {ks qs : List Nat} {n j c : Nat} (A : Acc M ks qs n) (hs : srf 122 j = some c) : Acc (sP M 122 j (some c)) ks (j :: qs) n := by
  obtain ⟨a1, a2, a3, a4, a5⟩ := A
  refine ⟨fun x x1 x2 x3 => fin_sP (a1 x x1 x2 x3) x3, a2, fun k hk => ?_, a4, fun q k hk => ?_⟩
  · rw [gPsP, if_neg (by omega)]; exact a3 k hk
  · rw [gPsP]
    by_cases h : k = j
    · rw [if_pos ⟨rfl, h⟩, h, hs]
    · rw [if_neg (fun q => h q.2)]
      rcases List.mem_cons.mp hk with g | g
      · exact absurd g h
      · exact a5 q k g
theorem acc_z {M : xM} {ks : List Nat} (A : Acc M ks [] 122) : Acc (zN M 122) ks [] 123 := by
  obtain ⟨a1, a2, a3, a4, a5⟩ := A
  refine ⟨fun x x1 x2 x3 => fin_eq (a1 x x1 (by omega) x3) (fun k => ⟨by rw [gIzN, if_neg x3], by rw [gJzN, if_neg x3], by rw [gPzN, if_neg x3]⟩), fun k => ?_, fun k hk => ?_, fun _ k => ?_, fun _ k hk => absurd hk List.not_mem_nil⟩
  · rw [gIzN, if_neg (by omega), gJzN, if_neg (by omega)]; exact a2 k
  · rw [gPzN, if_neg (by omega)]; exact a3 k hk
  · rw [gIzN, if_pos rfl, gJzN, if_pos rfl]; exact ⟨rfl, rfl⟩
theorem acc_b {M : xM} (hb : bl M 0) : Acc M [] [] 1 := ⟨fun x x1 x2 _ => by omega, fun k => ⟨(hb k).1, (hb k).2.1⟩, fun k hk => absurd hk List.not_mem_nil, fun q => by omega, fun q => by omega⟩
theorem acc_e {M0 M : xM} (A : Acc M [13, 12, 11, 10, 9, 8, 6, 5, 4, 3, 2, 1, 0] [7, 6, 5, 4, 3, 2, 1, 0] 166) : cnP M0 0 166 none M 166 := by
  obtain ⟨a1, a2, a3, a4, a5⟩ := A
  refine ⟨rfl, rfl, fun x k hx => absurd hx (Nat.not_lt_zero _), fun x x1 x2 => ?_⟩
  by_cases h0 : x = 0
  · subst h0
    refine ⟨fun k => (a2 k).1, fun k => (a2 k).2, ?_⟩
    show ∀ k ∈ ([0, 1, 2, 3, 4, 5, 6, 8, 9, 10, 11, 12, 13] : List Nat), _
    exact fun k hk => a3 k (by simp only [List.mem_cons, List.not_mem_nil, or_false] at hk ⊢; omega)
  · by_cases h1 : x = 122
    · subst h1
      refine ⟨fun k => (a4 (by omega) k).1, fun k => (a4 (by omega) k).2, ?_⟩
      show ∀ k ∈ ([0, 1, 2, 3, 4, 5, 6, 7] : List Nat), _
      exact fun k hk => a5 (by omega) k (by simp only [List.mem_cons, List.not_mem_nil, or_false] at hk ⊢; omega)
    · exact a1 x (by omega) x2 h1
set_option maxRecDepth 8000 in
set_option maxHeartbeats 2000000 in
theorem k_X11_0 {κ : xKK} {M : xM} (hb : bl M 0) : xEz κ mX11_init (2, 165, 5496) [.ref 0] M 1 (cnP M 0 166) := by
  refine xEz_of ci_X11_init cl_X11_init cw_X11_init rfl (L := [some (.ref 0), none]) rfl ?_
  have A := acc_b hb
  refine xGh_run 1 rfl (by repeat' (first | exact trivial | assumption | exact xob_b rfl | exact xal_b rfl | exact xar_b rfl _ rfl (by decide) (by decide) | (apply And.intro) | decide)) ?_
  try dsimp only [xsto1, xsto2, xkill, xget, xset, gd_0, gd_s]
  refine xGh_obj rfl gwo_11 rfl ?_
  refine xGh_run 1 rfl (by repeat' (first | exact trivial | assumption | exact xob_b rfl | exact xal_b rfl | exact xar_b rfl _ rfl (by decide) (by decide) | (apply And.intro) | decide)) ?_
  try dsimp only [xsto1, xsto2, xkill, xget, xset, gd_0, gd_s]
  refine xGh_new (n' := 2) (k1' := 1) (k2' := 10) (cid := 1) rfl rfl rfl rfl rfl gwc_11_7 gwn_1 gwi_1 rfl (by decide) (by decide) ?_
  refine xGh_run 1 rfl (by repeat' (first | exact trivial | assumption | exact xob_b rfl | exact xal_b rfl | exact xar_b rfl _ rfl (by decide) (by decide) | (apply And.intro) | decide)) ?_
  try dsimp only [xsto1, xsto2, xkill, xget, xset, gd_0, gd_s]
  refine xGh_init (my := mX1_init) (r' := (1, 26, 199)) rfl rfl rfl rfl rfl cw_X1_init gwk_11_9 rfl (k_X1_1 (bl_z _ _)) (fun _ h => h) ⟨by decide, by decide, by decide⟩ (fun v M' n' h => h.2.1) ?_
  rintro v M1 n' ⟨rfl, rfl, sm1, fn1⟩
  dsimp only [Option.toList, List.nil_append, Nat.reduceAdd]
  have A1 := acc_m A sm1 fn1 (by omega) (by omega) (by omega)
  have A := acc_0 (j := 0) (c := 1) A1 rfl
  clear sm1 fn1 A1
  refine xGh_run 2 rfl (by repeat' (first | exact trivial | assumption | exact xob_b rfl | exact xal_b rfl | exact xar_b rfl _ rfl (by decide) (by decide) | (apply And.intro) | decide)) ?_
  try dsimp only [xsto1, xsto2, xkill, xget, xset, gd_0, gd_s]
  refine xGh_new (n' := 29) (k1' := 28) (k2' := 219) (cid := 1) rfl rfl rfl rfl rfl gwc_11_7 gwn_1 gwi_1 rfl (by decide) (by decide) ?_
  refine xGh_run 1 rfl (by repeat' (first | exact trivial | assumption | exact xob_b rfl | exact xal_b rfl | exact xar_b rfl _ rfl (by decide) (by decide) | (apply And.intro) | decide)) ?_
  try dsimp only [xsto1, xsto2, xkill, xget, xset, gd_0, gd_s]
  refine xGh_init (my := mX1_init) (r' := (1, 26, 199)) rfl rfl rfl rfl rfl cw_X1_init gwk_11_9 rfl (k_X1_28 (bl_z _ _)) (fun _ h => h) ⟨by decide, by decide, by decide⟩ (fun v M' n' h => h.2.1) ?_
  rintro v M2 n' ⟨rfl, rfl, sm2, fn2⟩
  dsimp only [Option.toList, List.nil_append, Nat.reduceAdd]
  have A2 := acc_m A sm2 fn2 (by omega) (by omega) (by omega)
  have A := acc_0 (j := 1) (c := 28) A2 rfl
  clear sm2 fn2 A2
  refine xGh_run 2 rfl (by repeat' (first | exact trivial | assumption | exact xob_b rfl | exact xal_b rfl | exact xar_b rfl _ rfl (by decide) (by decide) | (apply And.intro) | decide)) ?_
  try dsimp only [xsto1, xsto2, xkill, xget, xset, gd_0, gd_s]
  refine xGh_new (n' := 56) (k1' := 55) (k2' := 422) (cid := 7) rfl rfl rfl rfl rfl gwc_11_19 gwn_7 gwi_7 rfl (by decide) (by decide) ?_
  refine xGh_run 1 rfl (by repeat' (first | exact trivial | assumption | exact xob_b rfl | exact xal_b rfl | exact xar_b rfl _ rfl (by decide) (by decide) | (apply And.intro) | decide)) ?_
  try dsimp only [xsto1, xsto2, xkill, xget, xset, gd_0, gd_s]
  refine xGh_initN (my := mX7_init) (r' := (0, 15, 1476)) rfl rfl rfl rfl rfl cw_X7_init (by decide +kernel) rfl (k_X7_55 (bl_z _ _)) (fun _ h => h) ⟨by decide, by decide, by decide⟩ (fun v M' n' h => h.2.1) ?_
  rintro v M3 n' ⟨rfl, rfl, sm3, fn3⟩
  dsimp only [Option.toList, List.nil_append, Nat.reduceAdd]
  have A3 := acc_m A sm3 fn3 (by omega) (by omega) (by omega)
  have A := acc_0 (j := 2) (c := 55) A3 rfl
  clear sm3 fn3 A3
  refine xGh_run 2 rfl (by repeat' (first | exact trivial | assumption | exact xob_b rfl | exact xal_b rfl | exact xar_b rfl _ rfl (by decide) (by decide) | (apply And.intro) | decide)) ?_
  try dsimp only [xsto1, xsto2, xkill, xget, xset, gd_0, gd_s]
  refine xGh_new (n' := 72) (k1' := 71) (k2' := 1902) (cid := 2) rfl rfl rfl rfl rfl gwc_11_26 gwn_2 gwi_2 rfl (by decide) (by decide) ?_
  refine xGh_run 1 rfl (by repeat' (first | exact trivial | assumption | exact xob_b rfl | exact xal_b rfl | exact xar_b rfl _ rfl (by decide) (by decide) | (apply And.intro) | decide)) ?_
  try dsimp only [xsto1, xsto2, xkill, xget, xset, gd_0, gd_s]
  refine xGh_initN (my := mX2_init) (r' := (0, 3, 24)) rfl rfl rfl rfl rfl cw_X2_init (by decide +kernel) rfl (k_X2_71 (bl_z _ _)) (fun _ h => h) ⟨by decide, by decide, by decide⟩ (fun v M' n' h => h.2.1) ?_
  rintro v M4 n' ⟨rfl, rfl, sm4, fn4⟩
  dsimp only [Option.toList, List.nil_append, Nat.reduceAdd]
  have A4 := acc_m A sm4 fn4 (by omega) (by omega) (by omega)
  have A := acc_0 (j := 3) (c := 71) A4 rfl
  clear sm4 fn4 A4
  refine xGh_run 2 rfl (by repeat' (first | exact trivial | assumption | exact xob_b rfl | exact xal_b rfl | exact xar_b rfl _ rfl (by decide) (by decide) | (apply And.intro) | decide)) ?_
  try dsimp only [xsto1, xsto2, xkill, xget, xset, gd_0, gd_s]
  refine xGh_new (n' := 76) (k1' := 75) (k2' := 1936) (cid := 1) rfl rfl rfl rfl rfl gwc_11_7 gwn_1 gwi_1 rfl (by decide) (by decide) ?_
  refine xGh_run 1 rfl (by repeat' (first | exact trivial | assumption | exact xob_b rfl | exact xal_b rfl | exact xar_b rfl _ rfl (by decide) (by decide) | (apply And.intro) | decide)) ?_
  try dsimp only [xsto1, xsto2, xkill, xget, xset, gd_0, gd_s]
  refine xGh_init (my := mX1_init) (r' := (1, 26, 199)) rfl rfl rfl rfl rfl cw_X1_init gwk_11_9 rfl (k_X1_75 (bl_z _ _)) (fun _ h => h) ⟨by decide, by decide, by decide⟩ (fun v M' n' h => h.2.1) ?_
  rintro v M5 n' ⟨rfl, rfl, sm5, fn5⟩
  dsimp only [Option.toList, List.nil_append, Nat.reduceAdd]
  have A5 := acc_m A sm5 fn5 (by omega) (by omega) (by omega)
  have A := acc_0 (j := 4) (c := 75) A5 rfl
  clear sm5 fn5 A5
  refine xGh_run 2 rfl (by repeat' (first | exact trivial | assumption | exact xob_b rfl | exact xal_b rfl | exact xar_b rfl _ rfl (by decide) (by decide) | (apply And.intro) | decide)) ?_
  try dsimp only [xsto1, xsto2, xkill, xget, xset, gd_0, gd_s]
  refine xGh_new (n' := 103) (k1' := 102) (k2' := 2139) (cid := 7) rfl rfl rfl rfl rfl gwc_11_19 gwn_7 gwi_7 rfl (by decide) (by decide) ?_
  refine xGh_run 1 rfl (by repeat' (first | exact trivial | assumption | exact xob_b rfl | exact xal_b rfl | exact xar_b rfl _ rfl (by decide) (by decide) | (apply And.intro) | decide)) ?_
  try dsimp only [xsto1, xsto2, xkill, xget, xset, gd_0, gd_s]
  refine xGh_initN (my := mX7_init) (r' := (0, 15, 1476)) rfl rfl rfl rfl rfl cw_X7_init (by decide +kernel) rfl (k_X7_102 (bl_z _ _)) (fun _ h => h) ⟨by decide, by decide, by decide⟩ (fun v M' n' h => h.2.1) ?_
  rintro v M6 n' ⟨rfl, rfl, sm6, fn6⟩
  dsimp only [Option.toList, List.nil_append, Nat.reduceAdd]
  have A6 := acc_m A sm6 fn6 (by omega) (by omega) (by omega)
  have A := acc_0 (j := 5) (c := 102) A6 rfl
  clear sm6 fn6 A6
  refine xGh_run 2 rfl (by repeat' (first | exact trivial | assumption | exact xob_b rfl | exact xal_b rfl | exact xar_b rfl _ rfl (by decide) (by decide) | (apply And.intro) | decide)) ?_
  try dsimp only [xsto1, xsto2, xkill, xget, xset, gd_0, gd_s]
  refine xGh_new (n' := 119) (k1' := 118) (k2' := 3619) (cid := 2) rfl rfl rfl rfl rfl gwc_11_26 gwn_2 gwi_2 rfl (by decide) (by decide) ?_
  refine xGh_run 1 rfl (by repeat' (first | exact trivial | assumption | exact xob_b rfl | exact xal_b rfl | exact xar_b rfl _ rfl (by decide) (by decide) | (apply And.intro) | decide)) ?_
  try dsimp only [xsto1, xsto2, xkill, xget, xset, gd_0, gd_s]
  refine xGh_initN (my := mX2_init) (r' := (0, 3, 24)) rfl rfl rfl rfl rfl cw_X2_init (by decide +kernel) rfl (k_X2_118 (bl_z _ _)) (fun _ h => h) ⟨by decide, by decide, by decide⟩ (fun v M' n' h => h.2.1) ?_
  rintro v M7 n' ⟨rfl, rfl, sm7, fn7⟩
  dsimp only [Option.toList, List.nil_append, Nat.reduceAdd]
  have A7 := acc_m A sm7 fn7 (by omega) (by omega) (by omega)
  have A := acc_0 (j := 6) (c := 118) A7 rfl
  clear sm7 fn7 A7
  refine xGh_run 3 rfl (by repeat' (first | exact trivial | assumption | exact xob_b rfl | exact xal_b rfl | exact xar_b rfl _ rfl (by decide) (by decide) | (apply And.intro) | decide)) ?_
  try dsimp only [xsto1, xsto2, xkill, xget, xset, gd_0, gd_s]
  refine xGh_aa' (n' := 123) (k1' := 122) (k2' := 3651) (C := "MastWind$Shelf") rfl rfl rfl rfl rfl (Or.inr (Or.inr ⟨rfl, rfl⟩)) gwc_11_42 (fun _ h => h.2.2.1) (by decide) rfl (by decide) (by decide) (by decide) ?_
  have A := acc_0 (j := 8) (c := 122) (acc_z A) rfl
  refine xGh_run 2 rfl (by repeat' (first | exact trivial | assumption | exact xob_b rfl | exact xal_b rfl | exact xar_b rfl _ rfl (by decide) (by decide) | (apply And.intro) | decide)) ?_
  try dsimp only [xsto1, xsto2, xkill, xget, xset, gd_0, gd_s]
  refine xGh_new (n' := 124) (k1' := 123) (k2' := 3657) (cid := 0) rfl rfl rfl rfl rfl gwc_11_48 gwn_0 gwi_0 rfl (by decide) (by decide) ?_
  refine xGh_run 1 rfl (by repeat' (first | exact trivial | assumption | exact xob_b rfl | exact xal_b rfl | exact xar_b rfl _ rfl (by decide) (by decide) | (apply And.intro) | decide)) ?_
  try dsimp only [xsto1, xsto2, xkill, xget, xset, gd_0, gd_s]
  refine xGh_initN (my := mX0_init) (r' := (0, 3, 623)) rfl rfl rfl rfl rfl cw_X0_init (by decide +kernel) rfl (k_X0_123 (bl_z _ _)) (fun _ h => h) ⟨by decide, by decide, by decide⟩ (fun v M' n' h => h.2.1) ?_
  rintro v M8 n' ⟨rfl, rfl, sm8, fn8⟩
  dsimp only [Option.toList, List.nil_append, Nat.reduceAdd]
  have A8 := acc_m A sm8 fn8 (by omega) (by omega) (by omega)
  have A := acc_0 (j := 9) (c := 123) A8 rfl
  clear sm8 fn8 A8
  refine xGh_run 2 rfl (by repeat' (first | exact trivial | assumption | exact xob_b rfl | exact xal_b rfl | exact xar_b rfl _ rfl (by decide) (by decide) | (apply And.intro) | decide)) ?_
  try dsimp only [xsto1, xsto2, xkill, xget, xset, gd_0, gd_s]
  refine xGh_new (n' := 128) (k1' := 127) (k2' := 4289) (cid := 10) rfl rfl rfl rfl rfl gwc_11_55 gwn_10 gwi_10 rfl (by decide) (by decide) ?_
  refine xGh_run 1 rfl (by repeat' (first | exact trivial | assumption | exact xob_b rfl | exact xal_b rfl | exact xar_b rfl _ rfl (by decide) (by decide) | (apply And.intro) | decide)) ?_
  try dsimp only [xsto1, xsto2, xkill, xget, xset, gd_0, gd_s]
  refine xGh_initN (my := mX10_init) (r' := (0, 2, 5)) rfl rfl rfl rfl rfl cw_X10_init (by decide +kernel) rfl (k_X10_127 (bl_z _ _)) (fun _ h => h) ⟨by decide, by decide, by decide⟩ (fun v M' n' h => h.2.1) ?_
  rintro v M9 n' ⟨rfl, rfl, sm9, fn9⟩
  dsimp only [Option.toList, List.nil_append, Nat.reduceAdd]
  have A9 := acc_m A sm9 fn9 (by omega) (by omega) (by omega)
  have A := acc_0 (j := 10) (c := 127) A9 rfl
  clear sm9 fn9 A9
  refine xGh_run 2 rfl (by repeat' (first | exact trivial | assumption | exact xob_b rfl | exact xal_b rfl | exact xar_b rfl _ rfl (by decide) (by decide) | (apply And.intro) | decide)) ?_
  try dsimp only [xsto1, xsto2, xkill, xget, xset, gd_0, gd_s]
  refine xGh_new (n' := 131) (k1' := 130) (k2' := 4304) (cid := 6) rfl rfl rfl rfl rfl gwc_11_62 gwn_6 gwi_6 rfl (by decide) (by decide) ?_
  refine xGh_run 1 rfl (by repeat' (first | exact trivial | assumption | exact xob_b rfl | exact xal_b rfl | exact xar_b rfl _ rfl (by decide) (by decide) | (apply And.intro) | decide)) ?_
  try dsimp only [xsto1, xsto2, xkill, xget, xset, gd_0, gd_s]
  refine xGh_initN (my := mX6_init) (r' := (0, 5, 35)) rfl rfl rfl rfl rfl cw_X6_init (by decide +kernel) rfl (k_X6_130 (bl_z _ _)) (fun _ h => h) ⟨by decide, by decide, by decide⟩ (fun v M' n' h => h.2.1) ?_
  rintro v M10 n' ⟨rfl, rfl, sm10, fn10⟩
  dsimp only [Option.toList, List.nil_append, Nat.reduceAdd]
  have A10 := acc_m A sm10 fn10 (by omega) (by omega) (by omega)
  have A := acc_0 (j := 11) (c := 130) A10 rfl
  clear sm10 fn10 A10
  refine xGh_run 2 rfl (by repeat' (first | exact trivial | assumption | exact xob_b rfl | exact xal_b rfl | exact xar_b rfl _ rfl (by decide) (by decide) | (apply And.intro) | decide)) ?_
  try dsimp only [xsto1, xsto2, xkill, xget, xset, gd_0, gd_s]
  refine xGh_new (n' := 137) (k1' := 136) (k2' := 4347) (cid := 4) rfl rfl rfl rfl rfl gwc_11_69 gwn_4 gwi_4 rfl (by decide) (by decide) ?_
  refine xGh_run 1 rfl (by repeat' (first | exact trivial | assumption | exact xob_b rfl | exact xal_b rfl | exact xar_b rfl _ rfl (by decide) (by decide) | (apply And.intro) | decide)) ?_
  try dsimp only [xsto1, xsto2, xkill, xget, xset, gd_0, gd_s]
  refine xGh_initN (my := mX4_init) (r' := (0, 4, 82)) rfl rfl rfl rfl rfl cw_X4_init (by decide +kernel) rfl (k_X4_136 (bl_z _ _)) (fun _ h => h) ⟨by decide, by decide, by decide⟩ (fun v M' n' h => h.2.1) ?_
  rintro v M11 n' ⟨rfl, rfl, sm11, fn11⟩
  dsimp only [Option.toList, List.nil_append, Nat.reduceAdd]
  have A11 := acc_m A sm11 fn11 (by omega) (by omega) (by omega)
  have A := acc_0 (j := 12) (c := 136) A11 rfl
  clear sm11 fn11 A11
  refine xGh_run 2 rfl (by repeat' (first | exact trivial | assumption | exact xob_b rfl | exact xal_b rfl | exact xar_b rfl _ rfl (by decide) (by decide) | (apply And.intro) | decide)) ?_
  try dsimp only [xsto1, xsto2, xkill, xget, xset, gd_0, gd_s]
  refine xGh_new (n' := 142) (k1' := 141) (k2' := 4432) (cid := 9) rfl rfl rfl rfl rfl gwc_11_76 gwn_9 gwi_9 rfl (by decide) (by decide) ?_
  refine xGh_run 1 rfl (by repeat' (first | exact trivial | assumption | exact xob_b rfl | exact xal_b rfl | exact xar_b rfl _ rfl (by decide) (by decide) | (apply And.intro) | decide)) ?_
  try dsimp only [xsto1, xsto2, xkill, xget, xset, gd_0, gd_s]
  refine xGh_initN (my := mX9_init) (r' := (0, 0, 0)) rfl rfl rfl rfl rfl cw_X9_init (by decide +kernel) rfl (k_X9_141 (bl_z _ _)) (fun _ h => h) ⟨by decide, by decide, by decide⟩ (fun v M' n' h => h.2.1) ?_
  rintro v M12 n' ⟨rfl, rfl, sm12, fn12⟩
  dsimp only [Option.toList, List.nil_append, Nat.reduceAdd]
  have A12 := acc_m A sm12 fn12 (by omega) (by omega) (by omega)
  have A := acc_0 (j := 13) (c := 141) A12 rfl
  clear sm12 fn12 A12
  refine xGh_run 6 rfl (by repeat' (first | exact trivial | assumption | exact xob_b rfl | exact xal_b rfl | exact xar_b rfl _ rfl (by decide) (by decide) | (apply And.intro) | decide)) ?_
  try dsimp only [xsto1, xsto2, xkill, xget, xset, gd_0, gd_s]
  have hg : gP (sP M12 0 13 (some 141)) 0 8 = some 122 := A.2.2.1 8 (by decide)
  change xGh κ xAO _ _ (152, [some (.ref 0), some (.int 0)], xrf (gP (sP M12 0 13 (some 141)) 0 8) :: .int 0 :: [], (sP M12 0 13 (some 141)), 142, true, 141, 4432) _
  rw [hg]
  change xGh κ xAO _ _ (152, [some (.ref 0), some (.int 0)], .ref 122 :: .int 0 :: [], (sP M12 0 13 (some 141)), 142, true, 141, 4432) _
  refine xGh_run 1 rfl (by repeat' (first | exact trivial | assumption | exact xob_b rfl | exact xal_b rfl | exact xar_b rfl _ rfl (by decide) (by decide) | (apply And.intro) | decide)) ?_
  try dsimp only [xsto1, xsto2, xkill, xget, xset, gd_0, gd_s]
  refine xGh_brF rfl (by decide) ?_
  refine xGh_run 2 rfl (by repeat' (first | exact trivial | assumption | exact xob_b rfl | exact xal_b rfl | exact xar_b rfl _ rfl (by decide) (by decide) | (apply And.intro) | decide)) ?_
  try dsimp only [xsto1, xsto2, xkill, xget, xset, gd_0, gd_s]
  have hg : gP (sP M12 0 13 (some 141)) 0 8 = some 122 := A.2.2.1 8 (by decide)
  change xGh κ xAO _ _ (160, [some (.ref 0), some (.int 0)], xrf (gP (sP M12 0 13 (some 141)) 0 8) :: [], (sP M12 0 13 (some 141)), 142, true, 141, 4432) _
  rw [hg]
  change xGh κ xAO _ _ (160, [some (.ref 0), some (.int 0)], .ref 122 :: [], (sP M12 0 13 (some 141)), 142, true, 141, 4432) _
  refine xGh_run 1 rfl (by repeat' (first | exact trivial | assumption | exact xob_b rfl | exact xal_b rfl | exact xar_b rfl _ rfl (by decide) (by decide) | (apply And.intro) | decide)) ?_
  try dsimp only [xsto1, xsto2, xkill, xget, xset, gd_0, gd_s]
  refine xGh_new (n' := 143) (k1' := 142) (k2' := 4437) (cid := 8) rfl rfl rfl rfl rfl gwc_11_42 gwn_8 gwi_8 rfl (by decide) (by decide) ?_
  refine xGh_run 1 rfl (by repeat' (first | exact trivial | assumption | exact xob_b rfl | exact xal_b rfl | exact xar_b rfl _ rfl (by decide) (by decide) | (apply And.intro) | decide)) ?_
  try dsimp only [xsto1, xsto2, xkill, xget, xset, gd_0, gd_s]
  refine xGh_initN (my := mX8_init) (r' := (1, 2, 128)) rfl rfl rfl rfl rfl cw_X8_init (by decide +kernel) rfl (k_X8_142 (bl_z _ _)) (fun _ h => h) ⟨by decide, by decide, by decide⟩ (fun v M' n' h => h.2.1) ?_
  rintro v M13 n' ⟨rfl, rfl, sm13, fn13⟩
  dsimp only [Option.toList, List.nil_append, Nat.reduceAdd]
  have A13 := acc_m A sm13 fn13 (by omega) (by omega) (by omega)
  have A := acc_1 (j := 0) (c := 142) A13 rfl
  clear sm13 fn13 A13
  refine xGh_run 3 rfl (by repeat' (first | exact trivial | assumption | exact xob_b rfl | exact xal_b rfl | exact xar_b rfl _ rfl (by decide) (by decide) | (apply And.intro) | decide)) ?_
  try dsimp only [xsto1, xsto2, xkill, xget, xset, gd_0, gd_s]
  change xGh κ xAO _ _ (147, [some (.ref 0), some (.int 1)], [], sP M13 122 0 (some 142), 145, true, 144, 4565) _
  refine xGh_run 3 rfl (by repeat' (first | exact trivial | assumption | exact xob_b rfl | exact xal_b rfl | exact xar_b rfl _ rfl (by decide) (by decide) | (apply And.intro) | decide)) ?_
  try dsimp only [xsto1, xsto2, xkill, xget, xset, gd_0, gd_s]
  have hg : gP (sP M13 122 0 (some 142)) 0 8 = some 122 := A.2.2.1 8 (by decide)
  change xGh κ xAO _ _ (152, [some (.ref 0), some (.int 1)], xrf (gP (sP M13 122 0 (some 142)) 0 8) :: .int 1 :: [], (sP M13 122 0 (some 142)), 145, true, 144, 4565) _
  rw [hg]
  change xGh κ xAO _ _ (152, [some (.ref 0), some (.int 1)], .ref 122 :: .int 1 :: [], (sP M13 122 0 (some 142)), 145, true, 144, 4565) _
  refine xGh_run 1 rfl (by repeat' (first | exact trivial | assumption | exact xob_b rfl | exact xal_b rfl | exact xar_b rfl _ rfl (by decide) (by decide) | (apply And.intro) | decide)) ?_
  try dsimp only [xsto1, xsto2, xkill, xget, xset, gd_0, gd_s]
  refine xGh_brF rfl (by decide) ?_
  refine xGh_run 2 rfl (by repeat' (first | exact trivial | assumption | exact xob_b rfl | exact xal_b rfl | exact xar_b rfl _ rfl (by decide) (by decide) | (apply And.intro) | decide)) ?_
  try dsimp only [xsto1, xsto2, xkill, xget, xset, gd_0, gd_s]
  have hg : gP (sP M13 122 0 (some 142)) 0 8 = some 122 := A.2.2.1 8 (by decide)
  change xGh κ xAO _ _ (160, [some (.ref 0), some (.int 1)], xrf (gP (sP M13 122 0 (some 142)) 0 8) :: [], (sP M13 122 0 (some 142)), 145, true, 144, 4565) _
  rw [hg]
  change xGh κ xAO _ _ (160, [some (.ref 0), some (.int 1)], .ref 122 :: [], (sP M13 122 0 (some 142)), 145, true, 144, 4565) _
  refine xGh_run 1 rfl (by repeat' (first | exact trivial | assumption | exact xob_b rfl | exact xal_b rfl | exact xar_b rfl _ rfl (by decide) (by decide) | (apply And.intro) | decide)) ?_
  try dsimp only [xsto1, xsto2, xkill, xget, xset, gd_0, gd_s]
  refine xGh_new (n' := 146) (k1' := 145) (k2' := 4570) (cid := 8) rfl rfl rfl rfl rfl gwc_11_42 gwn_8 gwi_8 rfl (by decide) (by decide) ?_
  refine xGh_run 1 rfl (by repeat' (first | exact trivial | assumption | exact xob_b rfl | exact xal_b rfl | exact xar_b rfl _ rfl (by decide) (by decide) | (apply And.intro) | decide)) ?_
  try dsimp only [xsto1, xsto2, xkill, xget, xset, gd_0, gd_s]
  refine xGh_initN (my := mX8_init) (r' := (1, 2, 128)) rfl rfl rfl rfl rfl cw_X8_init (by decide +kernel) rfl (k_X8_145 (bl_z _ _)) (fun _ h => h) ⟨by decide, by decide, by decide⟩ (fun v M' n' h => h.2.1) ?_
  rintro v M14 n' ⟨rfl, rfl, sm14, fn14⟩
  dsimp only [Option.toList, List.nil_append, Nat.reduceAdd]
  have A14 := acc_m A sm14 fn14 (by omega) (by omega) (by omega)
  have A := acc_1 (j := 1) (c := 145) A14 rfl
  clear sm14 fn14 A14
  refine xGh_run 3 rfl (by repeat' (first | exact trivial | assumption | exact xob_b rfl | exact xal_b rfl | exact xar_b rfl _ rfl (by decide) (by decide) | (apply And.intro) | decide)) ?_
  try dsimp only [xsto1, xsto2, xkill, xget, xset, gd_0, gd_s]
  change xGh κ xAO _ _ (147, [some (.ref 0), some (.int 2)], [], sP M14 122 1 (some 145), 148, true, 147, 4698) _
  refine xGh_run 3 rfl (by repeat' (first | exact trivial | assumption | exact xob_b rfl | exact xal_b rfl | exact xar_b rfl _ rfl (by decide) (by decide) | (apply And.intro) | decide)) ?_
  try dsimp only [xsto1, xsto2, xkill, xget, xset, gd_0, gd_s]
  have hg : gP (sP M14 122 1 (some 145)) 0 8 = some 122 := A.2.2.1 8 (by decide)
  change xGh κ xAO _ _ (152, [some (.ref 0), some (.int 2)], xrf (gP (sP M14 122 1 (some 145)) 0 8) :: .int 2 :: [], (sP M14 122 1 (some 145)), 148, true, 147, 4698) _
  rw [hg]
  change xGh κ xAO _ _ (152, [some (.ref 0), some (.int 2)], .ref 122 :: .int 2 :: [], (sP M14 122 1 (some 145)), 148, true, 147, 4698) _
  refine xGh_run 1 rfl (by repeat' (first | exact trivial | assumption | exact xob_b rfl | exact xal_b rfl | exact xar_b rfl _ rfl (by decide) (by decide) | (apply And.intro) | decide)) ?_
  try dsimp only [xsto1, xsto2, xkill, xget, xset, gd_0, gd_s]
  refine xGh_brF rfl (by decide) ?_
  refine xGh_run 2 rfl (by repeat' (first | exact trivial | assumption | exact xob_b rfl | exact xal_b rfl | exact xar_b rfl _ rfl (by decide) (by decide) | (apply And.intro) | decide)) ?_
  try dsimp only [xsto1, xsto2, xkill, xget, xset, gd_0, gd_s]
  have hg : gP (sP M14 122 1 (some 145)) 0 8 = some 122 := A.2.2.1 8 (by decide)
  change xGh κ xAO _ _ (160, [some (.ref 0), some (.int 2)], xrf (gP (sP M14 122 1 (some 145)) 0 8) :: [], (sP M14 122 1 (some 145)), 148, true, 147, 4698) _
  rw [hg]
  change xGh κ xAO _ _ (160, [some (.ref 0), some (.int 2)], .ref 122 :: [], (sP M14 122 1 (some 145)), 148, true, 147, 4698) _
  refine xGh_run 1 rfl (by repeat' (first | exact trivial | assumption | exact xob_b rfl | exact xal_b rfl | exact xar_b rfl _ rfl (by decide) (by decide) | (apply And.intro) | decide)) ?_
  try dsimp only [xsto1, xsto2, xkill, xget, xset, gd_0, gd_s]
  refine xGh_new (n' := 149) (k1' := 148) (k2' := 4703) (cid := 8) rfl rfl rfl rfl rfl gwc_11_42 gwn_8 gwi_8 rfl (by decide) (by decide) ?_
  refine xGh_run 1 rfl (by repeat' (first | exact trivial | assumption | exact xob_b rfl | exact xal_b rfl | exact xar_b rfl _ rfl (by decide) (by decide) | (apply And.intro) | decide)) ?_
  try dsimp only [xsto1, xsto2, xkill, xget, xset, gd_0, gd_s]
  refine xGh_initN (my := mX8_init) (r' := (1, 2, 128)) rfl rfl rfl rfl rfl cw_X8_init (by decide +kernel) rfl (k_X8_148 (bl_z _ _)) (fun _ h => h) ⟨by decide, by decide, by decide⟩ (fun v M' n' h => h.2.1) ?_
  rintro v M15 n' ⟨rfl, rfl, sm15, fn15⟩
  dsimp only [Option.toList, List.nil_append, Nat.reduceAdd]
  have A15 := acc_m A sm15 fn15 (by omega) (by omega) (by omega)
  have A := acc_1 (j := 2) (c := 148) A15 rfl
  clear sm15 fn15 A15
  refine xGh_run 3 rfl (by repeat' (first | exact trivial | assumption | exact xob_b rfl | exact xal_b rfl | exact xar_b rfl _ rfl (by decide) (by decide) | (apply And.intro) | decide)) ?_
  try dsimp only [xsto1, xsto2, xkill, xget, xset, gd_0, gd_s]
  change xGh κ xAO _ _ (147, [some (.ref 0), some (.int 3)], [], sP M15 122 2 (some 148), 151, true, 150, 4831) _
  refine xGh_run 3 rfl (by repeat' (first | exact trivial | assumption | exact xob_b rfl | exact xal_b rfl | exact xar_b rfl _ rfl (by decide) (by decide) | (apply And.intro) | decide)) ?_
  try dsimp only [xsto1, xsto2, xkill, xget, xset, gd_0, gd_s]
  have hg : gP (sP M15 122 2 (some 148)) 0 8 = some 122 := A.2.2.1 8 (by decide)
  change xGh κ xAO _ _ (152, [some (.ref 0), some (.int 3)], xrf (gP (sP M15 122 2 (some 148)) 0 8) :: .int 3 :: [], (sP M15 122 2 (some 148)), 151, true, 150, 4831) _
  rw [hg]
  change xGh κ xAO _ _ (152, [some (.ref 0), some (.int 3)], .ref 122 :: .int 3 :: [], (sP M15 122 2 (some 148)), 151, true, 150, 4831) _
  refine xGh_run 1 rfl (by repeat' (first | exact trivial | assumption | exact xob_b rfl | exact xal_b rfl | exact xar_b rfl _ rfl (by decide) (by decide) | (apply And.intro) | decide)) ?_
  try dsimp only [xsto1, xsto2, xkill, xget, xset, gd_0, gd_s]
  refine xGh_brF rfl (by decide) ?_
  refine xGh_run 2 rfl (by repeat' (first | exact trivial | assumption | exact xob_b rfl | exact xal_b rfl | exact xar_b rfl _ rfl (by decide) (by decide) | (apply And.intro) | decide)) ?_
  try dsimp only [xsto1, xsto2, xkill, xget, xset, gd_0, gd_s]
  have hg : gP (sP M15 122 2 (some 148)) 0 8 = some 122 := A.2.2.1 8 (by decide)
  change xGh κ xAO _ _ (160, [some (.ref 0), some (.int 3)], xrf (gP (sP M15 122 2 (some 148)) 0 8) :: [], (sP M15 122 2 (some 148)), 151, true, 150, 4831) _
  rw [hg]
  change xGh κ xAO _ _ (160, [some (.ref 0), some (.int 3)], .ref 122 :: [], (sP M15 122 2 (some 148)), 151, true, 150, 4831) _
  refine xGh_run 1 rfl (by repeat' (first | exact trivial | assumption | exact xob_b rfl | exact xal_b rfl | exact xar_b rfl _ rfl (by decide) (by decide) | (apply And.intro) | decide)) ?_
  try dsimp only [xsto1, xsto2, xkill, xget, xset, gd_0, gd_s]
  refine xGh_new (n' := 152) (k1' := 151) (k2' := 4836) (cid := 8) rfl rfl rfl rfl rfl gwc_11_42 gwn_8 gwi_8 rfl (by decide) (by decide) ?_
  refine xGh_run 1 rfl (by repeat' (first | exact trivial | assumption | exact xob_b rfl | exact xal_b rfl | exact xar_b rfl _ rfl (by decide) (by decide) | (apply And.intro) | decide)) ?_
  try dsimp only [xsto1, xsto2, xkill, xget, xset, gd_0, gd_s]
  refine xGh_initN (my := mX8_init) (r' := (1, 2, 128)) rfl rfl rfl rfl rfl cw_X8_init (by decide +kernel) rfl (k_X8_151 (bl_z _ _)) (fun _ h => h) ⟨by decide, by decide, by decide⟩ (fun v M' n' h => h.2.1) ?_
  rintro v M16 n' ⟨rfl, rfl, sm16, fn16⟩
  dsimp only [Option.toList, List.nil_append, Nat.reduceAdd]
  have A16 := acc_m A sm16 fn16 (by omega) (by omega) (by omega)
  have A := acc_1 (j := 3) (c := 151) A16 rfl
  clear sm16 fn16 A16
  refine xGh_run 3 rfl (by repeat' (first | exact trivial | assumption | exact xob_b rfl | exact xal_b rfl | exact xar_b rfl _ rfl (by decide) (by decide) | (apply And.intro) | decide)) ?_
  try dsimp only [xsto1, xsto2, xkill, xget, xset, gd_0, gd_s]
  change xGh κ xAO _ _ (147, [some (.ref 0), some (.int 4)], [], sP M16 122 3 (some 151), 154, true, 153, 4964) _
  refine xGh_run 3 rfl (by repeat' (first | exact trivial | assumption | exact xob_b rfl | exact xal_b rfl | exact xar_b rfl _ rfl (by decide) (by decide) | (apply And.intro) | decide)) ?_
  try dsimp only [xsto1, xsto2, xkill, xget, xset, gd_0, gd_s]
  have hg : gP (sP M16 122 3 (some 151)) 0 8 = some 122 := A.2.2.1 8 (by decide)
  change xGh κ xAO _ _ (152, [some (.ref 0), some (.int 4)], xrf (gP (sP M16 122 3 (some 151)) 0 8) :: .int 4 :: [], (sP M16 122 3 (some 151)), 154, true, 153, 4964) _
  rw [hg]
  change xGh κ xAO _ _ (152, [some (.ref 0), some (.int 4)], .ref 122 :: .int 4 :: [], (sP M16 122 3 (some 151)), 154, true, 153, 4964) _
  refine xGh_run 1 rfl (by repeat' (first | exact trivial | assumption | exact xob_b rfl | exact xal_b rfl | exact xar_b rfl _ rfl (by decide) (by decide) | (apply And.intro) | decide)) ?_
  try dsimp only [xsto1, xsto2, xkill, xget, xset, gd_0, gd_s]
  refine xGh_brF rfl (by decide) ?_
  refine xGh_run 2 rfl (by repeat' (first | exact trivial | assumption | exact xob_b rfl | exact xal_b rfl | exact xar_b rfl _ rfl (by decide) (by decide) | (apply And.intro) | decide)) ?_
  try dsimp only [xsto1, xsto2, xkill, xget, xset, gd_0, gd_s]
  have hg : gP (sP M16 122 3 (some 151)) 0 8 = some 122 := A.2.2.1 8 (by decide)
  change xGh κ xAO _ _ (160, [some (.ref 0), some (.int 4)], xrf (gP (sP M16 122 3 (some 151)) 0 8) :: [], (sP M16 122 3 (some 151)), 154, true, 153, 4964) _
  rw [hg]
  change xGh κ xAO _ _ (160, [some (.ref 0), some (.int 4)], .ref 122 :: [], (sP M16 122 3 (some 151)), 154, true, 153, 4964) _
  refine xGh_run 1 rfl (by repeat' (first | exact trivial | assumption | exact xob_b rfl | exact xal_b rfl | exact xar_b rfl _ rfl (by decide) (by decide) | (apply And.intro) | decide)) ?_
  try dsimp only [xsto1, xsto2, xkill, xget, xset, gd_0, gd_s]
  refine xGh_new (n' := 155) (k1' := 154) (k2' := 4969) (cid := 8) rfl rfl rfl rfl rfl gwc_11_42 gwn_8 gwi_8 rfl (by decide) (by decide) ?_
  refine xGh_run 1 rfl (by repeat' (first | exact trivial | assumption | exact xob_b rfl | exact xal_b rfl | exact xar_b rfl _ rfl (by decide) (by decide) | (apply And.intro) | decide)) ?_
  try dsimp only [xsto1, xsto2, xkill, xget, xset, gd_0, gd_s]
  refine xGh_initN (my := mX8_init) (r' := (1, 2, 128)) rfl rfl rfl rfl rfl cw_X8_init (by decide +kernel) rfl (k_X8_154 (bl_z _ _)) (fun _ h => h) ⟨by decide, by decide, by decide⟩ (fun v M' n' h => h.2.1) ?_
  rintro v M17 n' ⟨rfl, rfl, sm17, fn17⟩
  dsimp only [Option.toList, List.nil_append, Nat.reduceAdd]
  have A17 := acc_m A sm17 fn17 (by omega) (by omega) (by omega)
  have A := acc_1 (j := 4) (c := 154) A17 rfl
  clear sm17 fn17 A17
  refine xGh_run 3 rfl (by repeat' (first | exact trivial | assumption | exact xob_b rfl | exact xal_b rfl | exact xar_b rfl _ rfl (by decide) (by decide) | (apply And.intro) | decide)) ?_
  try dsimp only [xsto1, xsto2, xkill, xget, xset, gd_0, gd_s]
  change xGh κ xAO _ _ (147, [some (.ref 0), some (.int 5)], [], sP M17 122 4 (some 154), 157, true, 156, 5097) _
  refine xGh_run 3 rfl (by repeat' (first | exact trivial | assumption | exact xob_b rfl | exact xal_b rfl | exact xar_b rfl _ rfl (by decide) (by decide) | (apply And.intro) | decide)) ?_
  try dsimp only [xsto1, xsto2, xkill, xget, xset, gd_0, gd_s]
  have hg : gP (sP M17 122 4 (some 154)) 0 8 = some 122 := A.2.2.1 8 (by decide)
  change xGh κ xAO _ _ (152, [some (.ref 0), some (.int 5)], xrf (gP (sP M17 122 4 (some 154)) 0 8) :: .int 5 :: [], (sP M17 122 4 (some 154)), 157, true, 156, 5097) _
  rw [hg]
  change xGh κ xAO _ _ (152, [some (.ref 0), some (.int 5)], .ref 122 :: .int 5 :: [], (sP M17 122 4 (some 154)), 157, true, 156, 5097) _
  refine xGh_run 1 rfl (by repeat' (first | exact trivial | assumption | exact xob_b rfl | exact xal_b rfl | exact xar_b rfl _ rfl (by decide) (by decide) | (apply And.intro) | decide)) ?_
  try dsimp only [xsto1, xsto2, xkill, xget, xset, gd_0, gd_s]
  refine xGh_brF rfl (by decide) ?_
  refine xGh_run 2 rfl (by repeat' (first | exact trivial | assumption | exact xob_b rfl | exact xal_b rfl | exact xar_b rfl _ rfl (by decide) (by decide) | (apply And.intro) | decide)) ?_
  try dsimp only [xsto1, xsto2, xkill, xget, xset, gd_0, gd_s]
  have hg : gP (sP M17 122 4 (some 154)) 0 8 = some 122 := A.2.2.1 8 (by decide)
  change xGh κ xAO _ _ (160, [some (.ref 0), some (.int 5)], xrf (gP (sP M17 122 4 (some 154)) 0 8) :: [], (sP M17 122 4 (some 154)), 157, true, 156, 5097) _
  rw [hg]
  change xGh κ xAO _ _ (160, [some (.ref 0), some (.int 5)], .ref 122 :: [], (sP M17 122 4 (some 154)), 157, true, 156, 5097) _
  refine xGh_run 1 rfl (by repeat' (first | exact trivial | assumption | exact xob_b rfl | exact xal_b rfl | exact xar_b rfl _ rfl (by decide) (by decide) | (apply And.intro) | decide)) ?_
  try dsimp only [xsto1, xsto2, xkill, xget, xset, gd_0, gd_s]
  refine xGh_new (n' := 158) (k1' := 157) (k2' := 5102) (cid := 8) rfl rfl rfl rfl rfl gwc_11_42 gwn_8 gwi_8 rfl (by decide) (by decide) ?_
  refine xGh_run 1 rfl (by repeat' (first | exact trivial | assumption | exact xob_b rfl | exact xal_b rfl | exact xar_b rfl _ rfl (by decide) (by decide) | (apply And.intro) | decide)) ?_
  try dsimp only [xsto1, xsto2, xkill, xget, xset, gd_0, gd_s]
  refine xGh_initN (my := mX8_init) (r' := (1, 2, 128)) rfl rfl rfl rfl rfl cw_X8_init (by decide +kernel) rfl (k_X8_157 (bl_z _ _)) (fun _ h => h) ⟨by decide, by decide, by decide⟩ (fun v M' n' h => h.2.1) ?_
  rintro v M18 n' ⟨rfl, rfl, sm18, fn18⟩
  dsimp only [Option.toList, List.nil_append, Nat.reduceAdd]
  have A18 := acc_m A sm18 fn18 (by omega) (by omega) (by omega)
  have A := acc_1 (j := 5) (c := 157) A18 rfl
  clear sm18 fn18 A18
  refine xGh_run 3 rfl (by repeat' (first | exact trivial | assumption | exact xob_b rfl | exact xal_b rfl | exact xar_b rfl _ rfl (by decide) (by decide) | (apply And.intro) | decide)) ?_
  try dsimp only [xsto1, xsto2, xkill, xget, xset, gd_0, gd_s]
  change xGh κ xAO _ _ (147, [some (.ref 0), some (.int 6)], [], sP M18 122 5 (some 157), 160, true, 159, 5230) _
  refine xGh_run 3 rfl (by repeat' (first | exact trivial | assumption | exact xob_b rfl | exact xal_b rfl | exact xar_b rfl _ rfl (by decide) (by decide) | (apply And.intro) | decide)) ?_
  try dsimp only [xsto1, xsto2, xkill, xget, xset, gd_0, gd_s]
  have hg : gP (sP M18 122 5 (some 157)) 0 8 = some 122 := A.2.2.1 8 (by decide)
  change xGh κ xAO _ _ (152, [some (.ref 0), some (.int 6)], xrf (gP (sP M18 122 5 (some 157)) 0 8) :: .int 6 :: [], (sP M18 122 5 (some 157)), 160, true, 159, 5230) _
  rw [hg]
  change xGh κ xAO _ _ (152, [some (.ref 0), some (.int 6)], .ref 122 :: .int 6 :: [], (sP M18 122 5 (some 157)), 160, true, 159, 5230) _
  refine xGh_run 1 rfl (by repeat' (first | exact trivial | assumption | exact xob_b rfl | exact xal_b rfl | exact xar_b rfl _ rfl (by decide) (by decide) | (apply And.intro) | decide)) ?_
  try dsimp only [xsto1, xsto2, xkill, xget, xset, gd_0, gd_s]
  refine xGh_brF rfl (by decide) ?_
  refine xGh_run 2 rfl (by repeat' (first | exact trivial | assumption | exact xob_b rfl | exact xal_b rfl | exact xar_b rfl _ rfl (by decide) (by decide) | (apply And.intro) | decide)) ?_
  try dsimp only [xsto1, xsto2, xkill, xget, xset, gd_0, gd_s]
  have hg : gP (sP M18 122 5 (some 157)) 0 8 = some 122 := A.2.2.1 8 (by decide)
  change xGh κ xAO _ _ (160, [some (.ref 0), some (.int 6)], xrf (gP (sP M18 122 5 (some 157)) 0 8) :: [], (sP M18 122 5 (some 157)), 160, true, 159, 5230) _
  rw [hg]
  change xGh κ xAO _ _ (160, [some (.ref 0), some (.int 6)], .ref 122 :: [], (sP M18 122 5 (some 157)), 160, true, 159, 5230) _
  refine xGh_run 1 rfl (by repeat' (first | exact trivial | assumption | exact xob_b rfl | exact xal_b rfl | exact xar_b rfl _ rfl (by decide) (by decide) | (apply And.intro) | decide)) ?_
  try dsimp only [xsto1, xsto2, xkill, xget, xset, gd_0, gd_s]
  refine xGh_new (n' := 161) (k1' := 160) (k2' := 5235) (cid := 8) rfl rfl rfl rfl rfl gwc_11_42 gwn_8 gwi_8 rfl (by decide) (by decide) ?_
  refine xGh_run 1 rfl (by repeat' (first | exact trivial | assumption | exact xob_b rfl | exact xal_b rfl | exact xar_b rfl _ rfl (by decide) (by decide) | (apply And.intro) | decide)) ?_
  try dsimp only [xsto1, xsto2, xkill, xget, xset, gd_0, gd_s]
  refine xGh_initN (my := mX8_init) (r' := (1, 2, 128)) rfl rfl rfl rfl rfl cw_X8_init (by decide +kernel) rfl (k_X8_160 (bl_z _ _)) (fun _ h => h) ⟨by decide, by decide, by decide⟩ (fun v M' n' h => h.2.1) ?_
  rintro v M19 n' ⟨rfl, rfl, sm19, fn19⟩
  dsimp only [Option.toList, List.nil_append, Nat.reduceAdd]
  have A19 := acc_m A sm19 fn19 (by omega) (by omega) (by omega)
  have A := acc_1 (j := 6) (c := 160) A19 rfl
  clear sm19 fn19 A19
  refine xGh_run 3 rfl (by repeat' (first | exact trivial | assumption | exact xob_b rfl | exact xal_b rfl | exact xar_b rfl _ rfl (by decide) (by decide) | (apply And.intro) | decide)) ?_
  try dsimp only [xsto1, xsto2, xkill, xget, xset, gd_0, gd_s]
  change xGh κ xAO _ _ (147, [some (.ref 0), some (.int 7)], [], sP M19 122 6 (some 160), 163, true, 162, 5363) _
  refine xGh_run 3 rfl (by repeat' (first | exact trivial | assumption | exact xob_b rfl | exact xal_b rfl | exact xar_b rfl _ rfl (by decide) (by decide) | (apply And.intro) | decide)) ?_
  try dsimp only [xsto1, xsto2, xkill, xget, xset, gd_0, gd_s]
  have hg : gP (sP M19 122 6 (some 160)) 0 8 = some 122 := A.2.2.1 8 (by decide)
  change xGh κ xAO _ _ (152, [some (.ref 0), some (.int 7)], xrf (gP (sP M19 122 6 (some 160)) 0 8) :: .int 7 :: [], (sP M19 122 6 (some 160)), 163, true, 162, 5363) _
  rw [hg]
  change xGh κ xAO _ _ (152, [some (.ref 0), some (.int 7)], .ref 122 :: .int 7 :: [], (sP M19 122 6 (some 160)), 163, true, 162, 5363) _
  refine xGh_run 1 rfl (by repeat' (first | exact trivial | assumption | exact xob_b rfl | exact xal_b rfl | exact xar_b rfl _ rfl (by decide) (by decide) | (apply And.intro) | decide)) ?_
  try dsimp only [xsto1, xsto2, xkill, xget, xset, gd_0, gd_s]
  refine xGh_brF rfl (by decide) ?_
  refine xGh_run 2 rfl (by repeat' (first | exact trivial | assumption | exact xob_b rfl | exact xal_b rfl | exact xar_b rfl _ rfl (by decide) (by decide) | (apply And.intro) | decide)) ?_
  try dsimp only [xsto1, xsto2, xkill, xget, xset, gd_0, gd_s]
  have hg : gP (sP M19 122 6 (some 160)) 0 8 = some 122 := A.2.2.1 8 (by decide)
  change xGh κ xAO _ _ (160, [some (.ref 0), some (.int 7)], xrf (gP (sP M19 122 6 (some 160)) 0 8) :: [], (sP M19 122 6 (some 160)), 163, true, 162, 5363) _
  rw [hg]
  change xGh κ xAO _ _ (160, [some (.ref 0), some (.int 7)], .ref 122 :: [], (sP M19 122 6 (some 160)), 163, true, 162, 5363) _
  refine xGh_run 1 rfl (by repeat' (first | exact trivial | assumption | exact xob_b rfl | exact xal_b rfl | exact xar_b rfl _ rfl (by decide) (by decide) | (apply And.intro) | decide)) ?_
  try dsimp only [xsto1, xsto2, xkill, xget, xset, gd_0, gd_s]
  refine xGh_new (n' := 164) (k1' := 163) (k2' := 5368) (cid := 8) rfl rfl rfl rfl rfl gwc_11_42 gwn_8 gwi_8 rfl (by decide) (by decide) ?_
  refine xGh_run 1 rfl (by repeat' (first | exact trivial | assumption | exact xob_b rfl | exact xal_b rfl | exact xar_b rfl _ rfl (by decide) (by decide) | (apply And.intro) | decide)) ?_
  try dsimp only [xsto1, xsto2, xkill, xget, xset, gd_0, gd_s]
  refine xGh_initN (my := mX8_init) (r' := (1, 2, 128)) rfl rfl rfl rfl rfl cw_X8_init (by decide +kernel) rfl (k_X8_163 (bl_z _ _)) (fun _ h => h) ⟨by decide, by decide, by decide⟩ (fun v M' n' h => h.2.1) ?_
  rintro v M20 n' ⟨rfl, rfl, sm20, fn20⟩
  dsimp only [Option.toList, List.nil_append, Nat.reduceAdd]
  have A20 := acc_m A sm20 fn20 (by omega) (by omega) (by omega)
  have A := acc_1 (j := 7) (c := 163) A20 rfl
  clear sm20 fn20 A20
  refine xGh_run 3 rfl (by repeat' (first | exact trivial | assumption | exact xob_b rfl | exact xal_b rfl | exact xar_b rfl _ rfl (by decide) (by decide) | (apply And.intro) | decide)) ?_
  try dsimp only [xsto1, xsto2, xkill, xget, xset, gd_0, gd_s]
  change xGh κ xAO _ _ (147, [some (.ref 0), some (.int 8)], [], sP M20 122 7 (some 163), 166, true, 165, 5496) _
  refine xGh_run 3 rfl (by repeat' (first | exact trivial | assumption | exact xob_b rfl | exact xal_b rfl | exact xar_b rfl _ rfl (by decide) (by decide) | (apply And.intro) | decide)) ?_
  try dsimp only [xsto1, xsto2, xkill, xget, xset, gd_0, gd_s]
  have hg : gP (sP M20 122 7 (some 163)) 0 8 = some 122 := A.2.2.1 8 (by decide)
  change xGh κ xAO _ _ (152, [some (.ref 0), some (.int 8)], xrf (gP (sP M20 122 7 (some 163)) 0 8) :: .int 8 :: [], (sP M20 122 7 (some 163)), 166, true, 165, 5496) _
  rw [hg]
  change xGh κ xAO _ _ (152, [some (.ref 0), some (.int 8)], .ref 122 :: .int 8 :: [], (sP M20 122 7 (some 163)), 166, true, 165, 5496) _
  refine xGh_run 1 rfl (by repeat' (first | exact trivial | assumption | exact xob_b rfl | exact xal_b rfl | exact xar_b rfl _ rfl (by decide) (by decide) | (apply And.intro) | decide)) ?_
  try dsimp only [xsto1, xsto2, xkill, xget, xset, gd_0, gd_s]
  refine xGh_brT rfl (by decide) ?_
  refine xGh_done ⟨_, rfl, rfl, Or.inr (Or.inr (Or.inr ⟨rfl, rfl, rfl, ?_⟩))⟩
  exact acc_e A
