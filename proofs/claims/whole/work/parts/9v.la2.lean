set_option maxRecDepth 8000 in
theorem la_16 {κ : xKK} {b N : Nat} {xs : Nat → Int32} {YS : xX → Prop} {M : xM} {i : Int32} {a5 a6 a7 : Option Value} {k1 k2 : Nat} (hI : IV M) (hr : raI N i) (hk1 : k1 ≤ 600000) (hk2 : k2 ≤ 7000000) (kk : laK κ b N xs YS i k1 k2) : xGh κ (Zl κ b N xs) mL_law rL (756, LL b i a5 a6 a7, [], M, 182, false, k1, k2) YS := by
  refine xGh_run 1 rfl trivial ?_
  refine xGh_arg rfl rfl rfl trivial rfl zl_s (ra_v hr (v := 1) (by decide) (by decide)) ?_
  refine xGh_c 1 rfl (by repeat' (first | exact trivial | assumption | exact xob_b rfl | exact xal_b rfl | (apply And.intro) | decide)) rfl rfl (by decide) cw_X11_count (pr_count hI 190 (by omega)) (by decide) (by show _ ≤ 600128; omega) (by show _ ≤ 7301097; omega) ?_
  rintro v M1 ⟨w, rfl, hg⟩
  dsimp only [Option.toList, List.cons_append, List.nil_append]
  refine xGh_run 1 rfl trivial ?_
  refine xGh_arg rfl rfl rfl trivial rfl zl_s (ra_v hr (v := 1) (by decide) (by decide)) ?_
  refine xGh_c 1 rfl (by repeat' (first | exact trivial | assumption | exact xob_b rfl | exact xal_b rfl | (apply And.intro) | decide)) rfl rfl (by decide) cw_X12_count (hg 190 (by omega)) (by decide) (by show _ ≤ 600128; omega) (by show _ ≤ 7301097; omega) ?_
  rintro v M2 ⟨rfl, hI2⟩
  dsimp only [Option.toList, List.cons_append, List.nil_append]
  refine xGh_brT rfl rfl ?_
  exact kk M2 a5 a6 a7 k1 k2 hI2 (by omega) (by omega)
set_option maxRecDepth 8000 in
theorem la_17 {κ : xKK} {b N : Nat} {xs : Nat → Int32} {YS : xX → Prop} {M : xM} {i : Int32} {a5 a6 a7 : Option Value} {k1 k2 : Nat} (hI : IV M) (hr : raI N i) (hk1 : k1 ≤ 600000) (hk2 : k2 ≤ 7000000) (kk : laK κ b N xs YS i k1 k2) : xGh κ (Zl κ b N xs) mL_law rL (781, LL b i a5 a6 a7, [], M, 182, false, k1, k2) YS := by
  refine xGh_run 1 rfl trivial ?_
  refine xGh_arg rfl rfl rfl trivial rfl zl_s (ra_v hr (v := 1) (by decide) (by decide)) ?_
  refine xGh_c 1 rfl (by repeat' (first | exact trivial | assumption | exact xob_b rfl | exact xal_b rfl | (apply And.intro) | decide)) rfl rfl (by decide) cw_X11_tone (pr_tone hI 190 (by omega)) (by decide) (by show _ ≤ 600128; omega) (by show _ ≤ 7301097; omega) ?_
  rintro v M1 ⟨w, rfl, hg⟩
  dsimp only [Option.toList, List.cons_append, List.nil_append]
  refine xGh_run 1 rfl trivial ?_
  refine xGh_arg rfl rfl rfl trivial rfl zl_s (ra_v hr (v := 1) (by decide) (by decide)) ?_
  refine xGh_c 1 rfl (by repeat' (first | exact trivial | assumption | exact xob_b rfl | exact xal_b rfl | (apply And.intro) | decide)) rfl rfl (by decide) cw_X12_tone (hg 190 (by omega)) (by decide) (by show _ ≤ 600128; omega) (by show _ ≤ 7301097; omega) ?_
  rintro v M2 ⟨rfl, hI2⟩
  dsimp only [Option.toList, List.cons_append, List.nil_append]
  refine xGh_brT rfl rfl ?_
  exact kk M2 a5 a6 a7 k1 k2 hI2 (by omega) (by omega)
set_option maxRecDepth 8000 in
theorem la_18 {κ : xKK} {b N : Nat} {xs : Nat → Int32} {YS : xX → Prop} {M : xM} {i : Int32} {a5 a6 a7 : Option Value} {k1 k2 : Nat} (hI : IV M) (hr : raI N i) (hk1 : k1 ≤ 600000) (hk2 : k2 ≤ 7000000) (kk : laK κ b N xs YS i k1 k2) : xGh κ (Zl κ b N xs) mL_law rL (806, LL b i a5 a6 a7, [], M, 182, false, k1, k2) YS := by
  refine xGh_run 1 rfl trivial ?_
  refine xGh_arg rfl rfl rfl trivial rfl zl_s (ra_v hr (v := 1) (by decide) (by decide)) ?_
  refine xGh_arg rfl rfl rfl trivial rfl zl_s (ra_v hr (v := 2) (by decide) (by decide)) ?_
  refine xGh_c 2 rfl (by repeat' (first | exact trivial | assumption | exact xob_b rfl | exact xal_b rfl | (apply And.intro) | decide)) rfl rfl (by decide) cw_X11_shedding (pr_shedding hI 190 (by omega)) (by decide) (by show _ ≤ 600128; omega) (by show _ ≤ 7301097; omega) ?_
  rintro v M1 ⟨w, rfl, hg⟩
  dsimp only [Option.toList, List.cons_append, List.nil_append]
  refine xGh_run 1 rfl trivial ?_
  refine xGh_arg rfl rfl rfl trivial rfl zl_s (ra_v hr (v := 1) (by decide) (by decide)) ?_
  refine xGh_arg rfl rfl rfl trivial rfl zl_s (ra_v hr (v := 2) (by decide) (by decide)) ?_
  refine xGh_c 2 rfl (by repeat' (first | exact trivial | assumption | exact xob_b rfl | exact xal_b rfl | (apply And.intro) | decide)) rfl rfl (by decide) cw_X12_shedding (hg 190 (by omega)) (by decide) (by show _ ≤ 600128; omega) (by show _ ≤ 7301097; omega) ?_
  rintro v M2 ⟨rfl, hI2⟩
  dsimp only [Option.toList, List.cons_append, List.nil_append]
  refine xGh_brT rfl rfl ?_
  exact kk M2 a5 a6 a7 k1 k2 hI2 (by omega) (by omega)
set_option maxRecDepth 8000 in
theorem la_19 {κ : xKK} {b N : Nat} {xs : Nat → Int32} {YS : xX → Prop} {M : xM} {i : Int32} {a5 a6 a7 : Option Value} {k1 k2 : Nat} (hI : IV M) (hr : raI N i) (hk1 : k1 ≤ 600000) (hk2 : k2 ≤ 7000000) (kk : laK κ b N xs YS i k1 k2) : xGh κ (Zl κ b N xs) mL_law rL (843, LL b i a5 a6 a7, [], M, 182, false, k1, k2) YS := by
  refine xGh_run 1 rfl trivial ?_
  refine xGh_arg rfl rfl rfl trivial rfl zl_s (ra_v hr (v := 1) (by decide) (by decide)) ?_
  refine xGh_arg rfl rfl rfl trivial rfl zl_s (ra_v hr (v := 2) (by decide) (by decide)) ?_
  refine xGh_arg rfl rfl rfl trivial rfl zl_s (ra_v hr (v := 3) (by decide) (by decide)) ?_
  refine xGh_arg rfl rfl rfl trivial rfl zl_s (ra_v hr (v := 4) (by decide) (by decide)) ?_
  refine xGh_c 4 rfl (by repeat' (first | exact trivial | assumption | exact xob_b rfl | exact xal_b rfl | (apply And.intro) | decide)) rfl rfl (by decide) cw_X11_lock (pr_lock hI 190 (by omega)) (by decide) (by show _ ≤ 600128; omega) (by show _ ≤ 7301097; omega) ?_
  rintro v M1 ⟨w, rfl, hg⟩
  dsimp only [Option.toList, List.cons_append, List.nil_append]
  refine xGh_run 1 rfl trivial ?_
  refine xGh_arg rfl rfl rfl trivial rfl zl_s (ra_v hr (v := 1) (by decide) (by decide)) ?_
  refine xGh_arg rfl rfl rfl trivial rfl zl_s (ra_v hr (v := 2) (by decide) (by decide)) ?_
  refine xGh_arg rfl rfl rfl trivial rfl zl_s (ra_v hr (v := 3) (by decide) (by decide)) ?_
  refine xGh_arg rfl rfl rfl trivial rfl zl_s (ra_v hr (v := 4) (by decide) (by decide)) ?_
  refine xGh_c 4 rfl (by repeat' (first | exact trivial | assumption | exact xob_b rfl | exact xal_b rfl | (apply And.intro) | decide)) rfl rfl (by decide) cw_X12_lock (hg 190 (by omega)) (by decide) (by show _ ≤ 600128; omega) (by show _ ≤ 7301097; omega) ?_
  rintro v M2 ⟨rfl, hI2⟩
  dsimp only [Option.toList, List.cons_append, List.nil_append]
  refine xGh_brT rfl rfl ?_
  exact kk M2 a5 a6 a7 k1 k2 hI2 (by omega) (by omega)
set_option maxRecDepth 8000 in
theorem la_20 {κ : xKK} {b N : Nat} {xs : Nat → Int32} {YS : xX → Prop} {M : xM} {i : Int32} {a5 a6 a7 : Option Value} {k1 k2 : Nat} (hI : IV M) (hr : raI N i) (hk1 : k1 ≤ 600000) (hk2 : k2 ≤ 7000000) (kk : laK κ b N xs YS i k1 k2) : xGh κ (Zl κ b N xs) mL_law rL (904, LL b i a5 a6 a7, [], M, 182, false, k1, k2) YS := by
  refine xGh_run 1 rfl trivial ?_
  refine xGh_arg rfl rfl rfl trivial rfl zl_s (ra_v hr (v := 1) (by decide) (by decide)) ?_
  refine xGh_arg rfl rfl rfl trivial rfl zl_s (ra_v hr (v := 2) (by decide) (by decide)) ?_
  refine xGh_c 2 rfl (by repeat' (first | exact trivial | assumption | exact xob_b rfl | exact xal_b rfl | (apply And.intro) | decide)) rfl rfl (by decide) cw_X11_odds (pr_odds hI 190 (by omega)) (by decide) (by show _ ≤ 600128; omega) (by show _ ≤ 7301097; omega) ?_
  rintro v M1 ⟨w, rfl, hg⟩
  dsimp only [Option.toList, List.cons_append, List.nil_append]
  refine xGh_run 1 rfl trivial ?_
  refine xGh_arg rfl rfl rfl trivial rfl zl_s (ra_v hr (v := 1) (by decide) (by decide)) ?_
  refine xGh_arg rfl rfl rfl trivial rfl zl_s (ra_v hr (v := 2) (by decide) (by decide)) ?_
  refine xGh_c 2 rfl (by repeat' (first | exact trivial | assumption | exact xob_b rfl | exact xal_b rfl | (apply And.intro) | decide)) rfl rfl (by decide) cw_X12_odds (hg 190 (by omega)) (by decide) (by show _ ≤ 600128; omega) (by show _ ≤ 7301097; omega) ?_
  rintro v M2 ⟨rfl, hI2⟩
  dsimp only [Option.toList, List.cons_append, List.nil_append]
  refine xGh_brT rfl rfl ?_
  exact kk M2 a5 a6 a7 k1 k2 hI2 (by omega) (by omega)
set_option maxRecDepth 8000 in
theorem la_21 {κ : xKK} {b N : Nat} {xs : Nat → Int32} {YS : xX → Prop} {M : xM} {i : Int32} {a5 a6 a7 : Option Value} {k1 k2 : Nat} (hI : IV M) (hr : raI N i) (hk1 : k1 ≤ 600000) (hk2 : k2 ≤ 7000000) (kk : laK κ b N xs YS i k1 k2) : xGh κ (Zl κ b N xs) mL_law rL (941, LL b i a5 a6 a7, [], M, 182, false, k1, k2) YS := by
  refine xGh_run 1 rfl trivial ?_
  refine xGh_c 0 rfl (by repeat' (first | exact trivial | assumption | exact xob_b rfl | exact xal_b rfl | (apply And.intro) | decide)) rfl rfl (by decide) cw_X11_falls (pr_falls hI 190 (by omega)) (by decide) (by show _ ≤ 600128; omega) (by show _ ≤ 7301097; omega) ?_
  rintro v M1 ⟨w, rfl, hg⟩
  dsimp only [Option.toList, List.cons_append, List.nil_append]
  refine xGh_run 1 rfl trivial ?_
  refine xGh_c 0 rfl (by repeat' (first | exact trivial | assumption | exact xob_b rfl | exact xal_b rfl | (apply And.intro) | decide)) rfl rfl (by decide) cw_X12_falls (hg 190 (by omega)) (by decide) (by show _ ≤ 600128; omega) (by show _ ≤ 7301097; omega) ?_
  rintro v M2 ⟨rfl, hI2⟩
  dsimp only [Option.toList, List.cons_append, List.nil_append]
  refine xGh_brT rfl rfl ?_
  exact kk M2 a5 a6 a7 k1 k2 hI2 (by omega) (by omega)
set_option maxRecDepth 8000 in
theorem la_22 {κ : xKK} {b N : Nat} {xs : Nat → Int32} {YS : xX → Prop} {M : xM} {i : Int32} {a5 a6 a7 : Option Value} {k1 k2 : Nat} (hI : IV M) (hr : raI N i) (hk1 : k1 ≤ 600000) (hk2 : k2 ≤ 7000000) (kk : laK κ b N xs YS i k1 k2) : xGh κ (Zl κ b N xs) mL_law rL (954, LL b i a5 a6 a7, [], M, 182, false, k1, k2) YS := by
  refine xGh_run 1 rfl trivial ?_
  refine xGh_c 0 rfl (by repeat' (first | exact trivial | assumption | exact xob_b rfl | exact xal_b rfl | (apply And.intro) | decide)) rfl rfl (by decide) cw_X11_uneven (pr_uneven hI 190 (by omega)) (by decide) (by show _ ≤ 600128; omega) (by show _ ≤ 7301097; omega) ?_
  rintro v M1 ⟨w, rfl, hg⟩
  dsimp only [Option.toList, List.cons_append, List.nil_append]
  refine xGh_run 1 rfl trivial ?_
  refine xGh_c 0 rfl (by repeat' (first | exact trivial | assumption | exact xob_b rfl | exact xal_b rfl | (apply And.intro) | decide)) rfl rfl (by decide) cw_X12_uneven (hg 190 (by omega)) (by decide) (by show _ ≤ 600128; omega) (by show _ ≤ 7301097; omega) ?_
  rintro v M2 ⟨rfl, hI2⟩
  dsimp only [Option.toList, List.cons_append, List.nil_append]
  refine xGh_brT rfl rfl ?_
  exact kk M2 a5 a6 a7 k1 k2 hI2 (by omega) (by omega)
set_option maxRecDepth 8000 in
theorem la_23 {κ : xKK} {b N : Nat} {xs : Nat → Int32} {YS : xX → Prop} {M : xM} {i : Int32} {a5 a6 a7 : Option Value} {k1 k2 : Nat} (hI : IV M) (hr : raI N i) (hk1 : k1 ≤ 600000) (hk2 : k2 ≤ 7000000) (kk : laK κ b N xs YS i k1 k2) : xGh κ (Zl κ b N xs) mL_law rL (967, LL b i a5 a6 a7, [], M, 182, false, k1, k2) YS := by
  refine xGh_run 1 rfl trivial ?_
  refine xGh_arg rfl rfl rfl trivial rfl zl_s (ra_v hr (v := 1) (by decide) (by decide)) ?_
  refine xGh_c 1 rfl (by repeat' (first | exact trivial | assumption | exact xob_b rfl | exact xal_b rfl | (apply And.intro) | decide)) rfl rfl (by decide) cw_X11_after (pr_after hI 190 (by omega)) (by decide) (by show _ ≤ 600128; omega) (by show _ ≤ 7301097; omega) ?_
  rintro v M1 ⟨w, rfl, hg⟩
  dsimp only [Option.toList, List.cons_append, List.nil_append]
  refine xGh_run 1 rfl trivial ?_
  refine xGh_arg rfl rfl rfl trivial rfl zl_s (ra_v hr (v := 1) (by decide) (by decide)) ?_
  refine xGh_c 1 rfl (by repeat' (first | exact trivial | assumption | exact xob_b rfl | exact xal_b rfl | (apply And.intro) | decide)) rfl rfl (by decide) cw_X12_after (hg 190 (by omega)) (by decide) (by show _ ≤ 600128; omega) (by show _ ≤ 7301097; omega) ?_
  rintro v M2 ⟨rfl, hI2⟩
  dsimp only [Option.toList, List.cons_append, List.nil_append]
  refine xGh_brT rfl rfl ?_
  exact kk M2 a5 a6 a7 k1 k2 hI2 (by omega) (by omega)
set_option maxRecDepth 8000 in
theorem la_24 {κ : xKK} {b N : Nat} {xs : Nat → Int32} {YS : xX → Prop} {M : xM} {i : Int32} {a5 a6 a7 : Option Value} {k1 k2 : Nat} (hI : IV M) (hr : raI N i) (hk1 : k1 ≤ 600000) (hk2 : k2 ≤ 7000000) (kk : laK κ b N xs YS i k1 k2) : xGh κ (Zl κ b N xs) mL_law rL (992, LL b i a5 a6 a7, [], M, 182, false, k1, k2) YS := by
  refine xGh_run 1 rfl trivial ?_
  refine xGh_arg rfl rfl rfl trivial rfl zl_s (ra_v hr (v := 1) (by decide) (by decide)) ?_
  refine xGh_arg rfl rfl rfl trivial rfl zl_s (ra_v hr (v := 2) (by decide) (by decide)) ?_
  refine xGh_c 2 rfl (by repeat' (first | exact trivial | assumption | exact xob_b rfl | exact xal_b rfl | (apply And.intro) | decide)) rfl rfl (by decide) cw_X11_swings (pr_swings hI 190 (by omega)) (by decide) (by show _ ≤ 600128; omega) (by show _ ≤ 7301097; omega) ?_
  rintro v M1 ⟨w, rfl, hg⟩
  dsimp only [Option.toList, List.cons_append, List.nil_append]
  refine xGh_run 1 rfl trivial ?_
  refine xGh_arg rfl rfl rfl trivial rfl zl_s (ra_v hr (v := 1) (by decide) (by decide)) ?_
  refine xGh_arg rfl rfl rfl trivial rfl zl_s (ra_v hr (v := 2) (by decide) (by decide)) ?_
  refine xGh_c 2 rfl (by repeat' (first | exact trivial | assumption | exact xob_b rfl | exact xal_b rfl | (apply And.intro) | decide)) rfl rfl (by decide) cw_X12_swings (hg 190 (by omega)) (by decide) (by show _ ≤ 600128; omega) (by show _ ≤ 7301097; omega) ?_
  rintro v M2 ⟨rfl, hI2⟩
  dsimp only [Option.toList, List.cons_append, List.nil_append]
  refine xGh_run 1 rfl trivial ?_
  refine xGh_brT rfl ((lg_eq0 _ _).mpr rfl) ?_
  exact kk M2 a5 a6 a7 k1 k2 hI2 (by omega) (by omega)
set_option maxRecDepth 8000 in
theorem la_25 {κ : xKK} {b N : Nat} {xs : Nat → Int32} {YS : xX → Prop} {M : xM} {i : Int32} {a5 a6 a7 : Option Value} {k1 k2 : Nat} (hI : IV M) (hr : raI N i) (hk1 : k1 ≤ 600000) (hk2 : k2 ≤ 7000000) (kk : laK κ b N xs YS i k1 k2) : xGh κ (Zl κ b N xs) mL_law rL (1030, LL b i a5 a6 a7, [], M, 182, false, k1, k2) YS := by
  refine xGh_run 1 rfl trivial ?_
  refine xGh_arg rfl rfl rfl trivial rfl zl_s (ra_v hr (v := 1) (by decide) (by decide)) ?_
  refine xGh_arg rfl rfl rfl trivial rfl zl_s (ra_v hr (v := 2) (by decide) (by decide)) ?_
  refine xGh_c 2 rfl (by repeat' (first | exact trivial | assumption | exact xob_b rfl | exact xal_b rfl | (apply And.intro) | decide)) rfl rfl (by decide) cw_X11_years (pr_years hI 190 (by omega)) (by decide) (by show _ ≤ 600128; omega) (by show _ ≤ 7301097; omega) ?_
  rintro v M1 ⟨w, rfl, hg⟩
  dsimp only [Option.toList, List.cons_append, List.nil_append]
  refine xGh_run 1 rfl trivial ?_
  refine xGh_arg rfl rfl rfl trivial rfl zl_s (ra_v hr (v := 1) (by decide) (by decide)) ?_
  refine xGh_arg rfl rfl rfl trivial rfl zl_s (ra_v hr (v := 2) (by decide) (by decide)) ?_
  refine xGh_c 2 rfl (by repeat' (first | exact trivial | assumption | exact xob_b rfl | exact xal_b rfl | (apply And.intro) | decide)) rfl rfl (by decide) cw_X12_years (hg 190 (by omega)) (by decide) (by show _ ≤ 600128; omega) (by show _ ≤ 7301097; omega) ?_
  rintro v M2 ⟨rfl, hI2⟩
  dsimp only [Option.toList, List.cons_append, List.nil_append]
  refine xGh_brT rfl rfl ?_
  exact kk M2 a5 a6 a7 k1 k2 hI2 (by omega) (by omega)
set_option maxRecDepth 8000 in
theorem la_26 {κ : xKK} {b N : Nat} {xs : Nat → Int32} {YS : xX → Prop} {M : xM} {i : Int32} {a5 a6 a7 : Option Value} {k1 k2 : Nat} (hI : IV M) (hr : raI N i) (hk1 : k1 ≤ 600000) (hk2 : k2 ≤ 7000000) (kk : laK κ b N xs YS i k1 k2) : xGh κ (Zl κ b N xs) mL_law rL (1067, LL b i a5 a6 a7, [], M, 182, false, k1, k2) YS := by
  refine xGh_run 1 rfl trivial ?_
  refine xGh_arg rfl rfl rfl trivial rfl zl_s (ra_v hr (v := 1) (by decide) (by decide)) ?_
  refine xGh_c 1 rfl (by repeat' (first | exact trivial | assumption | exact xob_b rfl | exact xal_b rfl | (apply And.intro) | decide)) rfl rfl (by decide) cw_X11_fault (pr_fault hI 190 (by omega)) (by decide) (by show _ ≤ 600128; omega) (by show _ ≤ 7301097; omega) ?_
  rintro v M1 ⟨w, rfl, hg⟩
  dsimp only [Option.toList, List.cons_append, List.nil_append]
  refine xGh_run 1 rfl trivial ?_
  refine xGh_arg rfl rfl rfl trivial rfl zl_s (ra_v hr (v := 1) (by decide) (by decide)) ?_
  refine xGh_c 1 rfl (by repeat' (first | exact trivial | assumption | exact xob_b rfl | exact xal_b rfl | (apply And.intro) | decide)) rfl rfl (by decide) cw_X12_fault (hg 190 (by omega)) (by decide) (by show _ ≤ 600128; omega) (by show _ ≤ 7301097; omega) ?_
  rintro v M2 ⟨rfl, hI2⟩
  dsimp only [Option.toList, List.cons_append, List.nil_append]
  refine xGh_brT rfl rfl ?_
  exact kk M2 a5 a6 a7 k1 k2 hI2 (by omega) (by omega)
set_option maxRecDepth 8000 in
theorem la_27 {κ : xKK} {b N : Nat} {xs : Nat → Int32} {YS : xX → Prop} {M : xM} {i : Int32} {a5 a6 a7 : Option Value} {k1 k2 : Nat} (hI : IV M) (hr : raI N i) (hk1 : k1 ≤ 600000) (hk2 : k2 ≤ 7000000) (kk : laK κ b N xs YS i k1 k2) : xGh κ (Zl κ b N xs) mL_law rL (1092, LL b i a5 a6 a7, [], M, 182, false, k1, k2) YS := by
  refine xGh_run 1 rfl trivial ?_
  refine xGh_arg rfl rfl rfl trivial rfl zl_s (ra_v hr (v := 1) (by decide) (by decide)) ?_
  refine xGh_c 1 rfl (by repeat' (first | exact trivial | assumption | exact xob_b rfl | exact xal_b rfl | (apply And.intro) | decide)) rfl rfl (by decide) cw_X11_rule (pr_rule hI 190 (by omega)) (by decide) (by show _ ≤ 600128; omega) (by show _ ≤ 7301097; omega) ?_
  rintro v M1 ⟨w, rfl, hg⟩
  dsimp only [Option.toList, List.cons_append, List.nil_append]
  refine xGh_run 1 rfl trivial ?_
  refine xGh_arg rfl rfl rfl trivial rfl zl_s (ra_v hr (v := 1) (by decide) (by decide)) ?_
  refine xGh_c 1 rfl (by repeat' (first | exact trivial | assumption | exact xob_b rfl | exact xal_b rfl | (apply And.intro) | decide)) rfl rfl (by decide) cw_X12_rule (hg 190 (by omega)) (by decide) (by show _ ≤ 600128; omega) (by show _ ≤ 7301097; omega) ?_
  rintro v M2 ⟨rfl, hI2⟩
  dsimp only [Option.toList, List.cons_append, List.nil_append]
  refine xGh_brT rfl rfl ?_
  exact kk M2 a5 a6 a7 k1 k2 hI2 (by omega) (by omega)
set_option maxRecDepth 8000 in
theorem la_29 {κ : xKK} {b N : Nat} {xs : Nat → Int32} {YS : xX → Prop} {M : xM} {i : Int32} {a5 a6 a7 : Option Value} {k1 k2 : Nat} (hI : IV M) (hr : raI N i) (hk1 : k1 ≤ 600000) (hk2 : k2 ≤ 7000000) (kk : laK κ b N xs YS i k1 k2) : xGh κ (Zl κ b N xs) mL_law rL (1170, LL b i a5 a6 a7, [], M, 182, false, k1, k2) YS := by
  refine xGh_run 1 rfl trivial ?_
  refine xGh_arg rfl rfl rfl trivial rfl zl_s (ra_v hr (v := 1) (by decide) (by decide)) ?_
  refine xGh_arg rfl rfl rfl trivial rfl zl_s (ra_v hr (v := 2) (by decide) (by decide)) ?_
  refine xGh_c 2 rfl (by repeat' (first | exact trivial | assumption | exact xob_b rfl | exact xal_b rfl | (apply And.intro) | decide)) rfl rfl (by decide) cw_X11_breach (pr_breach hI 190 (by omega)) (by decide) (by show _ ≤ 600128; omega) (by show _ ≤ 7301097; omega) ?_
  rintro v M1 ⟨w, rfl, hg⟩
  dsimp only [Option.toList, List.cons_append, List.nil_append]
  refine xGh_run 1 rfl trivial ?_
  refine xGh_arg rfl rfl rfl trivial rfl zl_s (ra_v hr (v := 1) (by decide) (by decide)) ?_
  refine xGh_arg rfl rfl rfl trivial rfl zl_s (ra_v hr (v := 2) (by decide) (by decide)) ?_
  refine xGh_c 2 rfl (by repeat' (first | exact trivial | assumption | exact xob_b rfl | exact xal_b rfl | (apply And.intro) | decide)) rfl rfl (by decide) cw_X12_breach (hg 190 (by omega)) (by decide) (by show _ ≤ 600128; omega) (by show _ ≤ 7301097; omega) ?_
  rintro v M2 ⟨rfl, hI2⟩
  dsimp only [Option.toList, List.cons_append, List.nil_append]
  refine xGh_brT rfl rfl ?_
  exact kk M2 a5 a6 a7 k1 k2 hI2 (by omega) (by omega)
set_option maxRecDepth 8000 in
theorem la_30 {κ : xKK} {b N : Nat} {xs : Nat → Int32} {YS : xX → Prop} {M : xM} {i : Int32} {a5 a6 a7 : Option Value} {k1 k2 : Nat} (hI : IV M) (hr : raI N i) (hk1 : k1 ≤ 600000) (hk2 : k2 ≤ 7000000) (kk : laK κ b N xs YS i k1 k2) : xGh κ (Zl κ b N xs) mL_law rL (1207, LL b i a5 a6 a7, [], M, 182, false, k1, k2) YS := by
  refine xGh_run 1 rfl trivial ?_
  refine xGh_arg rfl rfl rfl trivial rfl zl_s (ra_v hr (v := 1) (by decide) (by decide)) ?_
  refine xGh_c 1 rfl (by repeat' (first | exact trivial | assumption | exact xob_b rfl | exact xal_b rfl | (apply And.intro) | decide)) rfl rfl (by decide) cw_X11_climb (pr_climb hI 190 (by omega)) (by decide) (by show _ ≤ 600128; omega) (by show _ ≤ 7301097; omega) ?_
  rintro v M1 ⟨w, rfl, hg⟩
  dsimp only [Option.toList, List.cons_append, List.nil_append]
  refine xGh_run 1 rfl trivial ?_
  refine xGh_arg rfl rfl rfl trivial rfl zl_s (ra_v hr (v := 1) (by decide) (by decide)) ?_
  refine xGh_c 1 rfl (by repeat' (first | exact trivial | assumption | exact xob_b rfl | exact xal_b rfl | (apply And.intro) | decide)) rfl rfl (by decide) cw_X12_climb (hg 190 (by omega)) (by decide) (by show _ ≤ 600128; omega) (by show _ ≤ 7301097; omega) ?_
  rintro v M2 ⟨rfl, hI2⟩
  dsimp only [Option.toList, List.cons_append, List.nil_append]
  refine xGh_brT rfl rfl ?_
  exact kk M2 a5 a6 a7 k1 k2 hI2 (by omega) (by omega)
