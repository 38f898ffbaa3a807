set_option maxRecDepth 8000 in
theorem la_0 {κ : xKK} {b N : Nat} {xs : Nat → Int32} {YS : xX → Prop} {M : xM} {i : Int32} {a5 a6 a7 : Option Value} {k1 k2 : Nat} (hI : IV M) (hr : raI N i) (hk1 : k1 ≤ 600000) (hk2 : k2 ≤ 7000000) (kk : laK κ b N xs YS i k1 k2) : xGh κ (Zl κ b N xs) mL_law rL (236, LL b i a5 a6 a7, [], M, 182, false, k1, k2) YS := by
  refine xGh_run 1 rfl trivial ?_
  refine xGh_arg rfl rfl rfl trivial rfl zl_s (ra_v hr (v := 1) (by decide) (by decide)) ?_
  refine xGh_c 1 rfl (by repeat' (first | exact trivial | assumption | exact xob_b rfl | exact xal_b rfl | (apply And.intro) | decide)) rfl rfl (by decide) cw_X11_text (pr_text hI 190 (by omega)) (by decide) (by show _ ≤ 600128; omega) (by show _ ≤ 7301097; omega) ?_
  rintro v M1 ⟨w, rfl, hg⟩
  dsimp only [Option.toList, List.cons_append, List.nil_append]
  refine xGh_run 1 rfl trivial ?_
  refine xGh_arg rfl rfl rfl trivial rfl zl_s (ra_v hr (v := 1) (by decide) (by decide)) ?_
  refine xGh_c 1 rfl (by repeat' (first | exact trivial | assumption | exact xob_b rfl | exact xal_b rfl | (apply And.intro) | decide)) rfl rfl (by decide) cw_X12_text (hg 190 (by omega)) (by decide) (by show _ ≤ 600128; omega) (by show _ ≤ 7301097; omega) ?_
  rintro v M2 ⟨rfl, hI2⟩
  dsimp only [Option.toList, List.cons_append, List.nil_append]
  refine xGh_brT rfl rfl ?_
  exact kk M2 a5 a6 a7 k1 k2 hI2 (by omega) (by omega)
set_option maxRecDepth 8000 in
theorem la_1 {κ : xKK} {b N : Nat} {xs : Nat → Int32} {YS : xX → Prop} {M : xM} {i : Int32} {a5 a6 a7 : Option Value} {k1 k2 : Nat} (hI : IV M) (hr : raI N i) (hk1 : k1 ≤ 600000) (hk2 : k2 ≤ 7000000) (kk : laK κ b N xs YS i k1 k2) : xGh κ (Zl κ b N xs) mL_law rL (261, LL b i a5 a6 a7, [], M, 182, false, k1, k2) YS := by
  refine xGh_run 1 rfl trivial ?_
  refine xGh_arg rfl rfl rfl trivial rfl zl_s (ra_v hr (v := 1) (by decide) (by decide)) ?_
  refine xGh_arg rfl rfl rfl trivial rfl zl_s (ra_v hr (v := 2) (by decide) (by decide)) ?_
  refine xGh_c 2 rfl (by repeat' (first | exact trivial | assumption | exact xob_b rfl | exact xal_b rfl | (apply And.intro) | decide)) rfl rfl (by decide) cw_X11_piece (pr_piece hI 190 (by omega)) (by decide) (by show _ ≤ 600128; omega) (by show _ ≤ 7301097; omega) ?_
  rintro v M1 ⟨w, rfl, hg⟩
  dsimp only [Option.toList, List.cons_append, List.nil_append]
  refine xGh_run 1 rfl trivial ?_
  refine xGh_arg rfl rfl rfl trivial rfl zl_s (ra_v hr (v := 1) (by decide) (by decide)) ?_
  refine xGh_arg rfl rfl rfl trivial rfl zl_s (ra_v hr (v := 2) (by decide) (by decide)) ?_
  refine xGh_c 2 rfl (by repeat' (first | exact trivial | assumption | exact xob_b rfl | exact xal_b rfl | (apply And.intro) | decide)) rfl rfl (by decide) cw_X12_piece (hg 190 (by omega)) (by decide) (by show _ ≤ 600128; omega) (by show _ ≤ 7301097; omega) ?_
  rintro v M2 ⟨rfl, hI2⟩
  dsimp only [Option.toList, List.cons_append, List.nil_append]
  refine xGh_brT rfl rfl ?_
  exact kk M2 a5 a6 a7 k1 k2 hI2 (by omega) (by omega)
set_option maxRecDepth 8000 in
theorem la_2 {κ : xKK} {b N : Nat} {xs : Nat → Int32} {YS : xX → Prop} {M : xM} {i : Int32} {a5 a6 a7 : Option Value} {k1 k2 : Nat} (hI : IV M) (hr : raI N i) (hk1 : k1 ≤ 600000) (hk2 : k2 ≤ 7000000) (kk : laK κ b N xs YS i k1 k2) : xGh κ (Zl κ b N xs) mL_law rL (298, LL b i a5 a6 a7, [], M, 182, false, k1, k2) YS := by
  refine xGh_run 1 rfl trivial ?_
  refine xGh_arg rfl rfl rfl trivial rfl zl_s (ra_v hr (v := 1) (by decide) (by decide)) ?_
  refine xGh_arg rfl rfl rfl trivial rfl zl_s (ra_v hr (v := 2) (by decide) (by decide)) ?_
  refine xGh_c 2 rfl (by repeat' (first | exact trivial | assumption | exact xob_b rfl | exact xal_b rfl | (apply And.intro) | decide)) rfl rfl (by decide) cw_X11_rope (pr_rope hI 190 (by omega)) (by decide) (by show _ ≤ 600128; omega) (by show _ ≤ 7301097; omega) ?_
  rintro v M1 ⟨w, rfl, hg⟩
  dsimp only [Option.toList, List.cons_append, List.nil_append]
  refine xGh_run 1 rfl trivial ?_
  refine xGh_arg rfl rfl rfl trivial rfl zl_s (ra_v hr (v := 1) (by decide) (by decide)) ?_
  refine xGh_arg rfl rfl rfl trivial rfl zl_s (ra_v hr (v := 2) (by decide) (by decide)) ?_
  refine xGh_c 2 rfl (by repeat' (first | exact trivial | assumption | exact xob_b rfl | exact xal_b rfl | (apply And.intro) | decide)) rfl rfl (by decide) cw_X12_rope (hg 190 (by omega)) (by decide) (by show _ ≤ 600128; omega) (by show _ ≤ 7301097; omega) ?_
  rintro v M2 ⟨rfl, hI2⟩
  dsimp only [Option.toList, List.cons_append, List.nil_append]
  refine xGh_brT rfl rfl ?_
  exact kk M2 a5 a6 a7 k1 k2 hI2 (by omega) (by omega)
set_option maxRecDepth 8000 in
theorem la_3 {κ : xKK} {b N : Nat} {xs : Nat → Int32} {YS : xX → Prop} {M : xM} {i : Int32} {a5 a6 a7 : Option Value} {k1 k2 : Nat} (hI : IV M) (hr : raI N i) (hk1 : k1 ≤ 600000) (hk2 : k2 ≤ 7000000) (kk : laK κ b N xs YS i k1 k2) : xGh κ (Zl κ b N xs) mL_law rL (335, LL b i a5 a6 a7, [], M, 182, false, k1, k2) YS := by
  refine xGh_run 1 rfl trivial ?_
  refine xGh_arg rfl rfl rfl trivial rfl zl_s (ra_v hr (v := 1) (by decide) (by decide)) ?_
  refine xGh_arg rfl rfl rfl trivial rfl zl_s (ra_v hr (v := 2) (by decide) (by decide)) ?_
  refine xGh_c 2 rfl (by repeat' (first | exact trivial | assumption | exact xob_b rfl | exact xal_b rfl | (apply And.intro) | decide)) rfl rfl (by decide) cw_X11_becomes (pr_becomes hI 190 (by omega)) (by decide) (by show _ ≤ 600128; omega) (by show _ ≤ 7301097; omega) ?_
  rintro v M1 ⟨w, rfl, hg⟩
  dsimp only [Option.toList, List.cons_append, List.nil_append]
  refine xGh_run 1 rfl trivial ?_
  refine xGh_arg rfl rfl rfl trivial rfl zl_s (ra_v hr (v := 1) (by decide) (by decide)) ?_
  refine xGh_arg rfl rfl rfl trivial rfl zl_s (ra_v hr (v := 2) (by decide) (by decide)) ?_
  refine xGh_c 2 rfl (by repeat' (first | exact trivial | assumption | exact xob_b rfl | exact xal_b rfl | (apply And.intro) | decide)) rfl rfl (by decide) cw_X12_becomes (hg 190 (by omega)) (by decide) (by show _ ≤ 600128; omega) (by show _ ≤ 7301097; omega) ?_
  rintro v M2 ⟨rfl, hI2⟩
  dsimp only [Option.toList, List.cons_append, List.nil_append]
  refine xGh_brT rfl rfl ?_
  exact kk M2 a5 a6 a7 k1 k2 hI2 (by omega) (by omega)
set_option maxRecDepth 8000 in
theorem la_4 {κ : xKK} {b N : Nat} {xs : Nat → Int32} {YS : xX → Prop} {M : xM} {i : Int32} {a5 a6 a7 : Option Value} {k1 k2 : Nat} (hI : IV M) (hr : raI N i) (hk1 : k1 ≤ 600000) (hk2 : k2 ≤ 7000000) (kk : laK κ b N xs YS i k1 k2) : xGh κ (Zl κ b N xs) mL_law rL (372, LL b i a5 a6 a7, [], M, 182, false, k1, k2) YS := by
  refine xGh_run 1 rfl trivial ?_
  refine xGh_arg rfl rfl rfl trivial rfl zl_s (ra_v hr (v := 1) (by decide) (by decide)) ?_
  refine xGh_arg rfl rfl rfl trivial rfl zl_s (ra_v hr (v := 2) (by decide) (by decide)) ?_
  refine xGh_c 2 rfl (by repeat' (first | exact trivial | assumption | exact xob_b rfl | exact xal_b rfl | (apply And.intro) | decide)) rfl rfl (by decide) cw_X11_tight (pr_tight hI 190 (by omega)) (by decide) (by show _ ≤ 600128; omega) (by show _ ≤ 7301097; omega) ?_
  rintro v M1 ⟨w, rfl, hg⟩
  dsimp only [Option.toList, List.cons_append, List.nil_append]
  refine xGh_run 1 rfl trivial ?_
  refine xGh_arg rfl rfl rfl trivial rfl zl_s (ra_v hr (v := 1) (by decide) (by decide)) ?_
  refine xGh_arg rfl rfl rfl trivial rfl zl_s (ra_v hr (v := 2) (by decide) (by decide)) ?_
  refine xGh_c 2 rfl (by repeat' (first | exact trivial | assumption | exact xob_b rfl | exact xal_b rfl | (apply And.intro) | decide)) rfl rfl (by decide) cw_X12_tight (hg 190 (by omega)) (by decide) (by show _ ≤ 600128; omega) (by show _ ≤ 7301097; omega) ?_
  rintro v M2 ⟨rfl, hI2⟩
  dsimp only [Option.toList, List.cons_append, List.nil_append]
  refine xGh_brT rfl rfl ?_
  exact kk M2 a5 a6 a7 k1 k2 hI2 (by omega) (by omega)
set_option maxRecDepth 8000 in
theorem la_5 {κ : xKK} {b N : Nat} {xs : Nat → Int32} {YS : xX → Prop} {M : xM} {i : Int32} {a5 a6 a7 : Option Value} {k1 k2 : Nat} (hI : IV M) (hr : raI N i) (hk1 : k1 ≤ 600000) (hk2 : k2 ≤ 7000000) (kk : laK κ b N xs YS i k1 k2) : xGh κ (Zl κ b N xs) mL_law rL (409, LL b i a5 a6 a7, [], M, 182, false, k1, k2) YS := by
  refine xGh_run 1 rfl trivial ?_
  refine xGh_arg rfl rfl rfl trivial rfl zl_s (ra_v hr (v := 1) (by decide) (by decide)) ?_
  refine xGh_arg rfl rfl rfl trivial rfl zl_s (ra_v hr (v := 2) (by decide) (by decide)) ?_
  refine xGh_c 2 rfl (by repeat' (first | exact trivial | assumption | exact xob_b rfl | exact xal_b rfl | (apply And.intro) | decide)) rfl rfl (by decide) cw_X11_ice (pr_ice hI 190 (by omega)) (by decide) (by show _ ≤ 600128; omega) (by show _ ≤ 7301097; omega) ?_
  rintro v M1 ⟨w, rfl, hg⟩
  dsimp only [Option.toList, List.cons_append, List.nil_append]
  refine xGh_run 1 rfl trivial ?_
  refine xGh_arg rfl rfl rfl trivial rfl zl_s (ra_v hr (v := 1) (by decide) (by decide)) ?_
  refine xGh_arg rfl rfl rfl trivial rfl zl_s (ra_v hr (v := 2) (by decide) (by decide)) ?_
  refine xGh_c 2 rfl (by repeat' (first | exact trivial | assumption | exact xob_b rfl | exact xal_b rfl | (apply And.intro) | decide)) rfl rfl (by decide) cw_X12_ice (hg 190 (by omega)) (by decide) (by show _ ≤ 600128; omega) (by show _ ≤ 7301097; omega) ?_
  rintro v M2 ⟨rfl, hI2⟩
  dsimp only [Option.toList, List.cons_append, List.nil_append]
  refine xGh_brT rfl rfl ?_
  exact kk M2 a5 a6 a7 k1 k2 hI2 (by omega) (by omega)
set_option maxRecDepth 8000 in
theorem la_6 {κ : xKK} {b N : Nat} {xs : Nat → Int32} {YS : xX → Prop} {M : xM} {i : Int32} {a5 a6 a7 : Option Value} {k1 k2 : Nat} (hI : IV M) (hr : raI N i) (hk1 : k1 ≤ 600000) (hk2 : k2 ≤ 7000000) (kk : laK κ b N xs YS i k1 k2) : xGh κ (Zl κ b N xs) mL_law rL (446, LL b i a5 a6 a7, [], M, 182, false, k1, k2) YS := by
  refine xGh_run 1 rfl trivial ?_
  refine xGh_arg rfl rfl rfl trivial rfl zl_s (ra_v hr (v := 1) (by decide) (by decide)) ?_
  refine xGh_arg rfl rfl rfl trivial rfl zl_s (ra_v hr (v := 2) (by decide) (by decide)) ?_
  refine xGh_c 2 rfl (by repeat' (first | exact trivial | assumption | exact xob_b rfl | exact xal_b rfl | (apply And.intro) | decide)) rfl rfl (by decide) cw_X11_wind (pr_wind hI 190 (by omega)) (by decide) (by show _ ≤ 600128; omega) (by show _ ≤ 7301097; omega) ?_
  rintro v M1 ⟨w, rfl, hg⟩
  dsimp only [Option.toList, List.cons_append, List.nil_append]
  refine xGh_run 1 rfl trivial ?_
  refine xGh_arg rfl rfl rfl trivial rfl zl_s (ra_v hr (v := 1) (by decide) (by decide)) ?_
  refine xGh_arg rfl rfl rfl trivial rfl zl_s (ra_v hr (v := 2) (by decide) (by decide)) ?_
  refine xGh_c 2 rfl (by repeat' (first | exact trivial | assumption | exact xob_b rfl | exact xal_b rfl | (apply And.intro) | decide)) rfl rfl (by decide) cw_X12_wind (hg 190 (by omega)) (by decide) (by show _ ≤ 600128; omega) (by show _ ≤ 7301097; omega) ?_
  rintro v M2 ⟨rfl, hI2⟩
  dsimp only [Option.toList, List.cons_append, List.nil_append]
  refine xGh_brT rfl rfl ?_
  exact kk M2 a5 a6 a7 k1 k2 hI2 (by omega) (by omega)
set_option maxRecDepth 8000 in
theorem la_7 {κ : xKK} {b N : Nat} {xs : Nat → Int32} {YS : xX → Prop} {M : xM} {i : Int32} {a5 a6 a7 : Option Value} {k1 k2 : Nat} (hI : IV M) (hr : raI N i) (hk1 : k1 ≤ 600000) (hk2 : k2 ≤ 7000000) (kk : laK κ b N xs YS i k1 k2) : xGh κ (Zl κ b N xs) mL_law rL (483, LL b i a5 a6 a7, [], M, 182, false, k1, k2) YS := by
  refine xGh_run 1 rfl trivial ?_
  refine xGh_arg rfl rfl rfl trivial rfl zl_s (ra_v hr (v := 1) (by decide) (by decide)) ?_
  refine xGh_arg rfl rfl rfl trivial rfl zl_s (ra_v hr (v := 2) (by decide) (by decide)) ?_
  refine xGh_c 2 rfl (by repeat' (first | exact trivial | assumption | exact xob_b rfl | exact xal_b rfl | (apply And.intro) | decide)) rfl rfl (by decide) cw_X11_share (pr_share hI 190 (by omega)) (by decide) (by show _ ≤ 600128; omega) (by show _ ≤ 7301097; omega) ?_
  rintro v M1 ⟨w, rfl, hg⟩
  dsimp only [Option.toList, List.cons_append, List.nil_append]
  refine xGh_run 1 rfl trivial ?_
  refine xGh_arg rfl rfl rfl trivial rfl zl_s (ra_v hr (v := 1) (by decide) (by decide)) ?_
  refine xGh_arg rfl rfl rfl trivial rfl zl_s (ra_v hr (v := 2) (by decide) (by decide)) ?_
  refine xGh_c 2 rfl (by repeat' (first | exact trivial | assumption | exact xob_b rfl | exact xal_b rfl | (apply And.intro) | decide)) rfl rfl (by decide) cw_X12_share (hg 190 (by omega)) (by decide) (by show _ ≤ 600128; omega) (by show _ ≤ 7301097; omega) ?_
  rintro v M2 ⟨rfl, hI2⟩
  dsimp only [Option.toList, List.cons_append, List.nil_append]
  refine xGh_brT rfl rfl ?_
  exact kk M2 a5 a6 a7 k1 k2 hI2 (by omega) (by omega)
set_option maxRecDepth 8000 in
theorem la_10 {κ : xKK} {b N : Nat} {xs : Nat → Int32} {YS : xX → Prop} {M : xM} {i : Int32} {a5 a6 a7 : Option Value} {k1 k2 : Nat} (hI : IV M) (hr : raI N i) (hk1 : k1 ≤ 600000) (hk2 : k2 ≤ 7000000) (kk : laK κ b N xs YS i k1 k2) : xGh κ (Zl κ b N xs) mL_law rL (630, LL b i a5 a6 a7, [], M, 182, false, k1, k2) YS := by
  refine xGh_run 1 rfl trivial ?_
  refine xGh_c 0 rfl (by repeat' (first | exact trivial | assumption | exact xob_b rfl | exact xal_b rfl | (apply And.intro) | decide)) rfl rfl (by decide) cw_X11_stand (pr_stand hI 190 (by omega)) (by decide) (by show _ ≤ 600128; omega) (by show _ ≤ 7301097; omega) ?_
  rintro v M1 ⟨w, rfl, hg⟩
  dsimp only [Option.toList, List.cons_append, List.nil_append]
  refine xGh_run 1 rfl trivial ?_
  refine xGh_c 0 rfl (by repeat' (first | exact trivial | assumption | exact xob_b rfl | exact xal_b rfl | (apply And.intro) | decide)) rfl rfl (by decide) cw_X12_stand (hg 190 (by omega)) (by decide) (by show _ ≤ 600128; omega) (by show _ ≤ 7301097; omega) ?_
  rintro v M2 ⟨rfl, hI2⟩
  dsimp only [Option.toList, List.cons_append, List.nil_append]
  refine xGh_brT rfl rfl ?_
  exact kk M2 a5 a6 a7 k1 k2 hI2 (by omega) (by omega)
set_option maxRecDepth 8000 in
theorem la_11 {κ : xKK} {b N : Nat} {xs : Nat → Int32} {YS : xX → Prop} {M : xM} {i : Int32} {a5 a6 a7 : Option Value} {k1 k2 : Nat} (hI : IV M) (hr : raI N i) (hk1 : k1 ≤ 600000) (hk2 : k2 ≤ 7000000) (kk : laK κ b N xs YS i k1 k2) : xGh κ (Zl κ b N xs) mL_law rL (643, LL b i a5 a6 a7, [], M, 182, false, k1, k2) YS := by
  refine xGh_run 1 rfl trivial ?_
  refine xGh_arg rfl rfl rfl trivial rfl zl_s (ra_v hr (v := 1) (by decide) (by decide)) ?_
  refine xGh_c 1 rfl (by repeat' (first | exact trivial | assumption | exact xob_b rfl | exact xal_b rfl | (apply And.intro) | decide)) rfl rfl (by decide) cw_X11_stands (pr_stands hI 190 (by omega)) (by decide) (by show _ ≤ 600128; omega) (by show _ ≤ 7301097; omega) ?_
  rintro v M1 ⟨w, rfl, hg⟩
  dsimp only [Option.toList, List.cons_append, List.nil_append]
  refine xGh_run 1 rfl trivial ?_
  refine xGh_arg rfl rfl rfl trivial rfl zl_s (ra_v hr (v := 1) (by decide) (by decide)) ?_
  refine xGh_c 1 rfl (by repeat' (first | exact trivial | assumption | exact xob_b rfl | exact xal_b rfl | (apply And.intro) | decide)) rfl rfl (by decide) cw_X12_stands (hg 190 (by omega)) (by decide) (by show _ ≤ 600128; omega) (by show _ ≤ 7301097; omega) ?_
  rintro v M2 ⟨rfl, hI2⟩
  dsimp only [Option.toList, List.cons_append, List.nil_append]
  refine xGh_brT rfl rfl ?_
  exact kk M2 a5 a6 a7 k1 k2 hI2 (by omega) (by omega)
set_option maxRecDepth 8000 in
theorem la_12 {κ : xKK} {b N : Nat} {xs : Nat → Int32} {YS : xX → Prop} {M : xM} {i : Int32} {a5 a6 a7 : Option Value} {k1 k2 : Nat} (hI : IV M) (hr : raI N i) (hk1 : k1 ≤ 600000) (hk2 : k2 ≤ 7000000) (kk : laK κ b N xs YS i k1 k2) : xGh κ (Zl κ b N xs) mL_law rL (668, LL b i a5 a6 a7, [], M, 182, false, k1, k2) YS := by
  refine xGh_run 1 rfl trivial ?_
  refine xGh_arg rfl rfl rfl trivial rfl zl_s (ra_v hr (v := 1) (by decide) (by decide)) ?_
  refine xGh_c 1 rfl (by repeat' (first | exact trivial | assumption | exact xob_b rfl | exact xal_b rfl | (apply And.intro) | decide)) rfl rfl (by decide) cw_X11_pull (pr_pull hI 190 (by omega)) (by decide) (by show _ ≤ 600128; omega) (by show _ ≤ 7301097; omega) ?_
  rintro v M1 ⟨w, rfl, hg⟩
  dsimp only [Option.toList, List.cons_append, List.nil_append]
  refine xGh_run 1 rfl trivial ?_
  refine xGh_arg rfl rfl rfl trivial rfl zl_s (ra_v hr (v := 1) (by decide) (by decide)) ?_
  refine xGh_c 1 rfl (by repeat' (first | exact trivial | assumption | exact xob_b rfl | exact xal_b rfl | (apply And.intro) | decide)) rfl rfl (by decide) cw_X12_pull (hg 190 (by omega)) (by decide) (by show _ ≤ 600128; omega) (by show _ ≤ 7301097; omega) ?_
  rintro v M2 ⟨rfl, hI2⟩
  dsimp only [Option.toList, List.cons_append, List.nil_append]
  refine xGh_brT rfl rfl ?_
  exact kk M2 a5 a6 a7 k1 k2 hI2 (by omega) (by omega)
set_option maxRecDepth 8000 in
theorem la_13 {κ : xKK} {b N : Nat} {xs : Nat → Int32} {YS : xX → Prop} {M : xM} {i : Int32} {a5 a6 a7 : Option Value} {k1 k2 : Nat} (hI : IV M) (hr : raI N i) (hk1 : k1 ≤ 600000) (hk2 : k2 ≤ 7000000) (kk : laK κ b N xs YS i k1 k2) : xGh κ (Zl κ b N xs) mL_law rL (693, LL b i a5 a6 a7, [], M, 182, false, k1, k2) YS := by
  refine xGh_run 1 rfl trivial ?_
  refine xGh_c 0 rfl (by repeat' (first | exact trivial | assumption | exact xob_b rfl | exact xal_b rfl | (apply And.intro) | decide)) rfl rfl (by decide) cw_X11_loose (pr_loose hI 190 (by omega)) (by decide) (by show _ ≤ 600128; omega) (by show _ ≤ 7301097; omega) ?_
  rintro v M1 ⟨w, rfl, hg⟩
  dsimp only [Option.toList, List.cons_append, List.nil_append]
  refine xGh_run 1 rfl trivial ?_
  refine xGh_c 0 rfl (by repeat' (first | exact trivial | assumption | exact xob_b rfl | exact xal_b rfl | (apply And.intro) | decide)) rfl rfl (by decide) cw_X12_loose (hg 190 (by omega)) (by decide) (by show _ ≤ 600128; omega) (by show _ ≤ 7301097; omega) ?_
  rintro v M2 ⟨rfl, hI2⟩
  dsimp only [Option.toList, List.cons_append, List.nil_append]
  refine xGh_brT rfl rfl ?_
  exact kk M2 a5 a6 a7 k1 k2 hI2 (by omega) (by omega)
set_option maxRecDepth 8000 in
theorem la_14 {κ : xKK} {b N : Nat} {xs : Nat → Int32} {YS : xX → Prop} {M : xM} {i : Int32} {a5 a6 a7 : Option Value} {k1 k2 : Nat} (hI : IV M) (hr : raI N i) (hk1 : k1 ≤ 600000) (hk2 : k2 ≤ 7000000) (kk : laK κ b N xs YS i k1 k2) : xGh κ (Zl κ b N xs) mL_law rL (706, LL b i a5 a6 a7, [], M, 182, false, k1, k2) YS := by
  refine xGh_run 1 rfl trivial ?_
  refine xGh_arg rfl rfl rfl trivial rfl zl_s (ra_v hr (v := 1) (by decide) (by decide)) ?_
  refine xGh_c 1 rfl (by repeat' (first | exact trivial | assumption | exact xob_b rfl | exact xal_b rfl | (apply And.intro) | decide)) rfl rfl (by decide) cw_X11_gust (pr_gust hI 190 (by omega)) (by decide) (by show _ ≤ 600128; omega) (by show _ ≤ 7301097; omega) ?_
  rintro v M1 ⟨w, rfl, hg⟩
  dsimp only [Option.toList, List.cons_append, List.nil_append]
  refine xGh_run 1 rfl trivial ?_
  refine xGh_arg rfl rfl rfl trivial rfl zl_s (ra_v hr (v := 1) (by decide) (by decide)) ?_
  refine xGh_c 1 rfl (by repeat' (first | exact trivial | assumption | exact xob_b rfl | exact xal_b rfl | (apply And.intro) | decide)) rfl rfl (by decide) cw_X12_gust (hg 190 (by omega)) (by decide) (by show _ ≤ 600128; omega) (by show _ ≤ 7301097; omega) ?_
  rintro v M2 ⟨rfl, hI2⟩
  dsimp only [Option.toList, List.cons_append, List.nil_append]
  refine xGh_brT rfl rfl ?_
  exact kk M2 a5 a6 a7 k1 k2 hI2 (by omega) (by omega)
set_option maxRecDepth 8000 in
theorem la_15 {κ : xKK} {b N : Nat} {xs : Nat → Int32} {YS : xX → Prop} {M : xM} {i : Int32} {a5 a6 a7 : Option Value} {k1 k2 : Nat} (hI : IV M) (hr : raI N i) (hk1 : k1 ≤ 600000) (hk2 : k2 ≤ 7000000) (kk : laK κ b N xs YS i k1 k2) : xGh κ (Zl κ b N xs) mL_law rL (731, LL b i a5 a6 a7, [], M, 182, false, k1, k2) YS := by
  refine xGh_run 1 rfl trivial ?_
  refine xGh_arg rfl rfl rfl trivial rfl zl_s (ra_v hr (v := 1) (by decide) (by decide)) ?_
  refine xGh_c 1 rfl (by repeat' (first | exact trivial | assumption | exact xob_b rfl | exact xal_b rfl | (apply And.intro) | decide)) rfl rfl (by decide) cw_X11_gusts (pr_gusts hI 190 (by omega)) (by decide) (by show _ ≤ 600128; omega) (by show _ ≤ 7301097; omega) ?_
  rintro v M1 ⟨w, rfl, hg⟩
  dsimp only [Option.toList, List.cons_append, List.nil_append]
  refine xGh_run 1 rfl trivial ?_
  refine xGh_arg rfl rfl rfl trivial rfl zl_s (ra_v hr (v := 1) (by decide) (by decide)) ?_
  refine xGh_c 1 rfl (by repeat' (first | exact trivial | assumption | exact xob_b rfl | exact xal_b rfl | (apply And.intro) | decide)) rfl rfl (by decide) cw_X12_gusts (hg 190 (by omega)) (by decide) (by show _ ≤ 600128; omega) (by show _ ≤ 7301097; omega) ?_
  rintro v M2 ⟨rfl, hI2⟩
  dsimp only [Option.toList, List.cons_append, List.nil_append]
  refine xGh_brT rfl rfl ?_
  exact kk M2 a5 a6 a7 k1 k2 hI2 (by omega) (by omega)
