set_option maxRecDepth 8000 in
theorem la_31 {κ : xKK} {b N : Nat} {xs : Nat → Int32} {YS : xX → Prop} {M : xM} {i : Int32} {a5 a6 a7 : Option Value} {k1 k2 : Nat} (hI : IV M) (hr : raI N i) (hk1 : k1 ≤ 600000) (hk2 : k2 ≤ 7000000) (kk : laK κ b N xs YS i k1 k2) : xGh κ (Zl κ b N xs) mL_law rL (1232, LL b i a5 a6 a7, [], M, 182, false, k1, k2) YS := by
  refine xGh_run 1 rfl trivial ?_
  refine xGh_arg rfl rfl rfl trivial rfl zl_s (ra_v hr (v := 1) (by decide) (by decide)) ?_
  refine xGh_arg rfl rfl rfl trivial rfl zl_s (ra_v hr (v := 2) (by decide) (by decide)) ?_
  refine xGh_arg rfl rfl rfl trivial rfl zl_s (ra_v hr (v := 3) (by decide) (by decide)) ?_
  refine xGh_arg rfl rfl rfl trivial rfl zl_s (ra_v hr (v := 4) (by decide) (by decide)) ?_
  refine xGh_c 4 rfl (by repeat' (first | exact trivial | assumption | exact xob_b rfl | exact xal_b rfl | (apply And.intro) | decide)) rfl rfl (by decide) cw_X11_order (pr_order hI 190 (by omega)) (by decide) (by show _ ≤ 600128; omega) (by show _ ≤ 7301097; omega) ?_
  rintro v M1 ⟨w, rfl, hg⟩
  dsimp only [Option.toList, List.cons_append, List.nil_append]
  refine xGh_run 1 rfl trivial ?_
  refine xGh_arg rfl rfl rfl trivial rfl zl_s (ra_v hr (v := 1) (by decide) (by decide)) ?_
  refine xGh_arg rfl rfl rfl trivial rfl zl_s (ra_v hr (v := 2) (by decide) (by decide)) ?_
  refine xGh_arg rfl rfl rfl trivial rfl zl_s (ra_v hr (v := 3) (by decide) (by decide)) ?_
  refine xGh_arg rfl rfl rfl trivial rfl zl_s (ra_v hr (v := 4) (by decide) (by decide)) ?_
  refine xGh_c 4 rfl (by repeat' (first | exact trivial | assumption | exact xob_b rfl | exact xal_b rfl | (apply And.intro) | decide)) rfl rfl (by decide) cw_X12_order (hg 190 (by omega)) (by decide) (by show _ ≤ 600128; omega) (by show _ ≤ 7301097; omega) ?_
  rintro v M2 ⟨rfl, hI2⟩
  dsimp only [Option.toList, List.cons_append, List.nil_append]
  refine xGh_run 1 rfl trivial ?_
  refine xGh_brT rfl ((lg_eq0 _ _).mpr rfl) ?_
  exact kk M2 a5 a6 a7 k1 k2 hI2 (by omega) (by omega)
set_option maxRecDepth 8000 in
theorem la_32 {κ : xKK} {b N : Nat} {xs : Nat → Int32} {YS : xX → Prop} {M : xM} {i : Int32} {a5 a6 a7 : Option Value} {k1 k2 : Nat} (hI : IV M) (hr : raI N i) (hk1 : k1 ≤ 600000) (hk2 : k2 ≤ 7000000) (kk : laK κ b N xs YS i k1 k2) : xGh κ (Zl κ b N xs) mL_law rL (1294, LL b i a5 a6 a7, [], M, 182, false, k1, k2) YS := by
  refine xGh_run 1 rfl trivial ?_
  refine xGh_arg rfl rfl rfl trivial rfl zl_s (ra_v hr (v := 1) (by decide) (by decide)) ?_
  refine xGh_arg rfl rfl rfl trivial rfl zl_s (ra_v hr (v := 2) (by decide) (by decide)) ?_
  refine xGh_arg rfl rfl rfl trivial rfl zl_s (ra_v hr (v := 3) (by decide) (by decide)) ?_
  refine xGh_arg rfl rfl rfl trivial rfl zl_s (ra_v hr (v := 4) (by decide) (by decide)) ?_
  refine xGh_c 4 rfl (by repeat' (first | exact trivial | assumption | exact xob_b rfl | exact xal_b rfl | (apply And.intro) | decide)) rfl rfl (by decide) cw_X11_readBack (pr_readBack hI 190 (by omega)) (by decide) (by show _ ≤ 600128; omega) (by show _ ≤ 7301097; omega) ?_
  rintro v M1 ⟨w, rfl, hg⟩
  dsimp only [Option.toList, List.cons_append, List.nil_append]
  refine xGh_run 1 rfl trivial ?_
  refine xGh_arg rfl rfl rfl trivial rfl zl_s (ra_v hr (v := 1) (by decide) (by decide)) ?_
  refine xGh_arg rfl rfl rfl trivial rfl zl_s (ra_v hr (v := 2) (by decide) (by decide)) ?_
  refine xGh_arg rfl rfl rfl trivial rfl zl_s (ra_v hr (v := 3) (by decide) (by decide)) ?_
  refine xGh_arg rfl rfl rfl trivial rfl zl_s (ra_v hr (v := 4) (by decide) (by decide)) ?_
  refine xGh_c 4 rfl (by repeat' (first | exact trivial | assumption | exact xob_b rfl | exact xal_b rfl | (apply And.intro) | decide)) rfl rfl (by decide) cw_X12_readBack (hg 190 (by omega)) (by decide) (by show _ ≤ 600128; omega) (by show _ ≤ 7301097; omega) ?_
  rintro v M2 ⟨rfl, hI2⟩
  dsimp only [Option.toList, List.cons_append, List.nil_append]
  refine xGh_brT rfl rfl ?_
  exact kk M2 a5 a6 a7 k1 k2 hI2 (by omega) (by omega)
set_option maxRecDepth 8000 in
theorem la_33 {κ : xKK} {b N : Nat} {xs : Nat → Int32} {YS : xX → Prop} {M : xM} {i : Int32} {a5 a6 a7 : Option Value} {k1 k2 : Nat} (hI : IV M) (hr : raI N i) (hk1 : k1 ≤ 600000) (hk2 : k2 ≤ 7000000) (kk : laK κ b N xs YS i k1 k2) : xGh κ (Zl κ b N xs) mL_law rL (1355, LL b i a5 a6 a7, [], M, 182, false, k1, k2) YS := by
  refine xGh_run 1 rfl trivial ?_
  refine xGh_arg rfl rfl rfl trivial rfl zl_s (ra_v hr (v := 1) (by decide) (by decide)) ?_
  refine xGh_arg rfl rfl rfl trivial rfl zl_s (ra_v hr (v := 2) (by decide) (by decide)) ?_
  refine xGh_arg rfl rfl rfl trivial rfl zl_s (ra_v hr (v := 3) (by decide) (by decide)) ?_
  refine xGh_c 3 rfl (by repeat' (first | exact trivial | assumption | exact xob_b rfl | exact xal_b rfl | (apply And.intro) | decide)) rfl rfl (by decide) cw_X11_offer (pr_offer hI 190 (by omega)) (by decide) (by show _ ≤ 600128; omega) (by show _ ≤ 7301097; omega) ?_
  rintro v M1 ⟨w, rfl, hg⟩
  dsimp only [Option.toList, List.cons_append, List.nil_append]
  refine xGh_run 1 rfl trivial ?_
  refine xGh_arg rfl rfl rfl trivial rfl zl_s (ra_v hr (v := 1) (by decide) (by decide)) ?_
  refine xGh_arg rfl rfl rfl trivial rfl zl_s (ra_v hr (v := 2) (by decide) (by decide)) ?_
  refine xGh_arg rfl rfl rfl trivial rfl zl_s (ra_v hr (v := 3) (by decide) (by decide)) ?_
  refine xGh_c 3 rfl (by repeat' (first | exact trivial | assumption | exact xob_b rfl | exact xal_b rfl | (apply And.intro) | decide)) rfl rfl (by decide) cw_X12_offer (hg 190 (by omega)) (by decide) (by show _ ≤ 600128; omega) (by show _ ≤ 7301097; omega) ?_
  rintro v M2 ⟨rfl, hI2⟩
  dsimp only [Option.toList, List.cons_append, List.nil_append]
  refine xGh_brT rfl rfl ?_
  exact kk M2 a5 a6 a7 k1 k2 hI2 (by omega) (by omega)
set_option maxRecDepth 8000 in
theorem la_34 {κ : xKK} {b N : Nat} {xs : Nat → Int32} {YS : xX → Prop} {M : xM} {i : Int32} {a5 a6 a7 : Option Value} {k1 k2 : Nat} (hI : IV M) (hr : raI N i) (hk1 : k1 ≤ 600000) (hk2 : k2 ≤ 7000000) (kk : laK κ b N xs YS i k1 k2) : xGh κ (Zl κ b N xs) mL_law rL (1404, LL b i a5 a6 a7, [], M, 182, false, k1, k2) YS := by
  refine xGh_run 1 rfl trivial ?_
  refine xGh_arg rfl rfl rfl trivial rfl zl_s (ra_v hr (v := 1) (by decide) (by decide)) ?_
  refine xGh_arg rfl rfl rfl trivial rfl zl_s (ra_v hr (v := 2) (by decide) (by decide)) ?_
  refine xGh_arg rfl rfl rfl trivial rfl zl_s (ra_v hr (v := 3) (by decide) (by decide)) ?_
  refine xGh_c 3 rfl (by repeat' (first | exact trivial | assumption | exact xob_b rfl | exact xal_b rfl | (apply And.intro) | decide)) rfl rfl (by decide) cw_X11_cheapest (pr_cheapest hI 190 (by omega)) (by decide) (by show _ ≤ 600128; omega) (by show _ ≤ 7301097; omega) ?_
  rintro v M1 ⟨w, rfl, hg⟩
  dsimp only [Option.toList, List.cons_append, List.nil_append]
  refine xGh_run 1 rfl trivial ?_
  refine xGh_arg rfl rfl rfl trivial rfl zl_s (ra_v hr (v := 1) (by decide) (by decide)) ?_
  refine xGh_arg rfl rfl rfl trivial rfl zl_s (ra_v hr (v := 2) (by decide) (by decide)) ?_
  refine xGh_arg rfl rfl rfl trivial rfl zl_s (ra_v hr (v := 3) (by decide) (by decide)) ?_
  refine xGh_c 3 rfl (by repeat' (first | exact trivial | assumption | exact xob_b rfl | exact xal_b rfl | (apply And.intro) | decide)) rfl rfl (by decide) cw_X12_cheapest (hg 190 (by omega)) (by decide) (by show _ ≤ 600128; omega) (by show _ ≤ 7301097; omega) ?_
  rintro v M2 ⟨rfl, hI2⟩
  dsimp only [Option.toList, List.cons_append, List.nil_append]
  refine xGh_brT rfl rfl ?_
  exact kk M2 a5 a6 a7 k1 k2 hI2 (by omega) (by omega)
set_option maxRecDepth 8000 in
theorem la_35 {κ : xKK} {b N : Nat} {xs : Nat → Int32} {YS : xX → Prop} {M : xM} {i : Int32} {a5 a6 a7 : Option Value} {k1 k2 : Nat} (hI : IV M) (hr : raI N i) (hk1 : k1 ≤ 600000) (hk2 : k2 ≤ 7000000) (kk : laK κ b N xs YS i k1 k2) : xGh κ (Zl κ b N xs) mL_law rL (1453, LL b i a5 a6 a7, [], M, 182, false, k1, k2) YS := by
  refine xGh_run 1 rfl trivial ?_
  refine xGh_c 0 rfl (by repeat' (first | exact trivial | assumption | exact xob_b rfl | exact xal_b rfl | (apply And.intro) | decide)) rfl rfl (by decide) cw_X11_image (pr_image hI 190 (by omega)) (by decide) (by show _ ≤ 600128; omega) (by show _ ≤ 7301097; omega) ?_
  rintro v M1 ⟨w, rfl, hg⟩
  dsimp only [Option.toList, List.cons_append, List.nil_append]
  refine xGh_run 1 rfl trivial ?_
  refine xGh_c 0 rfl (by repeat' (first | exact trivial | assumption | exact xob_b rfl | exact xal_b rfl | (apply And.intro) | decide)) rfl rfl (by decide) cw_X12_image (hg 190 (by omega)) (by decide) (by show _ ≤ 600128; omega) (by show _ ≤ 7301097; omega) ?_
  rintro v M2 ⟨rfl, hI2⟩
  dsimp only [Option.toList, List.cons_append, List.nil_append]
  refine xGh_brT rfl rfl ?_
  exact kk M2 a5 a6 a7 k1 k2 hI2 (by omega) (by omega)
set_option maxRecDepth 8000 in
theorem la_36 {κ : xKK} {b N : Nat} {xs : Nat → Int32} {YS : xX → Prop} {M : xM} {i : Int32} {a5 a6 a7 : Option Value} {k1 k2 : Nat} (hI : IV M) (hr : raI N i) (hk1 : k1 ≤ 600000) (hk2 : k2 ≤ 7000000) (kk : laK κ b N xs YS i k1 k2) : xGh κ (Zl κ b N xs) mL_law rL (1466, LL b i a5 a6 a7, [], M, 182, false, k1, k2) YS := by
  refine xGh_run 1 rfl trivial ?_
  refine xGh_c 0 rfl (by repeat' (first | exact trivial | assumption | exact xob_b rfl | exact xal_b rfl | (apply And.intro) | decide)) rfl rfl (by decide) cw_X11_restore (pr_restore hI 190 (by omega)) (by decide) (by show _ ≤ 600128; omega) (by show _ ≤ 7301097; omega) ?_
  rintro v M1 ⟨w, rfl, hg⟩
  dsimp only [Option.toList, List.cons_append, List.nil_append]
  refine xGh_run 1 rfl trivial ?_
  refine xGh_c 0 rfl (by repeat' (first | exact trivial | assumption | exact xob_b rfl | exact xal_b rfl | (apply And.intro) | decide)) rfl rfl (by decide) cw_X12_restore (hg 190 (by omega)) (by decide) (by show _ ≤ 600128; omega) (by show _ ≤ 7301097; omega) ?_
  rintro v M2 ⟨rfl, hI2⟩
  dsimp only [Option.toList, List.cons_append, List.nil_append]
  refine xGh_brT rfl rfl ?_
  exact kk M2 a5 a6 a7 k1 k2 hI2 (by omega) (by omega)
set_option maxRecDepth 8000 in
theorem la_37 {κ : xKK} {b N : Nat} {xs : Nat → Int32} {YS : xX → Prop} {M : xM} {i : Int32} {a5 a6 a7 : Option Value} {k1 k2 : Nat} (hI : IV M) (hr : raI N i) (hk1 : k1 ≤ 600000) (hk2 : k2 ≤ 7000000) (kk : laK κ b N xs YS i k1 k2) : xGh κ (Zl κ b N xs) mL_law rL (1479, LL b i a5 a6 a7, [], M, 182, false, k1, k2) YS := by
  refine xGh_run 1 rfl trivial ?_
  refine xGh_arg rfl rfl rfl trivial rfl zl_s (ra_v hr (v := 1) (by decide) (by decide)) ?_
  refine xGh_c 1 rfl (by repeat' (first | exact trivial | assumption | exact xob_b rfl | exact xal_b rfl | (apply And.intro) | decide)) rfl rfl (by decide) cw_X11_told (pr_told hI 190 (by omega)) (by decide) (by show _ ≤ 600128; omega) (by show _ ≤ 7301097; omega) ?_
  rintro v M1 ⟨w, rfl, hg⟩
  dsimp only [Option.toList, List.cons_append, List.nil_append]
  refine xGh_run 1 rfl trivial ?_
  refine xGh_arg rfl rfl rfl trivial rfl zl_s (ra_v hr (v := 1) (by decide) (by decide)) ?_
  refine xGh_c 1 rfl (by repeat' (first | exact trivial | assumption | exact xob_b rfl | exact xal_b rfl | (apply And.intro) | decide)) rfl rfl (by decide) cw_X12_told (hg 190 (by omega)) (by decide) (by show _ ≤ 600128; omega) (by show _ ≤ 7301097; omega) ?_
  rintro v M2 ⟨rfl, hI2⟩
  dsimp only [Option.toList, List.cons_append, List.nil_append]
  refine xGh_brT rfl rfl ?_
  exact kk M2 a5 a6 a7 k1 k2 hI2 (by omega) (by omega)
set_option maxRecDepth 8000 in
theorem la_38 {κ : xKK} {b N : Nat} {xs : Nat → Int32} {YS : xX → Prop} {M : xM} {i : Int32} {a5 a6 a7 : Option Value} {k1 k2 : Nat} (hI : IV M) (hr : raI N i) (hk1 : k1 ≤ 600000) (hk2 : k2 ≤ 7000000) (kk : laK κ b N xs YS i k1 k2) : xGh κ (Zl κ b N xs) mL_law rL (1504, LL b i a5 a6 a7, [], M, 182, false, k1, k2) YS := by
  refine xGh_run 1 rfl trivial ?_
  refine xGh_arg rfl rfl rfl trivial rfl zl_s (ra_v hr (v := 1) (by decide) (by decide)) ?_
  refine xGh_arg rfl rfl rfl trivial rfl zl_s (ra_v hr (v := 2) (by decide) (by decide)) ?_
  refine xGh_arg rfl rfl rfl trivial rfl zl_s (ra_v hr (v := 3) (by decide) (by decide)) ?_
  refine xGh_c 3 rfl (by repeat' (first | exact trivial | assumption | exact xob_b rfl | exact xal_b rfl | (apply And.intro) | decide)) rfl rfl (by decide) cw_X11_keep (pr_keep hI 190 (by omega)) (by decide) (by show _ ≤ 600128; omega) (by show _ ≤ 7301097; omega) ?_
  rintro v M1 ⟨w, rfl, hg⟩
  dsimp only [Option.toList, List.cons_append, List.nil_append]
  refine xGh_run 1 rfl trivial ?_
  refine xGh_arg rfl rfl rfl trivial rfl zl_s (ra_v hr (v := 1) (by decide) (by decide)) ?_
  refine xGh_arg rfl rfl rfl trivial rfl zl_s (ra_v hr (v := 2) (by decide) (by decide)) ?_
  refine xGh_arg rfl rfl rfl trivial rfl zl_s (ra_v hr (v := 3) (by decide) (by decide)) ?_
  refine xGh_c 3 rfl (by repeat' (first | exact trivial | assumption | exact xob_b rfl | exact xal_b rfl | (apply And.intro) | decide)) rfl rfl (by decide) cw_X12_keep (hg 190 (by omega)) (by decide) (by show _ ≤ 600128; omega) (by show _ ≤ 7301097; omega) ?_
  rintro v M2 ⟨rfl, hI2⟩
  dsimp only [Option.toList, List.cons_append, List.nil_append]
  refine xGh_brT rfl rfl ?_
  exact kk M2 a5 a6 a7 k1 k2 hI2 (by omega) (by omega)
set_option maxRecDepth 8000 in
theorem la_39 {κ : xKK} {b N : Nat} {xs : Nat → Int32} {YS : xX → Prop} {M : xM} {i : Int32} {a5 a6 a7 : Option Value} {k1 k2 : Nat} (hI : IV M) (hr : raI N i) (hk1 : k1 ≤ 600000) (hk2 : k2 ≤ 7000000) (kk : laK κ b N xs YS i k1 k2) : xGh κ (Zl κ b N xs) mL_law rL (1553, LL b i a5 a6 a7, [], M, 182, false, k1, k2) YS := by
  refine xGh_run 1 rfl trivial ?_
  refine xGh_arg rfl rfl rfl trivial rfl zl_s (ra_v hr (v := 1) (by decide) (by decide)) ?_
  refine xGh_arg rfl rfl rfl trivial rfl zl_s (ra_v hr (v := 2) (by decide) (by decide)) ?_
  refine xGh_arg rfl rfl rfl trivial rfl zl_s (ra_v hr (v := 3) (by decide) (by decide)) ?_
  refine xGh_c 3 rfl (by repeat' (first | exact trivial | assumption | exact xob_b rfl | exact xal_b rfl | (apply And.intro) | decide)) rfl rfl (by decide) cw_X11_row (pr_row hI 190 (by omega)) (by decide) (by show _ ≤ 600128; omega) (by show _ ≤ 7301097; omega) ?_
  rintro v M1 ⟨w, rfl, hg⟩
  dsimp only [Option.toList, List.cons_append, List.nil_append]
  refine xGh_run 1 rfl trivial ?_
  refine xGh_arg rfl rfl rfl trivial rfl zl_s (ra_v hr (v := 1) (by decide) (by decide)) ?_
  refine xGh_arg rfl rfl rfl trivial rfl zl_s (ra_v hr (v := 2) (by decide) (by decide)) ?_
  refine xGh_arg rfl rfl rfl trivial rfl zl_s (ra_v hr (v := 3) (by decide) (by decide)) ?_
  refine xGh_c 3 rfl (by repeat' (first | exact trivial | assumption | exact xob_b rfl | exact xal_b rfl | (apply And.intro) | decide)) rfl rfl (by decide) cw_X12_row (hg 190 (by omega)) (by decide) (by show _ ≤ 600128; omega) (by show _ ≤ 7301097; omega) ?_
  rintro v M2 ⟨rfl, hI2⟩
  dsimp only [Option.toList, List.cons_append, List.nil_append]
  refine xGh_brT rfl rfl ?_
  exact kk M2 a5 a6 a7 k1 k2 hI2 (by omega) (by omega)
set_option maxRecDepth 8000 in
theorem la_40 {κ : xKK} {b N : Nat} {xs : Nat → Int32} {YS : xX → Prop} {M : xM} {i : Int32} {a5 a6 a7 : Option Value} {k1 k2 : Nat} (hI : IV M) (hr : raI N i) (hk1 : k1 ≤ 600000) (hk2 : k2 ≤ 7000000) (kk : laK κ b N xs YS i k1 k2) : xGh κ (Zl κ b N xs) mL_law rL (1602, LL b i a5 a6 a7, [], M, 182, false, k1, k2) YS := by
  refine xGh_run 1 rfl trivial ?_
  refine xGh_arg rfl rfl rfl trivial rfl zl_s (ra_v hr (v := 1) (by decide) (by decide)) ?_
  refine xGh_arg rfl rfl rfl trivial rfl zl_s (ra_v hr (v := 2) (by decide) (by decide)) ?_
  refine xGh_arg rfl rfl rfl trivial rfl zl_s (ra_v hr (v := 3) (by decide) (by decide)) ?_
  refine xGh_c 3 rfl (by repeat' (first | exact trivial | assumption | exact xob_b rfl | exact xal_b rfl | (apply And.intro) | decide)) rfl rfl (by decide) cw_X11_put (pr_put hI 190 (by omega)) (by decide) (by show _ ≤ 600128; omega) (by show _ ≤ 7301097; omega) ?_
  rintro v M1 ⟨w, rfl, hg⟩
  dsimp only [Option.toList, List.cons_append, List.nil_append]
  refine xGh_run 1 rfl trivial ?_
  refine xGh_arg rfl rfl rfl trivial rfl zl_s (ra_v hr (v := 1) (by decide) (by decide)) ?_
  refine xGh_arg rfl rfl rfl trivial rfl zl_s (ra_v hr (v := 2) (by decide) (by decide)) ?_
  refine xGh_arg rfl rfl rfl trivial rfl zl_s (ra_v hr (v := 3) (by decide) (by decide)) ?_
  refine xGh_c 3 rfl (by repeat' (first | exact trivial | assumption | exact xob_b rfl | exact xal_b rfl | (apply And.intro) | decide)) rfl rfl (by decide) cw_X12_put (hg 190 (by omega)) (by decide) (by show _ ≤ 600128; omega) (by show _ ≤ 7301097; omega) ?_
  rintro v M2 ⟨rfl, hI2⟩
  dsimp only [Option.toList, List.cons_append, List.nil_append]
  refine xGh_brT rfl rfl ?_
  exact kk M2 a5 a6 a7 k1 k2 hI2 (by omega) (by omega)
set_option maxRecDepth 8000 in
theorem la_42 {κ : xKK} {b N : Nat} {xs : Nat → Int32} {YS : xX → Prop} {M : xM} {i : Int32} {a5 a6 a7 : Option Value} {k1 k2 : Nat} (hI : IV M) (hr : raI N i) (hk1 : k1 ≤ 600000) (hk2 : k2 ≤ 7000000) (kk : laK κ b N xs YS i k1 k2) : xGh κ (Zl κ b N xs) mL_law rL (1718, LL b i a5 a6 a7, [], M, 182, false, k1, k2) YS := by
  refine xGh_run 1 rfl trivial ?_
  refine xGh_arg rfl rfl rfl trivial rfl zl_s (ra_v hr (v := 1) (by decide) (by decide)) ?_
  refine xGh_arg rfl rfl rfl trivial rfl zl_s (ra_v hr (v := 2) (by decide) (by decide)) ?_
  refine xGh_arg rfl rfl rfl trivial rfl zl_s (ra_v hr (v := 3) (by decide) (by decide)) ?_
  refine xGh_arg rfl rfl rfl trivial rfl zl_s (ra_v hr (v := 4) (by decide) (by decide)) ?_
  refine xGh_arg rfl rfl rfl trivial rfl zl_s (ra_v hr (v := 5) (by decide) (by decide)) ?_
  refine xGh_c 5 rfl (by repeat' (first | exact trivial | assumption | exact xob_b rfl | exact xal_b rfl | (apply And.intro) | decide)) rfl rfl (by decide) cw_X11_copy (pr_copy hI 190 (by omega)) (by decide) (by show _ ≤ 600128; omega) (by show _ ≤ 7301097; omega) ?_
  rintro v M1 ⟨w, rfl, hg⟩
  dsimp only [Option.toList, List.cons_append, List.nil_append]
  refine xGh_run 1 rfl trivial ?_
  refine xGh_arg rfl rfl rfl trivial rfl zl_s (ra_v hr (v := 1) (by decide) (by decide)) ?_
  refine xGh_arg rfl rfl rfl trivial rfl zl_s (ra_v hr (v := 2) (by decide) (by decide)) ?_
  refine xGh_arg rfl rfl rfl trivial rfl zl_s (ra_v hr (v := 3) (by decide) (by decide)) ?_
  refine xGh_arg rfl rfl rfl trivial rfl zl_s (ra_v hr (v := 4) (by decide) (by decide)) ?_
  refine xGh_arg rfl rfl rfl trivial rfl zl_s (ra_v hr (v := 5) (by decide) (by decide)) ?_
  refine xGh_c 5 rfl (by repeat' (first | exact trivial | assumption | exact xob_b rfl | exact xal_b rfl | (apply And.intro) | decide)) rfl rfl (by decide) cw_X12_copy (hg 190 (by omega)) (by decide) (by show _ ≤ 600128; omega) (by show _ ≤ 7301097; omega) ?_
  rintro v M2 ⟨rfl, hI2⟩
  dsimp only [Option.toList, List.cons_append, List.nil_append]
  refine xGh_brT rfl rfl ?_
  exact kk M2 a5 a6 a7 k1 k2 hI2 (by omega) (by omega)
set_option maxRecDepth 8000 in
theorem la_43 {κ : xKK} {b N : Nat} {xs : Nat → Int32} {YS : xX → Prop} {M : xM} {i : Int32} {a5 a6 a7 : Option Value} {k1 k2 : Nat} (hI : IV M) (hr : raI N i) (hk1 : k1 ≤ 600000) (hk2 : k2 ≤ 7000000) (kk : laK κ b N xs YS i k1 k2) : xGh κ (Zl κ b N xs) mL_law rL (1791, LL b i a5 a6 a7, [], M, 182, false, k1, k2) YS := by
  refine xGh_run 1 rfl trivial ?_
  refine xGh_arg rfl rfl rfl trivial rfl zl_s (ra_v hr (v := 1) (by decide) (by decide)) ?_
  refine xGh_c 1 rfl (by repeat' (first | exact trivial | assumption | exact xob_b rfl | exact xal_b rfl | (apply And.intro) | decide)) rfl rfl (by decide) cw_X11_heft (pr_heft hI 190 (by omega)) (by decide) (by show _ ≤ 600128; omega) (by show _ ≤ 7301097; omega) ?_
  rintro v M1 ⟨w, rfl, hg⟩
  dsimp only [Option.toList, List.cons_append, List.nil_append]
  refine xGh_run 1 rfl trivial ?_
  refine xGh_arg rfl rfl rfl trivial rfl zl_s (ra_v hr (v := 1) (by decide) (by decide)) ?_
  refine xGh_c 1 rfl (by repeat' (first | exact trivial | assumption | exact xob_b rfl | exact xal_b rfl | (apply And.intro) | decide)) rfl rfl (by decide) cw_X12_heft (hg 190 (by omega)) (by decide) (by show _ ≤ 600128; omega) (by show _ ≤ 7301097; omega) ?_
  rintro v M2 ⟨rfl, hI2⟩
  dsimp only [Option.toList, List.cons_append, List.nil_append]
  refine xGh_brT rfl rfl ?_
  exact kk M2 a5 a6 a7 k1 k2 hI2 (by omega) (by omega)
set_option maxRecDepth 8000 in
theorem la_44 {κ : xKK} {b N : Nat} {xs : Nat → Int32} {YS : xX → Prop} {M : xM} {i : Int32} {a5 a6 a7 : Option Value} {k1 k2 : Nat} (hI : IV M) (hr : raI N i) (hk1 : k1 ≤ 600000) (hk2 : k2 ≤ 7000000) (kk : laK κ b N xs YS i k1 k2) : xGh κ (Zl κ b N xs) mL_law rL (1816, LL b i a5 a6 a7, [], M, 182, false, k1, k2) YS := by
  refine xGh_run 1 rfl trivial ?_
  refine xGh_arg rfl rfl rfl trivial rfl zl_s (ra_v hr (v := 1) (by decide) (by decide)) ?_
  refine xGh_c 1 rfl (by repeat' (first | exact trivial | assumption | exact xob_b rfl | exact xal_b rfl | (apply And.intro) | decide)) rfl rfl (by decide) cw_X11_toss (pr_toss hI 190 (by omega)) (by decide) (by show _ ≤ 600128; omega) (by show _ ≤ 7301097; omega) ?_
  rintro v M1 ⟨w, rfl, hg⟩
  dsimp only [Option.toList, List.cons_append, List.nil_append]
  refine xGh_run 1 rfl trivial ?_
  refine xGh_arg rfl rfl rfl trivial rfl zl_s (ra_v hr (v := 1) (by decide) (by decide)) ?_
  refine xGh_c 1 rfl (by repeat' (first | exact trivial | assumption | exact xob_b rfl | exact xal_b rfl | (apply And.intro) | decide)) rfl rfl (by decide) cw_X12_toss (hg 190 (by omega)) (by decide) (by show _ ≤ 600128; omega) (by show _ ≤ 7301097; omega) ?_
  rintro v M2 ⟨rfl, hI2⟩
  dsimp only [Option.toList, List.cons_append, List.nil_append]
  refine xGh_brT rfl rfl ?_
  exact kk M2 a5 a6 a7 k1 k2 hI2 (by omega) (by omega)
