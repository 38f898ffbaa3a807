set_option maxRecDepth 8000 in
theorem la_28 {κ : xKK} {b N : Nat} {xs : Nat → Int32} {YS : xX → Prop} {M : xM} {i : Int32} {a5 a6 a7 : Option Value} {k1 k2 : Nat} (hI : IV M) (hr : raI N i) (hk1 : k1 ≤ 600000) (hk2 : k2 ≤ 7000000) (kk : laK κ b N xs YS i k1 k2) : xGh κ (Zl κ b N xs) mL_law rL (1117, LL b i a5 a6 a7, [], M, 182, false, k1, k2) YS := by
  by_cases hc : xs (i + 2).toNatClampNeg = 0
  · refine xGh_run 1 rfl (by repeat' (first | exact trivial | assumption | exact xob_b rfl | exact xal_b rfl | (apply And.intro) | decide)) ?_
    refine xGh_arg rfl rfl rfl trivial rfl zl_s (ra_v hr (v := 1) (by decide) (by decide)) ?_
    refine xGh_arg rfl rfl rfl trivial rfl zl_s (ra_v hr (v := 2) (by decide) (by decide)) ?_
    refine xGh_brT rfl hc ?_
    refine xGh_run 1 rfl (by repeat' (first | exact trivial | assumption | exact xob_b rfl | exact xal_b rfl | (apply And.intro) | decide)) ?_
    refine xGh_c 2 rfl (by repeat' (first | exact trivial | assumption | exact xob_b rfl | exact xal_b rfl | (apply And.intro) | decide)) rfl rfl (by decide) cw_X11_tell (pr_tell hI (Or.inl rfl) 190 (by omega)) (by decide) (by show _ ≤ 600128; omega) (by show _ ≤ 7301097; omega) ?_
    rintro v M1 ⟨w, rfl, hg⟩
    dsimp only [Option.toList, List.cons_append, List.nil_append]
    refine xGh_run 1 rfl (by repeat' (first | exact trivial | assumption | exact xob_b rfl | exact xal_b rfl | (apply And.intro) | decide)) ?_
    refine xGh_arg rfl rfl rfl trivial rfl zl_s (ra_v hr (v := 1) (by decide) (by decide)) ?_
    refine xGh_arg rfl rfl rfl trivial rfl zl_s (ra_v hr (v := 2) (by decide) (by decide)) ?_
    refine xGh_brT rfl hc ?_
    refine xGh_run 1 rfl (by repeat' (first | exact trivial | assumption | exact xob_b rfl | exact xal_b rfl | (apply And.intro) | decide)) ?_
    refine xGh_c 2 rfl (by repeat' (first | exact trivial | assumption | exact xob_b rfl | exact xal_b rfl | (apply And.intro) | decide)) rfl rfl (by decide) cw_X12_tell (hg 190 (by omega)) (by decide) (by show _ ≤ 600128; omega) (by show _ ≤ 7301097; omega) ?_
    rintro v M2 ⟨rfl, hI2⟩
    dsimp only [Option.toList, List.cons_append, List.nil_append]
    refine xGh_brT rfl rfl ?_
    exact kk M2 a5 a6 a7 k1 k2 hI2 (by omega) (by omega)
  · refine xGh_run 1 rfl (by repeat' (first | exact trivial | assumption | exact xob_b rfl | exact xal_b rfl | (apply And.intro) | decide)) ?_
    refine xGh_arg rfl rfl rfl trivial rfl zl_s (ra_v hr (v := 1) (by decide) (by decide)) ?_
    refine xGh_arg rfl rfl rfl trivial rfl zl_s (ra_v hr (v := 2) (by decide) (by decide)) ?_
    refine xGh_brF rfl hc ?_
    refine xGh_run 2 rfl (by repeat' (first | exact trivial | assumption | exact xob_b rfl | exact xal_b rfl | (apply And.intro) | decide)) ?_
    refine xGh_c 2 rfl (by repeat' (first | exact trivial | assumption | exact xob_b rfl | exact xal_b rfl | (apply And.intro) | decide)) rfl rfl (by decide) cw_X11_tell (pr_tell hI (Or.inr rfl) 190 (by omega)) (by decide) (by show _ ≤ 600128; omega) (by show _ ≤ 7301097; omega) ?_
    rintro v M1 ⟨w, rfl, hg⟩
    dsimp only [Option.toList, List.cons_append, List.nil_append]
    refine xGh_run 1 rfl (by repeat' (first | exact trivial | assumption | exact xob_b rfl | exact xal_b rfl | (apply And.intro) | decide)) ?_
    refine xGh_arg rfl rfl rfl trivial rfl zl_s (ra_v hr (v := 1) (by decide) (by decide)) ?_
    refine xGh_arg rfl rfl rfl trivial rfl zl_s (ra_v hr (v := 2) (by decide) (by decide)) ?_
    refine xGh_brF rfl hc ?_
    refine xGh_run 2 rfl (by repeat' (first | exact trivial | assumption | exact xob_b rfl | exact xal_b rfl | (apply And.intro) | decide)) ?_
    refine xGh_c 2 rfl (by repeat' (first | exact trivial | assumption | exact xob_b rfl | exact xal_b rfl | (apply And.intro) | decide)) rfl rfl (by decide) cw_X12_tell (hg 190 (by omega)) (by decide) (by show _ ≤ 600128; omega) (by show _ ≤ 7301097; omega) ?_
    rintro v M2 ⟨rfl, hI2⟩
    dsimp only [Option.toList, List.cons_append, List.nil_append]
    refine xGh_brT rfl rfl ?_
    exact kk M2 a5 a6 a7 k1 k2 hI2 (by omega) (by omega)
theorem gwl_rl : Cond.initialized RL ∈ GW := xw1 (by decide +kernel)
theorem gwl_push : Cond.methodLink mL_law.1.1 62 mL_push.1.2.1 ∈ GW := xw1 (by decide +kernel)
theorem gws_push : Cond.static mL_push.1.2.1 ∈ GW := xw1 (by decide +kernel)
theorem gwcw_push : Cond.codeWith mL_push.1.2.1 mL_push.1.2.2 mL_push.2.1.1 mL_push.2.1.2.1 [(0, 8, 11, 13)] ∈ GW := xw1 (by decide +kernel)
set_option maxRecDepth 8000 in
theorem la_8 {κ : xKK} {b N : Nat} {xs : Nat → Int32} {YS : xX → Prop} {M : xM} {i : Int32} {a5 a6 a7 : Option Value} {k1 k2 : Nat} (hl : κ.1.stackTraces = false) (hI : IV M) (hr : raI N i) (hk1 : k1 ≤ 600000) (hk2 : k2 ≤ 7000000) (kk : laK κ b N xs YS i k1 k2) : xGh κ (Zl κ b N xs) mL_law rL (520, LL b i a5 a6 a7, [], M, 182, false, k1, k2) YS := by
  refine xGh_run 1 rfl (by repeat' (first | exact trivial | assumption | exact xob_b rfl | exact xal_b rfl | (apply And.intro) | decide)) ?_
  refine xGh_arg rfl rfl rfl trivial rfl zl_s (ra_v hr (v := 1) (by decide) (by decide)) ?_
  refine xGh_run 1 rfl (by repeat' (first | exact trivial | assumption | exact xob_b rfl | exact xal_b rfl | (apply And.intro) | decide)) ?_
  refine xGh_hs (idx := 62) (as := [.ref 0, .int (xs (i + 1).toNatClampNeg), .ref 181]) (st := []) (my := mL_push) (hh := [(0, 8, 11, 13)]) (r' := (40, 1, 6)) rfl rfl gwl_push gws_push gwl_rl gwcw_push (by decide +kernel) (by decide) rfl (pr_push hl hI) zl_t ⟨by decide, by show k1 + 1 ≤ 600128; omega, by show k2 + 6 ≤ 7301097; omega⟩ ?_
  intro w M1 hg
  refine xGh_run 2 rfl (by repeat' (first | exact trivial | assumption | exact xob_b rfl | exact xal_b rfl | (apply And.intro) | decide)) ?_
  show xGh κ (Zl κ b N xs) mL_law rL (534, LL b i (some (.int w)) a6 a7, [.ref 166], M1, 182, false, k1 + 1, k2 + 6) YS
  refine xGh_arg rfl rfl rfl trivial rfl zl_s (ra_v hr (v := 1) (by decide) (by decide)) ?_
  refine xGh_c 1 rfl (by repeat' (first | exact trivial | assumption | exact xob_b rfl | exact xal_b rfl | (apply And.intro) | decide)) rfl rfl (by decide) cw_X12_push (hg 190 (by omega)) (by decide) (by show _ ≤ 600128; omega) (by show _ ≤ 7301097; omega) ?_
  rintro v M2 ⟨bb, rfl, h11, h0, hI2⟩
  dsimp only [Option.toList, List.cons_append, List.nil_append]
  refine xGh_run 2 rfl (by repeat' (first | exact trivial | assumption | exact xob_b rfl | exact xal_b rfl | (apply And.intro) | decide)) ?_
  show xGh κ (Zl κ b N xs) mL_law rL (546, LL b i (some (.int w)) (some (.long bb)) none, [.ref 166], M2, 182, false, k1 + 1, k2 + 6) YS
  refine xGh_c 0 rfl (by repeat' (first | exact trivial | assumption | exact xob_b rfl | exact xal_b rfl | (apply And.intro) | decide)) rfl rfl (by decide) cw_X12_thrown (e_m_thrown (d := 190)) (by decide) (by show _ ≤ 600128; omega) (by show _ ≤ 7301097; omega) ?_
  rintro v M3 ⟨rfl, hM⟩
  subst M3
  dsimp only [Option.toList, List.cons_append, List.nil_append]
  refine xGh_run 1 rfl (by repeat' (first | exact trivial | assumption | exact xob_b rfl | exact xal_b rfl | (apply And.intro) | decide)) ?_
  refine xGh_brT rfl h11 ?_
  refine xGh_run 1 rfl (by repeat' (first | exact trivial | assumption | exact xob_b rfl | exact xal_b rfl | (apply And.intro) | decide)) ?_
  have hxo := xar_out
  by_cases hw : w = 0
  · refine xGh_brF rfl (fun q => q hw) ?_
    refine xGh_run 5 rfl (by repeat' (first | exact trivial | assumption | exact xob_b rfl | exact xal_b rfl | (apply And.intro) | decide)) ?_
    refine xGh_brT rfl ((lg_eq0 _ _).mpr (h0 hw)) ?_
    refine xGh_run 1 rfl (by repeat' (first | exact trivial | assumption | exact xob_b rfl | exact xal_b rfl | (apply And.intro) | decide)) ?_
    exact kk M2 (some (.int w)) (some (.long bb)) none (k1 + 1) (k2 + 6) hI2 (by omega) (by omega)
  · refine xGh_brT rfl hw ?_
    refine xGh_run 1 rfl (by repeat' (first | exact trivial | assumption | exact xob_b rfl | exact xal_b rfl | (apply And.intro) | decide)) ?_
    exact kk M2 (some (.int w)) (some (.long bb)) none (k1 + 1) (k2 + 6) hI2 (by omega) (by omega)
theorem gwl_rest : Cond.methodLink mL_law.1.1 72 mL_rest.1.2.1 ∈ GW := xw1 (by decide +kernel)
theorem gws_rest : Cond.static mL_rest.1.2.1 ∈ GW := xw1 (by decide +kernel)
theorem gwcw_rest : Cond.codeWith mL_rest.1.2.1 mL_rest.1.2.2 mL_rest.2.1.1 mL_rest.2.1.2.1 [(0, 8, 11, 13)] ∈ GW := xw1 (by decide +kernel)
set_option maxRecDepth 8000 in
theorem la_9 {κ : xKK} {b N : Nat} {xs : Nat → Int32} {YS : xX → Prop} {M : xM} {i : Int32} {a5 a6 a7 : Option Value} {k1 k2 : Nat} (hl : κ.1.stackTraces = false) (hI : IV M) (hr : raI N i) (hk1 : k1 ≤ 600000) (hk2 : k2 ≤ 7000000) (kk : laK κ b N xs YS i k1 k2) : xGh κ (Zl κ b N xs) mL_law rL (575, LL b i a5 a6 a7, [], M, 182, false, k1, k2) YS := by
  refine xGh_run 1 rfl (by repeat' (first | exact trivial | assumption | exact xob_b rfl | exact xal_b rfl | (apply And.intro) | decide)) ?_
  refine xGh_arg rfl rfl rfl trivial rfl zl_s (ra_v hr (v := 1) (by decide) (by decide)) ?_
  refine xGh_run 1 rfl (by repeat' (first | exact trivial | assumption | exact xob_b rfl | exact xal_b rfl | (apply And.intro) | decide)) ?_
  refine xGh_hs (idx := 72) (as := [.ref 0, .int (xs (i + 1).toNatClampNeg), .ref 181]) (st := []) (my := mL_rest) (hh := [(0, 8, 11, 13)]) (r' := (40, 1, 6)) rfl rfl gwl_rest gws_rest gwl_rl gwcw_rest (by decide +kernel) (by decide) rfl (pr_rest hl hI) zl_t ⟨by decide, by show k1 + 1 ≤ 600128; omega, by show k2 + 6 ≤ 7301097; omega⟩ ?_
  intro w M1 hg
  refine xGh_run 2 rfl (by repeat' (first | exact trivial | assumption | exact xob_b rfl | exact xal_b rfl | (apply And.intro) | decide)) ?_
  show xGh κ (Zl κ b N xs) mL_law rL (589, LL b i (some (.int w)) a6 a7, [.ref 166], M1, 182, false, k1 + 1, k2 + 6) YS
  refine xGh_arg rfl rfl rfl trivial rfl zl_s (ra_v hr (v := 1) (by decide) (by decide)) ?_
  refine xGh_c 1 rfl (by repeat' (first | exact trivial | assumption | exact xob_b rfl | exact xal_b rfl | (apply And.intro) | decide)) rfl rfl (by decide) cw_X12_rest (hg 190 (by omega)) (by decide) (by show _ ≤ 600128; omega) (by show _ ≤ 7301097; omega) ?_
  rintro v M2 ⟨bb, rfl, h11, h0, hI2⟩
  dsimp only [Option.toList, List.cons_append, List.nil_append]
  refine xGh_run 2 rfl (by repeat' (first | exact trivial | assumption | exact xob_b rfl | exact xal_b rfl | (apply And.intro) | decide)) ?_
  show xGh κ (Zl κ b N xs) mL_law rL (601, LL b i (some (.int w)) (some (.long bb)) none, [.ref 166], M2, 182, false, k1 + 1, k2 + 6) YS
  refine xGh_c 0 rfl (by repeat' (first | exact trivial | assumption | exact xob_b rfl | exact xal_b rfl | (apply And.intro) | decide)) rfl rfl (by decide) cw_X12_thrown (e_m_thrown (d := 190)) (by decide) (by show _ ≤ 600128; omega) (by show _ ≤ 7301097; omega) ?_
  rintro v M3 ⟨rfl, hM⟩
  subst M3
  dsimp only [Option.toList, List.cons_append, List.nil_append]
  refine xGh_run 1 rfl (by repeat' (first | exact trivial | assumption | exact xob_b rfl | exact xal_b rfl | (apply And.intro) | decide)) ?_
  refine xGh_brT rfl h11 ?_
  refine xGh_run 1 rfl (by repeat' (first | exact trivial | assumption | exact xob_b rfl | exact xal_b rfl | (apply And.intro) | decide)) ?_
  have hxo := xar_out
  by_cases hw : w = 0
  · refine xGh_brF rfl (fun q => q hw) ?_
    refine xGh_run 5 rfl (by repeat' (first | exact trivial | assumption | exact xob_b rfl | exact xal_b rfl | (apply And.intro) | decide)) ?_
    refine xGh_brT rfl ((lg_eq0 _ _).mpr (h0 hw)) ?_
    refine xGh_run 1 rfl (by repeat' (first | exact trivial | assumption | exact xob_b rfl | exact xal_b rfl | (apply And.intro) | decide)) ?_
    exact kk M2 (some (.int w)) (some (.long bb)) none (k1 + 1) (k2 + 6) hI2 (by omega) (by omega)
  · refine xGh_brT rfl hw ?_
    refine xGh_run 1 rfl (by repeat' (first | exact trivial | assumption | exact xob_b rfl | exact xal_b rfl | (apply And.intro) | decide)) ?_
    exact kk M2 (some (.int w)) (some (.long bb)) none (k1 + 1) (k2 + 6) hI2 (by omega) (by omega)
theorem gwl_element : Cond.methodLink mL_law.1.1 203 mL_element.1.2.1 ∈ GW := xw1 (by decide +kernel)
theorem gws_element : Cond.static mL_element.1.2.1 ∈ GW := xw1 (by decide +kernel)
theorem gwcw_element : Cond.codeWith mL_element.1.2.1 mL_element.1.2.2 mL_element.2.1.1 mL_element.2.1.2.1 [(0, 9, 12, 13), (0, 9, 16, 22)] ∈ GW := xw1 (by decide +kernel)
set_option maxRecDepth 8000 in
theorem la_41 {κ : xKK} {b N : Nat} {xs : Nat → Int32} {YS : xX → Prop} {M : xM} {i : Int32} {a5 a6 a7 : Option Value} {k1 k2 : Nat} (hl : κ.1.stackTraces = false) (hI : IV M) (hr : raI N i) (hk1 : k1 ≤ 600000) (hk2 : k2 ≤ 7000000) (kk : laK κ b N xs YS i k1 k2) : xGh κ (Zl κ b N xs) mL_law rL (1651, LL b i a5 a6 a7, [], M, 182, false, k1, k2) YS := by
  refine xGh_run 1 rfl (by repeat' (first | exact trivial | assumption | exact xob_b rfl | exact xal_b rfl | (apply And.intro) | decide)) ?_
  refine xGh_arg rfl rfl rfl trivial rfl zl_s (ra_v hr (v := 1) (by decide) (by decide)) ?_
  refine xGh_arg rfl rfl rfl trivial rfl zl_s (ra_v hr (v := 2) (by decide) (by decide)) ?_
  refine xGh_run 1 rfl (by repeat' (first | exact trivial | assumption | exact xob_b rfl | exact xal_b rfl | (apply And.intro) | decide)) ?_
  refine xGh_hs (idx := 203) (as := [.ref 0, .int (xs (i + 1).toNatClampNeg), .int (xs (i + 2).toNatClampNeg), .ref 181]) (st := []) (my := mL_element) (hh := [(0, 9, 12, 13), (0, 9, 16, 22)]) (r' := (40, 1, 6)) rfl rfl gwl_element gws_element gwl_rl gwcw_element (by decide +kernel) (by decide) rfl (pr_element hl hI) zl_t ⟨by decide, by show k1 + 1 ≤ 600128; omega, by show k2 + 6 ≤ 7301097; omega⟩ ?_
  intro w M1 hg
  refine xGh_run 2 rfl (by repeat' (first | exact trivial | assumption | exact xob_b rfl | exact xal_b rfl | (apply And.intro) | decide)) ?_
  show xGh κ (Zl κ b N xs) mL_law rL (1671, LL b i (some (.int w)) a6 a7, [.ref 166], M1, 182, false, k1 + 1, k2 + 6) YS
  refine xGh_arg rfl rfl rfl trivial rfl zl_s (ra_v hr (v := 1) (by decide) (by decide)) ?_
  refine xGh_arg rfl rfl rfl trivial rfl zl_s (ra_v hr (v := 2) (by decide) (by decide)) ?_
  refine xGh_c 2 rfl (by repeat' (first | exact trivial | assumption | exact xob_b rfl | exact xal_b rfl | (apply And.intro) | decide)) rfl rfl (by decide) cw_X12_element (hg 190 (by omega)) (by decide) (by show _ ≤ 600128; omega) (by show _ ≤ 7301097; omega) ?_
  rintro v M2 ⟨bb, rfl, h11, h0, hI2⟩
  dsimp only [Option.toList, List.cons_append, List.nil_append]
  refine xGh_run 2 rfl (by repeat' (first | exact trivial | assumption | exact xob_b rfl | exact xal_b rfl | (apply And.intro) | decide)) ?_
  show xGh κ (Zl κ b N xs) mL_law rL (1689, LL b i (some (.int w)) (some (.long bb)) none, [.ref 166], M2, 182, false, k1 + 1, k2 + 6) YS
  refine xGh_c 0 rfl (by repeat' (first | exact trivial | assumption | exact xob_b rfl | exact xal_b rfl | (apply And.intro) | decide)) rfl rfl (by decide) cw_X12_thrown (e_m_thrown (d := 190)) (by decide) (by show _ ≤ 600128; omega) (by show _ ≤ 7301097; omega) ?_
  rintro v M3 ⟨rfl, hM⟩
  subst M3
  dsimp only [Option.toList, List.cons_append, List.nil_append]
  refine xGh_run 1 rfl (by repeat' (first | exact trivial | assumption | exact xob_b rfl | exact xal_b rfl | (apply And.intro) | decide)) ?_
  refine xGh_brT rfl h11 ?_
  refine xGh_run 1 rfl (by repeat' (first | exact trivial | assumption | exact xob_b rfl | exact xal_b rfl | (apply And.intro) | decide)) ?_
  have hxo := xar_out
  by_cases hw : w = 0
  · refine xGh_brF rfl (fun q => q hw) ?_
    refine xGh_run 5 rfl (by repeat' (first | exact trivial | assumption | exact xob_b rfl | exact xal_b rfl | (apply And.intro) | decide)) ?_
    refine xGh_brT rfl ((lg_eq0 _ _).mpr (h0 hw)) ?_
    refine xGh_run 1 rfl (by repeat' (first | exact trivial | assumption | exact xob_b rfl | exact xal_b rfl | (apply And.intro) | decide)) ?_
    exact kk M2 (some (.int w)) (some (.long bb)) none (k1 + 1) (k2 + 6) hI2 (by omega) (by omega)
  · refine xGh_brT rfl hw ?_
    refine xGh_run 1 rfl (by repeat' (first | exact trivial | assumption | exact xob_b rfl | exact xal_b rfl | (apply And.intro) | decide)) ?_
    exact kk M2 (some (.int w)) (some (.long bb)) none (k1 + 1) (k2 + 6) hI2 (by omega) (by omega)
