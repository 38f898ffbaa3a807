/-! ===== the law: its instructions checked, block by block ===== -/
theorem ci_blocks {m : xMI} {n : Nat} (hn : m.2.2.2.length = n) (h : ∀ k, k < n → ((m.2.2.2.getD k (0, [])).2.all fun r => xckE m.1.1 m.1.2.2 r.1 r.2) = true) : xckI m = true := by
  unfold xckI
  refine List.all_eq_true.mpr fun q hq => ?_
  obtain ⟨k, hk, rfl⟩ := List.mem_iff_getElem.mp hq
  have h1 := h k (by omega)
  rw [List.getD_eq_getElem?_getD (l := m.2.2.2), List.getElem?_eq_getElem hk] at h1
  exact h1
theorem cb_L_law_0 : ((mL_law.2.2.2.getD 0 (0, [])).2.all fun r => xckE mL_law.1.1 mL_law.1.2.2 r.1 r.2) = true := by decide +kernel
theorem cb_L_law_1 : ((mL_law.2.2.2.getD 1 (0, [])).2.all fun r => xckE mL_law.1.1 mL_law.1.2.2 r.1 r.2) = true := by decide +kernel
theorem cb_L_law_2 : ((mL_law.2.2.2.getD 2 (0, [])).2.all fun r => xckE mL_law.1.1 mL_law.1.2.2 r.1 r.2) = true := by decide +kernel
theorem cb_L_law_3 : ((mL_law.2.2.2.getD 3 (0, [])).2.all fun r => xckE mL_law.1.1 mL_law.1.2.2 r.1 r.2) = true := by decide +kernel
theorem cb_L_law_4 : ((mL_law.2.2.2.getD 4 (0, [])).2.all fun r => xckE mL_law.1.1 mL_law.1.2.2 r.1 r.2) = true := by decide +kernel
theorem cb_L_law_5 : ((mL_law.2.2.2.getD 5 (0, [])).2.all fun r => xckE mL_law.1.1 mL_law.1.2.2 r.1 r.2) = true := by decide +kernel
theorem cb_L_law_6 : ((mL_law.2.2.2.getD 6 (0, [])).2.all fun r => xckE mL_law.1.1 mL_law.1.2.2 r.1 r.2) = true := by decide +kernel
theorem cb_L_law_7 : ((mL_law.2.2.2.getD 7 (0, [])).2.all fun r => xckE mL_law.1.1 mL_law.1.2.2 r.1 r.2) = true := by decide +kernel
theorem cb_L_law_8 : ((mL_law.2.2.2.getD 8 (0, [])).2.all fun r => xckE mL_law.1.1 mL_law.1.2.2 r.1 r.2) = true := by decide +kernel
theorem cb_L_law_9 : ((mL_law.2.2.2.getD 9 (0, [])).2.all fun r => xckE mL_law.1.1 mL_law.1.2.2 r.1 r.2) = true := by decide +kernel
theorem cb_L_law_10 : ((mL_law.2.2.2.getD 10 (0, [])).2.all fun r => xckE mL_law.1.1 mL_law.1.2.2 r.1 r.2) = true := by decide +kernel
theorem cb_L_law_11 : ((mL_law.2.2.2.getD 11 (0, [])).2.all fun r => xckE mL_law.1.1 mL_law.1.2.2 r.1 r.2) = true := by decide +kernel
theorem cb_L_law_12 : ((mL_law.2.2.2.getD 12 (0, [])).2.all fun r => xckE mL_law.1.1 mL_law.1.2.2 r.1 r.2) = true := by decide +kernel
theorem cb_L_law_13 : ((mL_law.2.2.2.getD 13 (0, [])).2.all fun r => xckE mL_law.1.1 mL_law.1.2.2 r.1 r.2) = true := by decide +kernel
theorem cb_L_law_14 : ((mL_law.2.2.2.getD 14 (0, [])).2.all fun r => xckE mL_law.1.1 mL_law.1.2.2 r.1 r.2) = true := by decide +kernel
theorem cb_L_law_15 : ((mL_law.2.2.2.getD 15 (0, [])).2.all fun r => xckE mL_law.1.1 mL_law.1.2.2 r.1 r.2) = true := by decide +kernel
theorem cb_L_law_16 : ((mL_law.2.2.2.getD 16 (0, [])).2.all fun r => xckE mL_law.1.1 mL_law.1.2.2 r.1 r.2) = true := by decide +kernel
theorem cb_L_law_17 : ((mL_law.2.2.2.getD 17 (0, [])).2.all fun r => xckE mL_law.1.1 mL_law.1.2.2 r.1 r.2) = true := by decide +kernel
theorem cb_L_law_18 : ((mL_law.2.2.2.getD 18 (0, [])).2.all fun r => xckE mL_law.1.1 mL_law.1.2.2 r.1 r.2) = true := by decide +kernel
theorem cb_L_law_19 : ((mL_law.2.2.2.getD 19 (0, [])).2.all fun r => xckE mL_law.1.1 mL_law.1.2.2 r.1 r.2) = true := by decide +kernel
theorem cb_L_law_20 : ((mL_law.2.2.2.getD 20 (0, [])).2.all fun r => xckE mL_law.1.1 mL_law.1.2.2 r.1 r.2) = true := by decide +kernel
theorem cb_L_law_21 : ((mL_law.2.2.2.getD 21 (0, [])).2.all fun r => xckE mL_law.1.1 mL_law.1.2.2 r.1 r.2) = true := by decide +kernel
theorem cb_L_law_22 : ((mL_law.2.2.2.getD 22 (0, [])).2.all fun r => xckE mL_law.1.1 mL_law.1.2.2 r.1 r.2) = true := by decide +kernel
theorem cb_L_law_23 : ((mL_law.2.2.2.getD 23 (0, [])).2.all fun r => xckE mL_law.1.1 mL_law.1.2.2 r.1 r.2) = true := by decide +kernel
theorem cb_L_law_24 : ((mL_law.2.2.2.getD 24 (0, [])).2.all fun r => xckE mL_law.1.1 mL_law.1.2.2 r.1 r.2) = true := by decide +kernel
theorem cb_L_law_25 : ((mL_law.2.2.2.getD 25 (0, [])).2.all fun r => xckE mL_law.1.1 mL_law.1.2.2 r.1 r.2) = true := by decide +kernel
theorem cb_L_law_26 : ((mL_law.2.2.2.getD 26 (0, [])).2.all fun r => xckE mL_law.1.1 mL_law.1.2.2 r.1 r.2) = true := by decide +kernel
theorem cb_L_law_27 : ((mL_law.2.2.2.getD 27 (0, [])).2.all fun r => xckE mL_law.1.1 mL_law.1.2.2 r.1 r.2) = true := by decide +kernel
theorem cb_L_law_28 : ((mL_law.2.2.2.getD 28 (0, [])).2.all fun r => xckE mL_law.1.1 mL_law.1.2.2 r.1 r.2) = true := by decide +kernel
theorem cb_L_law_29 : ((mL_law.2.2.2.getD 29 (0, [])).2.all fun r => xckE mL_law.1.1 mL_law.1.2.2 r.1 r.2) = true := by decide +kernel
theorem cb_L_law_30 : ((mL_law.2.2.2.getD 30 (0, [])).2.all fun r => xckE mL_law.1.1 mL_law.1.2.2 r.1 r.2) = true := by decide +kernel
theorem cb_L_law_31 : ((mL_law.2.2.2.getD 31 (0, [])).2.all fun r => xckE mL_law.1.1 mL_law.1.2.2 r.1 r.2) = true := by decide +kernel
theorem cb_L_law_32 : ((mL_law.2.2.2.getD 32 (0, [])).2.all fun r => xckE mL_law.1.1 mL_law.1.2.2 r.1 r.2) = true := by decide +kernel
theorem cb_L_law_33 : ((mL_law.2.2.2.getD 33 (0, [])).2.all fun r => xckE mL_law.1.1 mL_law.1.2.2 r.1 r.2) = true := by decide +kernel
theorem cb_L_law_34 : ((mL_law.2.2.2.getD 34 (0, [])).2.all fun r => xckE mL_law.1.1 mL_law.1.2.2 r.1 r.2) = true := by decide +kernel
theorem cb_L_law_35 : ((mL_law.2.2.2.getD 35 (0, [])).2.all fun r => xckE mL_law.1.1 mL_law.1.2.2 r.1 r.2) = true := by decide +kernel
theorem cb_L_law_36 : ((mL_law.2.2.2.getD 36 (0, [])).2.all fun r => xckE mL_law.1.1 mL_law.1.2.2 r.1 r.2) = true := by decide +kernel
theorem cb_L_law_37 : ((mL_law.2.2.2.getD 37 (0, [])).2.all fun r => xckE mL_law.1.1 mL_law.1.2.2 r.1 r.2) = true := by decide +kernel
theorem cb_L_law_38 : ((mL_law.2.2.2.getD 38 (0, [])).2.all fun r => xckE mL_law.1.1 mL_law.1.2.2 r.1 r.2) = true := by decide +kernel
theorem cb_L_law_39 : ((mL_law.2.2.2.getD 39 (0, [])).2.all fun r => xckE mL_law.1.1 mL_law.1.2.2 r.1 r.2) = true := by decide +kernel
theorem cb_L_law_40 : ((mL_law.2.2.2.getD 40 (0, [])).2.all fun r => xckE mL_law.1.1 mL_law.1.2.2 r.1 r.2) = true := by decide +kernel
theorem cb_L_law_41 : ((mL_law.2.2.2.getD 41 (0, [])).2.all fun r => xckE mL_law.1.1 mL_law.1.2.2 r.1 r.2) = true := by decide +kernel
theorem cb_L_law_42 : ((mL_law.2.2.2.getD 42 (0, [])).2.all fun r => xckE mL_law.1.1 mL_law.1.2.2 r.1 r.2) = true := by decide +kernel
theorem cb_L_law_43 : ((mL_law.2.2.2.getD 43 (0, [])).2.all fun r => xckE mL_law.1.1 mL_law.1.2.2 r.1 r.2) = true := by decide +kernel
theorem cb_L_law_44 : ((mL_law.2.2.2.getD 44 (0, [])).2.all fun r => xckE mL_law.1.1 mL_law.1.2.2 r.1 r.2) = true := by decide +kernel
theorem cb_L_law_45 : ((mL_law.2.2.2.getD 45 (0, [])).2.all fun r => xckE mL_law.1.1 mL_law.1.2.2 r.1 r.2) = true := by decide +kernel
theorem cb_L_law_46 : ((mL_law.2.2.2.getD 46 (0, [])).2.all fun r => xckE mL_law.1.1 mL_law.1.2.2 r.1 r.2) = true := by decide +kernel
theorem cb_L_law_47 : ((mL_law.2.2.2.getD 47 (0, [])).2.all fun r => xckE mL_law.1.1 mL_law.1.2.2 r.1 r.2) = true := by decide +kernel
theorem cb_L_law_48 : ((mL_law.2.2.2.getD 48 (0, [])).2.all fun r => xckE mL_law.1.1 mL_law.1.2.2 r.1 r.2) = true := by decide +kernel
theorem cb_L_law_49 : ((mL_law.2.2.2.getD 49 (0, [])).2.all fun r => xckE mL_law.1.1 mL_law.1.2.2 r.1 r.2) = true := by decide +kernel
theorem cb_L_law_50 : ((mL_law.2.2.2.getD 50 (0, [])).2.all fun r => xckE mL_law.1.1 mL_law.1.2.2 r.1 r.2) = true := by decide +kernel
theorem cb_L_law_51 : ((mL_law.2.2.2.getD 51 (0, [])).2.all fun r => xckE mL_law.1.1 mL_law.1.2.2 r.1 r.2) = true := by decide +kernel
theorem cb_L_law_52 : ((mL_law.2.2.2.getD 52 (0, [])).2.all fun r => xckE mL_law.1.1 mL_law.1.2.2 r.1 r.2) = true := by decide +kernel
theorem cb_L_law_53 : ((mL_law.2.2.2.getD 53 (0, [])).2.all fun r => xckE mL_law.1.1 mL_law.1.2.2 r.1 r.2) = true := by decide +kernel
theorem cb_L_law_54 : ((mL_law.2.2.2.getD 54 (0, [])).2.all fun r => xckE mL_law.1.1 mL_law.1.2.2 r.1 r.2) = true := by decide +kernel
theorem cb_L_law_55 : ((mL_law.2.2.2.getD 55 (0, [])).2.all fun r => xckE mL_law.1.1 mL_law.1.2.2 r.1 r.2) = true := by decide +kernel
theorem cb_L_law_56 : ((mL_law.2.2.2.getD 56 (0, [])).2.all fun r => xckE mL_law.1.1 mL_law.1.2.2 r.1 r.2) = true := by decide +kernel
theorem cb_L_law_57 : ((mL_law.2.2.2.getD 57 (0, [])).2.all fun r => xckE mL_law.1.1 mL_law.1.2.2 r.1 r.2) = true := by decide +kernel
theorem cb_L_law_58 : ((mL_law.2.2.2.getD 58 (0, [])).2.all fun r => xckE mL_law.1.1 mL_law.1.2.2 r.1 r.2) = true := by decide +kernel
theorem cb_L_law_59 : ((mL_law.2.2.2.getD 59 (0, [])).2.all fun r => xckE mL_law.1.1 mL_law.1.2.2 r.1 r.2) = true := by decide +kernel
theorem cb_L_law_60 : ((mL_law.2.2.2.getD 60 (0, [])).2.all fun r => xckE mL_law.1.1 mL_law.1.2.2 r.1 r.2) = true := by decide +kernel
theorem cb_L_law_61 : ((mL_law.2.2.2.getD 61 (0, [])).2.all fun r => xckE mL_law.1.1 mL_law.1.2.2 r.1 r.2) = true := by decide +kernel
theorem cb_L_law_62 : ((mL_law.2.2.2.getD 62 (0, [])).2.all fun r => xckE mL_law.1.1 mL_law.1.2.2 r.1 r.2) = true := by decide +kernel
theorem cb_L_law_63 : ((mL_law.2.2.2.getD 63 (0, [])).2.all fun r => xckE mL_law.1.1 mL_law.1.2.2 r.1 r.2) = true := by decide +kernel
theorem cb_L_law_64 : ((mL_law.2.2.2.getD 64 (0, [])).2.all fun r => xckE mL_law.1.1 mL_law.1.2.2 r.1 r.2) = true := by decide +kernel
theorem cb_L_law_65 : ((mL_law.2.2.2.getD 65 (0, [])).2.all fun r => xckE mL_law.1.1 mL_law.1.2.2 r.1 r.2) = true := by decide +kernel
theorem cb_L_law_66 : ((mL_law.2.2.2.getD 66 (0, [])).2.all fun r => xckE mL_law.1.1 mL_law.1.2.2 r.1 r.2) = true := by decide +kernel
theorem cb_L_law_67 : ((mL_law.2.2.2.getD 67 (0, [])).2.all fun r => xckE mL_law.1.1 mL_law.1.2.2 r.1 r.2) = true := by decide +kernel
theorem cb_L_law_68 : ((mL_law.2.2.2.getD 68 (0, [])).2.all fun r => xckE mL_law.1.1 mL_law.1.2.2 r.1 r.2) = true := by decide +kernel
theorem cb_L_law_69 : ((mL_law.2.2.2.getD 69 (0, [])).2.all fun r => xckE mL_law.1.1 mL_law.1.2.2 r.1 r.2) = true := by decide +kernel
theorem cb_L_law_70 : ((mL_law.2.2.2.getD 70 (0, [])).2.all fun r => xckE mL_law.1.1 mL_law.1.2.2 r.1 r.2) = true := by decide +kernel
theorem cb_L_law_71 : ((mL_law.2.2.2.getD 71 (0, [])).2.all fun r => xckE mL_law.1.1 mL_law.1.2.2 r.1 r.2) = true := by decide +kernel
theorem cb_L_law_72 : ((mL_law.2.2.2.getD 72 (0, [])).2.all fun r => xckE mL_law.1.1 mL_law.1.2.2 r.1 r.2) = true := by decide +kernel
theorem ci_L_law : xckI mL_law = true := ci_blocks (n := 73) (by decide +kernel) fun k hk => by
  match k, hk with
  | 0, _ => exact cb_L_law_0
  | 1, _ => exact cb_L_law_1
  | 2, _ => exact cb_L_law_2
  | 3, _ => exact cb_L_law_3
  | 4, _ => exact cb_L_law_4
  | 5, _ => exact cb_L_law_5
  | 6, _ => exact cb_L_law_6
  | 7, _ => exact cb_L_law_7
  | 8, _ => exact cb_L_law_8
  | 9, _ => exact cb_L_law_9
  | 10, _ => exact cb_L_law_10
  | 11, _ => exact cb_L_law_11
  | 12, _ => exact cb_L_law_12
  | 13, _ => exact cb_L_law_13
  | 14, _ => exact cb_L_law_14
  | 15, _ => exact cb_L_law_15
  | 16, _ => exact cb_L_law_16
  | 17, _ => exact cb_L_law_17
  | 18, _ => exact cb_L_law_18
  | 19, _ => exact cb_L_law_19
  | 20, _ => exact cb_L_law_20
  | 21, _ => exact cb_L_law_21
  | 22, _ => exact cb_L_law_22
  | 23, _ => exact cb_L_law_23
  | 24, _ => exact cb_L_law_24
  | 25, _ => exact cb_L_law_25
  | 26, _ => exact cb_L_law_26
  | 27, _ => exact cb_L_law_27
  | 28, _ => exact cb_L_law_28
  | 29, _ => exact cb_L_law_29
  | 30, _ => exact cb_L_law_30
  | 31, _ => exact cb_L_law_31
  | 32, _ => exact cb_L_law_32
  | 33, _ => exact cb_L_law_33
  | 34, _ => exact cb_L_law_34
  | 35, _ => exact cb_L_law_35
  | 36, _ => exact cb_L_law_36
  | 37, _ => exact cb_L_law_37
  | 38, _ => exact cb_L_law_38
  | 39, _ => exact cb_L_law_39
  | 40, _ => exact cb_L_law_40
  | 41, _ => exact cb_L_law_41
  | 42, _ => exact cb_L_law_42
  | 43, _ => exact cb_L_law_43
  | 44, _ => exact cb_L_law_44
  | 45, _ => exact cb_L_law_45
  | 46, _ => exact cb_L_law_46
  | 47, _ => exact cb_L_law_47
  | 48, _ => exact cb_L_law_48
  | 49, _ => exact cb_L_law_49
  | 50, _ => exact cb_L_law_50
  | 51, _ => exact cb_L_law_51
  | 52, _ => exact cb_L_law_52
  | 53, _ => exact cb_L_law_53
  | 54, _ => exact cb_L_law_54
  | 55, _ => exact cb_L_law_55
  | 56, _ => exact cb_L_law_56
  | 57, _ => exact cb_L_law_57
  | 58, _ => exact cb_L_law_58
  | 59, _ => exact cb_L_law_59
  | 60, _ => exact cb_L_law_60
  | 61, _ => exact cb_L_law_61
  | 62, _ => exact cb_L_law_62
  | 63, _ => exact cb_L_law_63
  | 64, _ => exact cb_L_law_64
  | 65, _ => exact cb_L_law_65
  | 66, _ => exact cb_L_law_66
  | 67, _ => exact cb_L_law_67
  | 68, _ => exact cb_L_law_68
  | 69, _ => exact cb_L_law_69
  | 70, _ => exact cb_L_law_70
  | 71, _ => exact cb_L_law_71
  | 72, _ => exact cb_L_law_72
  | k + 73, hk => omega
theorem cl_L_law : xckL mL_law = true := by decide +kernel
/-! ===== the law's helpers ===== -/
noncomputable def mL_push : xMI := ((RL, yL_push, cL_push), (4, (some .int), 3, true), (0, 0, 0, 0), [(15, [(0, .aload_n 2, 1, (2, 0, 0), 0, 0), (1, .iconst 0, 2, (0, 0, 0), 0, 0), (2, .aload_n 0, 3, (0, 0, 0), 0, 0), (3, .iload_n 1, 4, (1, 0, 0), 0, 0), (4, .invokevirtual 7, 7, (94, 11, 1088), 0, 0), (7, .lastore, 8, (0, 0, 0), 0, 0), (8, .goto 6, 11, (14, 0, 0), 0, 0), (11, .astore_n 3, 12, (3, 0, 0), 0, 0), (12, .iconst 1, 13, (0, 0, 0), 1, 0), (13, .ireturn, 14, (0, 0, 0), 0, 0), (14, .iconst 0, 15, (0, 0, 0), 0, 0), (15, .ireturn, 16, (0, 0, 0), 0, 0)])])
theorem ci_L_push : xckI mL_push = true := by decide +kernel
theorem cl_L_push : xckL mL_push = true := by decide +kernel
noncomputable def mL_rest : xMI := ((RL, yL_rest, cL_rest), (4, (some .int), 3, true), (0, 0, 0, 0), [(15, [(0, .aload_n 2, 1, (2, 0, 0), 0, 0), (1, .iconst 0, 2, (0, 0, 0), 0, 0), (2, .aload_n 0, 3, (0, 0, 0), 0, 0), (3, .iload_n 1, 4, (1, 0, 0), 0, 0), (4, .invokevirtual 15, 7, (95, 11, 1163), 0, 0), (7, .lastore, 8, (0, 0, 0), 0, 0), (8, .goto 6, 11, (14, 0, 0), 0, 0), (11, .astore_n 3, 12, (3, 0, 0), 0, 0), (12, .iconst 1, 13, (0, 0, 0), 1, 0), (13, .ireturn, 14, (0, 0, 0), 0, 0), (14, .iconst 0, 15, (0, 0, 0), 0, 0), (15, .ireturn, 16, (0, 0, 0), 0, 0)])])
theorem ci_L_rest : xckI mL_rest = true := by decide +kernel
theorem cl_L_rest : xckL mL_rest = true := by decide +kernel
noncomputable def mL_element : xMI := ((RL, yL_element, cL_element), (5, (some .int), 4, true), (0, 0, 0, 0), [(21, [(0, .aload_n 3, 1, (3, 0, 0), 0, 0), (1, .iconst 0, 2, (0, 0, 0), 0, 0), (2, .aload_n 0, 3, (0, 0, 0), 0, 0), (3, .iload_n 1, 4, (1, 0, 0), 0, 0), (4, .iload_n 2, 5, (2, 0, 0), 0, 0), (5, .invokevirtual 18, 8, (127, 11, 1172), 0, 0), (8, .lastore, 9, (0, 0, 0), 0, 0), (9, .goto 11, 12, (20, 0, 0), 0, 0), (12, .astore 4, 14, (4, 0, 0), 0, 0), (14, .iconst 1, 15, (0, 0, 0), 1, 0), (15, .ireturn, 16, (0, 0, 0), 0, 0), (16, .astore 4, 18, (4, 0, 0), 0, 0), (18, .iconst 2, 19, (0, 0, 0), 2, 0), (19, .ireturn, 20, (0, 0, 0), 0, 0), (20, .iconst 0, 21, (0, 0, 0), 0, 0), (21, .ireturn, 22, (0, 0, 0), 0, 0)])])
theorem ci_L_element : xckI mL_element = true := by decide +kernel
theorem cl_L_element : xckL mL_element = true := by decide +kernel
