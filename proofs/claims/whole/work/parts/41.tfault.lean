/-! ===== the first pass of the class ===== -/
def opM (M : xM) (t n : Nat) : xM := sI (sI (sI (sP M 127 0 (some t)) 127 1 (nI n)) 127 2 0) 127 3 0
set_option maxRecDepth 4000 in
theorem e_open {κ : xKK} {d : Nat} {M : xM} {t n : Nat} (hsh : shp[t]? = some (.inr (0, 120))) (ht : t < 182) (hn : n ≤ 120) : xE2 κ mX10_open d [.ref 127, .ref t, .int (nI n)] M (fun v M' => v = none ∧ M' = opM M t n) := by
  refine xE2_of ci_X10_open cl_X10_open cw_X10_open rfl (L := [some (.ref 127), some (.ref t), some (.int (nI n))]) rfl ?_
  have hal : xal t 182 := ⟨⟨0, 120, by decide, hsh⟩, ht⟩
  have hln : nI (xlen t) = nI 120 := by unfold xlen; rw [hsh]
  have hmn : (if nI 120 < nI n then nI 120 else nI n) = nI n := if_neg (nI_nlt hn (by omega))
  refine xG_run 7 rfl (by repeat' (first | exact trivial | assumption | exact xob_b rfl | exact xal_b rfl | (apply And.intro) | decide)) ?_
  try dsimp only [xsto1, xsto2, xkill, xget, xset, gd_0, gd_s]
  rw [hln]
  refine xG_run 1 rfl (by repeat' (first | exact trivial | assumption | exact xob_b rfl | exact xal_b rfl | (apply And.intro) | decide)) ?_
  try dsimp only [xsto1, xsto2, xkill, xget, xset, gd_0, gd_s]
  rw [hmn]
  refine xG_run 7 rfl (by repeat' (first | exact trivial | assumption | exact xob_b rfl | exact xal_b rfl | (apply And.intro) | decide)) ?_
  try dsimp only [xsto1, xsto2, xkill, xget, xset, gd_0, gd_s]
  refine r2_v rfl rfl ?_
  exact ⟨rfl, rfl⟩
set_option maxRecDepth 4000 in
theorem e_hasMore {κ : xKK} {d : Nat} {M : xM}  : xE2 κ mX10_hasMore d [.ref 127] M (fun v M' => v = some (.int (if gI M 127 3 = 0 ∧ gI M 127 2 < gI M 127 1 then 1 else 0)) ∧ M' = M) := by
  refine xE2_of ci_X10_hasMore cl_X10_hasMore cw_X10_hasMore rfl (L := [some (.ref 127)]) rfl ?_
  refine xG_run 2 rfl (by repeat' (first | exact trivial | assumption | exact xob_b rfl | exact xal_b rfl | (apply And.intro) | decide)) ?_
  try dsimp only [xsto1, xsto2, xkill, xget, xset, gd_0, gd_s]
  refine xG_br rfl (fun h4 => ?_) (fun h4 => ?_)
  · refine xG_run 1 rfl (by repeat' (first | exact trivial | assumption | exact xob_b rfl | exact xal_b rfl | (apply And.intro) | decide)) ?_
    try dsimp only [xsto1, xsto2, xkill, xget, xset, gd_0, gd_s]
    refine r2_z rfl rfl (by first | decide | assumption) ?_
    refine ⟨?_, rfl⟩
    first
      | (rw [if_pos ⟨Decidable.not_not.mp h4, Int32.not_le.mp h15⟩]; done)
      | (rw [if_neg (fun q => by first | exact h4 q.1 | exact i_nlt h15 q.2)]; done)
  · refine xG_run 4 rfl (by repeat' (first | exact trivial | assumption | exact xob_b rfl | exact xal_b rfl | (apply And.intro) | decide)) ?_
    try dsimp only [xsto1, xsto2, xkill, xget, xset, gd_0, gd_s]
    refine xG_br rfl (fun h15 => ?_) (fun h15 => ?_)
    · refine xG_run 1 rfl (by repeat' (first | exact trivial | assumption | exact xob_b rfl | exact xal_b rfl | (apply And.intro) | decide)) ?_
      try dsimp only [xsto1, xsto2, xkill, xget, xset, gd_0, gd_s]
      refine r2_z rfl rfl (by first | decide | assumption) ?_
      refine ⟨?_, rfl⟩
      first
        | (rw [if_pos ⟨Decidable.not_not.mp h4, Int32.not_le.mp h15⟩]; done)
        | (rw [if_neg (fun q => by first | exact h4 q.1 | exact i_nlt h15 q.2)]; done)
    · refine xG_run 2 rfl (by repeat' (first | exact trivial | assumption | exact xob_b rfl | exact xal_b rfl | (apply And.intro) | decide)) ?_
      try dsimp only [xsto1, xsto2, xkill, xget, xset, gd_0, gd_s]
      refine r2_z rfl rfl (by first | decide | assumption) ?_
      refine ⟨?_, rfl⟩
      first
        | (rw [if_pos ⟨Decidable.not_not.mp h4, Int32.not_le.mp h15⟩]; done)
        | (rw [if_neg (fun q => by first | exact h4 q.1 | exact i_nlt h15 q.2)]; done)
set_option maxRecDepth 4000 in
theorem e_firstFault {κ : xKK} {d : Nat} {M : xM} {t n : Nat} {T : Nat → Int32} (hC : tC M t n T) (r1 : gI M 127 2 = nI 0) (r2 : gI M 127 3 = 0) (hd : 4 ≤ d) : xE2 κ mX10_firstFault d [.ref 127] M (fun v M' => v = some (.int (if (fpR T n (n + 1) 0).1 = true then -4 else nI (fpR T n (n + 1) 0).2)) ∧ tG M M') := by
  refine xE2_of ci_X10_firstFault cl_X10_firstFault cw_X10_firstFault rfl (L := [some (.ref 127), none]) rfl ?_
  have hn9 := hC.2.2.1
  have lp : ∀ (f q : Nat) (M2 : xM) (i : Nat) (ok : Bool) (l : List Int32) (sd : Int32), (ok = true → n - q ≤ f) → tR M2 (ok, q, l, sd) → tC M2 t n T → tG M M2 → q ≤ n → (ok = true → i < q) → i ≤ 200 → fpR T n (n + 1) 0 = (if ok = false then (false, q) else if q < n then fpR T n f q else (true, n)) → xG κ mX10_firstFault (d, 0, 0) (6, [some (.ref 127), some (.int (nI i))], [], M2, z2) (xRet mX10_firstFault false (fun v M' n' => n' = 182 ∧ (v = some (.int (if (fpR T n (n + 1) 0).1 = true then -4 else nI (fpR T n (n + 1) 0).2)) ∧ tG M M'))) := by
    intro f
    induction f with
    | zero =>
      intro q M2 i ok l sd hf hR2 hC2 hG2 hqn2 hi hi2 hres
      have hn1 := hC2.2.1
      have hn2 := hC2.2.2.1
      obtain ⟨r1, r2, -, -, r5⟩ := hR2
      dsimp only at r1 r2 r5
      cases ok
      · have r2 : gI M2 127 3 = 1 := r2
        refine xG_run 3 rfl (by repeat' (first | exact trivial | assumption | exact xob_b rfl | exact xal_b rfl | (apply And.intro) | decide)) ?_
        try dsimp only [xsto1, xsto2, xkill, xget, xset, gd_0, gd_s]
        refine xG_br rfl (fun h11 => ?_) (fun h11 => ?_)
        · refine xG_run 2 rfl (by repeat' (first | exact trivial | assumption | exact xob_b rfl | exact xal_b rfl | (apply And.intro) | decide)) ?_
          try dsimp only [xsto1, xsto2, xkill, xget, xset, gd_0, gd_s]
          refine xG_brF rfl (by rw [r2]; decide) ?_
          refine xG_run 3 rfl (by repeat' (first | exact trivial | assumption | exact xob_b rfl | exact xal_b rfl | (apply And.intro) | decide)) ?_
          try dsimp only [xsto1, xsto2, xkill, xget, xset, gd_0, gd_s]
          refine r2_i rfl rfl ?_
          refine ⟨?_, hG2⟩
          rw [show fpR T n (n + 1) 0 = (false, q) from by rw [hres, if_pos rfl], r1]; rfl
        · refine xG_run 1 rfl (by repeat' (first | exact trivial | assumption | exact xob_b rfl | exact xal_b rfl | (apply And.intro) | decide)) ?_
          try dsimp only [xsto1, xsto2, xkill, xget, xset, gd_0, gd_s]
          refine xG_c2 0 rfl (by repeat' (first | exact trivial | assumption | exact xob_b rfl | exact xal_b rfl | (apply And.intro) | decide)) rfl rfl (by decide) cw_X10_hasMore (d' := d - 1) e_hasMore (by omega) ?_
          rintro v M' ⟨rfl, hM⟩
          subst M'
          dsimp only [Option.toList, List.cons_append, List.nil_append]
          refine xG_brT rfl (by rw [if_neg (fun z => absurd (r2.symm.trans z.1) (by decide))]) ?_
          refine xG_run 2 rfl (by repeat' (first | exact trivial | assumption | exact xob_b rfl | exact xal_b rfl | (apply And.intro) | decide)) ?_
          try dsimp only [xsto1, xsto2, xkill, xget, xset, gd_0, gd_s]
          refine xG_brF rfl (by rw [r2]; decide) ?_
          refine xG_run 3 rfl (by repeat' (first | exact trivial | assumption | exact xob_b rfl | exact xal_b rfl | (apply And.intro) | decide)) ?_
          try dsimp only [xsto1, xsto2, xkill, xget, xset, gd_0, gd_s]
          refine r2_i rfl rfl ?_
          refine ⟨?_, hG2⟩
          rw [show fpR T n (n + 1) 0 = (false, q) from by rw [hres, if_pos rfl], r1]; rfl
      · have r2 : gI M2 127 3 = 0 := r2
        have hqn : ¬ q < n := by have := hf rfl; omega
        refine xG_run 3 rfl (by repeat' (first | exact trivial | assumption | exact xob_b rfl | exact xal_b rfl | (apply And.intro) | decide)) ?_
        try dsimp only [xsto1, xsto2, xkill, xget, xset, gd_0, gd_s]
        refine xG_br rfl (fun h11 => ?_) (fun h11 => ?_)
        · refine xG_run 2 rfl (by repeat' (first | exact trivial | assumption | exact xob_b rfl | exact xal_b rfl | (apply And.intro) | decide)) ?_
          try dsimp only [xsto1, xsto2, xkill, xget, xset, gd_0, gd_s]
          refine xG_brT rfl (by rw [r2]) ?_
          refine xG_run 1 rfl (by repeat' (first | exact trivial | assumption | exact xob_b rfl | exact xal_b rfl | (apply And.intro) | decide)) ?_
          try dsimp only [xsto1, xsto2, xkill, xget, xset, gd_0, gd_s]
          refine r2_i rfl rfl ?_
          refine ⟨?_, hG2⟩
          rw [show fpR T n (n + 1) 0 = (true, n) from by rw [hres, if_neg (by simp), if_neg hqn]]; rfl
        · refine xG_run 1 rfl (by repeat' (first | exact trivial | assumption | exact xob_b rfl | exact xal_b rfl | (apply And.intro) | decide)) ?_
          try dsimp only [xsto1, xsto2, xkill, xget, xset, gd_0, gd_s]
          refine xG_c2 0 rfl (by repeat' (first | exact trivial | assumption | exact xob_b rfl | exact xal_b rfl | (apply And.intro) | decide)) rfl rfl (by decide) cw_X10_hasMore (d' := d - 1) e_hasMore (by omega) ?_
          rintro v M' ⟨rfl, hM⟩
          subst M'
          dsimp only [Option.toList, List.cons_append, List.nil_append]
          refine xG_brT rfl (by rw [if_neg (fun z => by rw [r1, hn1] at z; exact nI_nlt (a := q) (b := n) (by omega) (by omega) z.2)]) ?_
          refine xG_run 2 rfl (by repeat' (first | exact trivial | assumption | exact xob_b rfl | exact xal_b rfl | (apply And.intro) | decide)) ?_
          try dsimp only [xsto1, xsto2, xkill, xget, xset, gd_0, gd_s]
          refine xG_brT rfl (by rw [r2]) ?_
          refine xG_run 1 rfl (by repeat' (first | exact trivial | assumption | exact xob_b rfl | exact xal_b rfl | (apply And.intro) | decide)) ?_
          try dsimp only [xsto1, xsto2, xkill, xget, xset, gd_0, gd_s]
          refine r2_i rfl rfl ?_
          refine ⟨?_, hG2⟩
          rw [show fpR T n (n + 1) 0 = (true, n) from by rw [hres, if_neg (by simp), if_neg hqn]]; rfl
    | succ f ih =>
      intro q M2 i ok l sd hf hR2 hC2 hG2 hqn2 hi hi2 hres
      have hn1 := hC2.2.1
      have hn2 := hC2.2.2.1
      obtain ⟨r1, r2, -, -, r5⟩ := hR2
      dsimp only at r1 r2 r5
      cases ok
      · have r2 : gI M2 127 3 = 1 := r2
        refine xG_run 3 rfl (by repeat' (first | exact trivial | assumption | exact xob_b rfl | exact xal_b rfl | (apply And.intro) | decide)) ?_
        try dsimp only [xsto1, xsto2, xkill, xget, xset, gd_0, gd_s]
        refine xG_br rfl (fun h11 => ?_) (fun h11 => ?_)
        · refine xG_run 2 rfl (by repeat' (first | exact trivial | assumption | exact xob_b rfl | exact xal_b rfl | (apply And.intro) | decide)) ?_
          try dsimp only [xsto1, xsto2, xkill, xget, xset, gd_0, gd_s]
          refine xG_brF rfl (by rw [r2]; decide) ?_
          refine xG_run 3 rfl (by repeat' (first | exact trivial | assumption | exact xob_b rfl | exact xal_b rfl | (apply And.intro) | decide)) ?_
          try dsimp only [xsto1, xsto2, xkill, xget, xset, gd_0, gd_s]
          refine r2_i rfl rfl ?_
          refine ⟨?_, hG2⟩
          rw [show fpR T n (n + 1) 0 = (false, q) from by rw [hres, if_pos rfl], r1]; rfl
        · refine xG_run 1 rfl (by repeat' (first | exact trivial | assumption | exact xob_b rfl | exact xal_b rfl | (apply And.intro) | decide)) ?_
          try dsimp only [xsto1, xsto2, xkill, xget, xset, gd_0, gd_s]
          refine xG_c2 0 rfl (by repeat' (first | exact trivial | assumption | exact xob_b rfl | exact xal_b rfl | (apply And.intro) | decide)) rfl rfl (by decide) cw_X10_hasMore (d' := d - 1) e_hasMore (by omega) ?_
          rintro v M' ⟨rfl, hM⟩
          subst M'
          dsimp only [Option.toList, List.cons_append, List.nil_append]
          refine xG_brT rfl (by rw [if_neg (fun z => absurd (r2.symm.trans z.1) (by decide))]) ?_
          refine xG_run 2 rfl (by repeat' (first | exact trivial | assumption | exact xob_b rfl | exact xal_b rfl | (apply And.intro) | decide)) ?_
          try dsimp only [xsto1, xsto2, xkill, xget, xset, gd_0, gd_s]
          refine xG_brF rfl (by rw [r2]; decide) ?_
          refine xG_run 3 rfl (by repeat' (first | exact trivial | assumption | exact xob_b rfl | exact xal_b rfl | (apply And.intro) | decide)) ?_
          try dsimp only [xsto1, xsto2, xkill, xget, xset, gd_0, gd_s]
          refine r2_i rfl rfl ?_
          refine ⟨?_, hG2⟩
          rw [show fpR T n (n + 1) 0 = (false, q) from by rw [hres, if_pos rfl], r1]; rfl
      · have r2 : gI M2 127 3 = 0 := r2
        by_cases hqn : q < n
        · have hi9 := hi rfl
          refine xG_run 3 rfl (by repeat' (first | exact trivial | assumption | exact xob_b rfl | exact xal_b rfl | (apply And.intro) | decide)) ?_
          try dsimp only [xsto1, xsto2, xkill, xget, xset, gd_0, gd_s]
          refine xG_brF rfl (by rw [hn1]; exact nI_ge (by omega) (by omega)) ?_
          refine xG_run 1 rfl (by repeat' (first | exact trivial | assumption | exact xob_b rfl | exact xal_b rfl | (apply And.intro) | decide)) ?_
          try dsimp only [xsto1, xsto2, xkill, xget, xset, gd_0, gd_s]
          refine xG_c2 0 rfl (by repeat' (first | exact trivial | assumption | exact xob_b rfl | exact xal_b rfl | (apply And.intro) | decide)) rfl rfl (by decide) cw_X10_hasMore (d' := d - 1) e_hasMore (by omega) ?_
          rintro v M' ⟨rfl, hM⟩
          subst M'
          dsimp only [Option.toList, List.cons_append, List.nil_append]
          refine xG_brF rfl (by rw [if_pos ⟨r2, by rw [r1, hn1]; exact nI_lt hqn (by omega)⟩]; decide) ?_
          refine xG_run 1 rfl (by repeat' (first | exact trivial | assumption | exact xob_b rfl | exact xal_b rfl | (apply And.intro) | decide)) ?_
          try dsimp only [xsto1, xsto2, xkill, xget, xset, gd_0, gd_s]
          refine xG_c2 0 rfl (by repeat' (first | exact trivial | assumption | exact xob_b rfl | exact xal_b rfl | (apply And.intro) | decide)) rfl rfl (by decide) cw_X10_readStatement (d' := d - 1) (e_readStatement (p := q) (sd := sd) hC2 r1 r2 r5 hqn2 (by omega)) (by omega) ?_
          rintro v M3 ⟨rfl, hR3, -, -, hG3⟩
          dsimp only [Option.toList, List.cons_append, List.nil_append]
          have hq := stS_q (T := T) (n := n) (p := q) (sd := sd) (sd' := 0)
          have hle := stS_le (T := T) (n := n) (p := q) (sd := sd) hqn2
          have hgt := stS_gt (T := T) (n := n) (p := q) (sd := sd)
          rcases hst : stS T n q sd with ⟨ok2, q2, l2, sd2⟩
          rw [hst] at hR3 hq hle hgt
          dsimp only at hle hgt
          obtain ⟨hq1, hq2, -⟩ := hq
          dsimp only at hq1 hq2
          refine xG_run 2 rfl (by repeat' (first | exact trivial | assumption | exact xob_b rfl | exact xal_b rfl | (apply And.intro) | decide)) ?_
          try dsimp only [xsto1, xsto2, xkill, xget, xset, gd_0, gd_s]
          rw [nI_1]
          refine ih q2 M3 (i + 1) ok2 l2 sd2 (fun z => ?_) hR3 (tC_G hC2 hG3) (tG_t hG2 hG3) hle (fun z => by have := hgt z; have := hi rfl; omega) (by omega) ?_
          · have := hgt z; have := hf rfl; omega
          · rw [hres, if_neg (by simp), if_pos hqn, fpR, ← hq1, ← hq2]
        · skip
          refine xG_run 3 rfl (by repeat' (first | exact trivial | assumption | exact xob_b rfl | exact xal_b rfl | (apply And.intro) | decide)) ?_
          try dsimp only [xsto1, xsto2, xkill, xget, xset, gd_0, gd_s]
          refine xG_br rfl (fun h11 => ?_) (fun h11 => ?_)
          · refine xG_run 2 rfl (by repeat' (first | exact trivial | assumption | exact xob_b rfl | exact xal_b rfl | (apply And.intro) | decide)) ?_
            try dsimp only [xsto1, xsto2, xkill, xget, xset, gd_0, gd_s]
            refine xG_brT rfl (by rw [r2]) ?_
            refine xG_run 1 rfl (by repeat' (first | exact trivial | assumption | exact xob_b rfl | exact xal_b rfl | (apply And.intro) | decide)) ?_
            try dsimp only [xsto1, xsto2, xkill, xget, xset, gd_0, gd_s]
            refine r2_i rfl rfl ?_
            refine ⟨?_, hG2⟩
            rw [show fpR T n (n + 1) 0 = (true, n) from by rw [hres, if_neg (by simp), if_neg hqn]]; rfl
          · refine xG_run 1 rfl (by repeat' (first | exact trivial | assumption | exact xob_b rfl | exact xal_b rfl | (apply And.intro) | decide)) ?_
            try dsimp only [xsto1, xsto2, xkill, xget, xset, gd_0, gd_s]
            refine xG_c2 0 rfl (by repeat' (first | exact trivial | assumption | exact xob_b rfl | exact xal_b rfl | (apply And.intro) | decide)) rfl rfl (by decide) cw_X10_hasMore (d' := d - 1) e_hasMore (by omega) ?_
            rintro v M' ⟨rfl, hM⟩
            subst M'
            dsimp only [Option.toList, List.cons_append, List.nil_append]
            refine xG_brT rfl (by rw [if_neg (fun z => by rw [r1, hn1] at z; exact nI_nlt (a := q) (b := n) (by omega) (by omega) z.2)]) ?_
            refine xG_run 2 rfl (by repeat' (first | exact trivial | assumption | exact xob_b rfl | exact xal_b rfl | (apply And.intro) | decide)) ?_
            try dsimp only [xsto1, xsto2, xkill, xget, xset, gd_0, gd_s]
            refine xG_brT rfl (by rw [r2]) ?_
            refine xG_run 1 rfl (by repeat' (first | exact trivial | assumption | exact xob_b rfl | exact xal_b rfl | (apply And.intro) | decide)) ?_
            try dsimp only [xsto1, xsto2, xkill, xget, xset, gd_0, gd_s]
            refine r2_i rfl rfl ?_
            refine ⟨?_, hG2⟩
            rw [show fpR T n (n + 1) 0 = (true, n) from by rw [hres, if_neg (by simp), if_neg hqn]]; rfl
  refine xG_run 1 rfl (by repeat' (first | exact trivial | assumption | exact xob_b rfl | exact xal_b rfl | (apply And.intro) | decide)) ?_
  try dsimp only [xsto1, xsto2, xkill, xget, xset, gd_0, gd_s]
  refine xG_c2 0 rfl (by repeat' (first | exact trivial | assumption | exact xob_b rfl | exact xal_b rfl | (apply And.intro) | decide)) rfl rfl (by decide) cw_X10_readStatement (d' := d - 1) (e_readStatement (p := 0) (sd := (gI M 127 8)) hC r1 r2 rfl (Nat.zero_le n) (by omega)) (by omega) ?_
  rintro v M3 ⟨rfl, hR3, -, -, hG3⟩
  dsimp only [Option.toList, List.cons_append, List.nil_append]
  have hq := stS_q (T := T) (n := n) (p := 0) (sd := (gI M 127 8)) (sd' := 0)
  have hle := stS_le (T := T) (n := n) (p := 0) (sd := (gI M 127 8)) (Nat.zero_le n)
  have hgt := stS_gt (T := T) (n := n) (p := 0) (sd := (gI M 127 8))
  rcases hst : stS T n 0 (gI M 127 8) with ⟨ok2, q2, l2, sd2⟩
  rw [hst] at hR3 hq hle hgt
  dsimp only at hle hgt
  obtain ⟨hq1, hq2, -⟩ := hq
  dsimp only at hq1 hq2
  refine xG_run 2 rfl (by repeat' (first | exact trivial | assumption | exact xob_b rfl | exact xal_b rfl | (apply And.intro) | decide)) ?_
  try dsimp only [xsto1, xsto2, xkill, xget, xset, gd_0, gd_s]
  refine lp n q2 M3 0 ok2 l2 sd2 (fun z => by have := hgt z; omega) hR3 (tC_G hC hG3) hG3 hle hgt (by omega) ?_
  rw [fpR, ← hq1, ← hq2]
