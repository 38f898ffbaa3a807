/-! ===== the class reads rules: sums, comparisons ===== -/
def bl2 (b : Bool) : Int32 := if b = true then 1 else 0
theorem cpX_f1 {T : Nat → Int32} {n p : Nat} {φ : Nat → Int32} (h : ¬ ((suX T n φ p).1 = true ∧ isCm (chr T n (suX T n φ p).2.1))) : cpX T n φ p = (false, (suX T n φ p).2.1, false) := if_neg h
theorem cpX_t1 {T : Nat → Int32} {n p : Nat} {φ : Nat → Int32} (h : (suX T n φ p).1 = true ∧ isCm (chr T n (suX T n φ p).2.1)) : cpX T n φ p = if (suX T n φ ((suX T n φ p).2.1 + 1)).1 = true then (true, (suX T n φ ((suX T n φ p).2.1 + 1)).2.1, cmX (chr T n (suX T n φ p).2.1) (suX T n φ p).2.2 (suX T n φ ((suX T n φ p).2.1 + 1)).2.2) else (false, (suX T n φ ((suX T n φ p).2.1 + 1)).2.1, false) := if_pos h
theorem bl_d {p : Prop} [Decidable p] : bl2 (decide p) = if p then 1 else 0 := by
  unfold bl2
  by_cases c : p
  · rw [if_pos c, if_pos (decide_eq_true c)]
  · rw [if_neg c, if_neg (by rw [decide_eq_false c]; decide)]
section CM
variable {c a b : Int32}
theorem cm1 (h : c = 61) (h2 : a = b) : some (Value.int 1) = some (.int (bl2 (cmX c a b))) := by unfold cmX; rw [if_pos h, bl_d, if_pos h2]
theorem cm2 (h : c = 61) (h2 : ¬ a = b) : some (Value.int 0) = some (.int (bl2 (cmX c a b))) := by unfold cmX; rw [if_pos h, bl_d, if_neg h2]
theorem cm3 (h : ¬ c = 61) (h3 : c = 60) (h2 : a < b) : some (Value.int 1) = some (.int (bl2 (cmX c a b))) := by unfold cmX; rw [if_neg h, if_pos h3, bl_d, if_pos h2]
theorem cm4 (h : ¬ c = 61) (h3 : c = 60) (h2 : ¬ a < b) : some (Value.int 0) = some (.int (bl2 (cmX c a b))) := by unfold cmX; rw [if_neg h, if_pos h3, bl_d, if_neg h2]
theorem cm5 (h : ¬ c = 61) (h3 : ¬ c = 60) (h2 : b < a) : some (Value.int 1) = some (.int (bl2 (cmX c a b))) := by unfold cmX; rw [if_neg h, if_neg h3, bl_d, if_pos h2]
theorem cm6 (h : ¬ c = 61) (h3 : ¬ c = 60) (h2 : ¬ b < a) : some (Value.int 0) = some (.int (bl2 (cmX c a b))) := by unfold cmX; rw [if_neg h, if_neg h3, bl_d, if_neg h2]
end CM
theorem suX_c {T : Nat → Int32} {n p : Nat} {φ ψ : Nat → Int32} (h : ∀ i, φ i = ψ i) : suX T n φ p = suX T n ψ p := by rw [show φ = ψ from funext h]
set_option maxRecDepth 4000 in
theorem e_ureadSum {κ : xKK} {d : Nat} {M : xM} {t n p : Nat} {T : Nat → Int32} (hC : uC M t n T) (r3 : gI M 130 3 = nI p) (hp : p ≤ n) (r4 : gI M 130 4 = 0) (hd : 3 ≤ d) : xE2 κ mX6_readSum d [.ref 130] M (fun v M' => ∃ w, v = some (.int w) ∧ ((suX T n (fun i => gI M 131 i) p).1 = true → w = (suX T n (fun i => gI M 131 i) p).2.2) ∧ gI M' 130 3 = nI (suX T n (fun i => gI M 131 i) p).2.1 ∧ gI M' 130 4 = (if (suX T n (fun i => gI M 131 i) p).1 = true then 0 else 1) ∧ uF M M') := by
  refine xE2_of ci_X6_readSum cl_X6_readSum cw_X6_readSum rfl (L := [some (.ref 130), none, none, none, none]) rfl ?_
  have hC9 := hC
  obtain ⟨c1, s2, hn2, hT, hsh, ht1, ht2⟩ := hC
  have hb0 : xrf (xpr z2.2.1 M 130 1) = .ref t := by show xrf (gP M 130 1) = _; rw [c1]; rfl
  have har : ∀ k, k < n → xar t 0 182 (nI k) := fun k hk => ⟨120, hsh, ht2, by rw [nI_ti (by omega)]; omega, by rw [nI_ti (by omega)]; omega⟩
  have hch : ∀ k, k < n → gI M t (nI k).toNatClampNeg = chr T n k := fun k hk => by rw [nI_cl (by omega), chr_lt hk]; exact hT k hk
  have SX : ∀ (M2 : xM) (a i : Int32) (x3 x4 : Option Value), gI M2 130 4 = 1 → (∀ w, ((fun (v : Option Value) (M' : xM) => ∃ w, v = some (.int w) ∧ ((suX T n (fun i => gI M 131 i) p).1 = true → w = (suX T n (fun i => gI M 131 i) p).2.2) ∧ gI M' 130 3 = nI (suX T n (fun i => gI M 131 i) p).2.1 ∧ gI M' 130 4 = (if (suX T n (fun i => gI M 131 i) p).1 = true then 0 else 1) ∧ uF M M') (some (.int w)) M2)) → xG κ mX6_readSum (d, 0, 0) (7, [some (.ref 130), some (.int a), some (.int i), x3, x4], [], M2, z2) (xRet mX6_readSum false (fun v M' n' => n' = 182 ∧ (∃ w, v = some (.int w) ∧ ((suX T n (fun i => gI M 131 i) p).1 = true → w = (suX T n (fun i => gI M 131 i) p).2.2) ∧ gI M' 130 3 = nI (suX T n (fun i => gI M 131 i) p).2.1 ∧ gI M' 130 4 = (if (suX T n (fun i => gI M 131 i) p).1 = true then 0 else 1) ∧ uF M M'))) := by
    intro M2 a i x3 x4 m4 hP
    refine xG_run 3 rfl (by repeat' (first | exact trivial | assumption | exact xob_b rfl | exact xal_b rfl | (apply And.intro) | decide)) ?_
    try dsimp only [xsto1, xsto2, xkill, xget, xset, gd_0, gd_s]
    try simp only [m4]
    refine xG_br rfl (fun h12 => ?_) (fun h12 => ?_)
    · refine xG_run 1 rfl (by repeat' (first | exact trivial | assumption | exact xob_b rfl | exact xal_b rfl | (apply And.intro) | decide)) ?_
      try dsimp only [xsto1, xsto2, xkill, xget, xset, gd_0, gd_s]
      try simp only [m4]
      refine r2_i rfl rfl ?_
      exact hP _
    · refine xG_run 4 rfl (by repeat' (first | exact trivial | assumption | exact xob_b rfl | exact xal_b rfl | (apply And.intro) | decide)) ?_
      try dsimp only [xsto1, xsto2, xkill, xget, xset, gd_0, gd_s]
      try simp only [m4]
      refine xG_br rfl (fun h23 => ?_) (fun h23 => ?_)
      · refine xG_run 1 rfl (by repeat' (first | exact trivial | assumption | exact xob_b rfl | exact xal_b rfl | (apply And.intro) | decide)) ?_
        try dsimp only [xsto1, xsto2, xkill, xget, xset, gd_0, gd_s]
        try simp only [m4]
        refine r2_i rfl rfl ?_
        exact hP _
      · refine xG_run 2 rfl (by repeat' (first | exact trivial | assumption | exact xob_b rfl | exact xal_b rfl | (apply And.intro) | decide)) ?_
        try dsimp only [xsto1, xsto2, xkill, xget, xset, gd_0, gd_s]
        try simp only [m4]
        refine xG_brT rfl (by decide) ?_
        refine xG_run 1 rfl (by repeat' (first | exact trivial | assumption | exact xob_b rfl | exact xal_b rfl | (apply And.intro) | decide)) ?_
        try dsimp only [xsto1, xsto2, xkill, xget, xset, gd_0, gd_s]
        try simp only [m4]
        refine r2_i rfl rfl ?_
        exact hP _
  have SL : ∀ (r q : Nat) (a : Int32) (i : Nat) (M2 : xM) (x3 x4 : Option Value), n - q = r → q ≤ n → i < q → uF M M2 → gI M2 130 3 = nI q → gI M2 130 4 = 0 → (suX T n (fun i => gI M 131 i) p) = smX T n (fun i => gI M 131 i) a q → xG κ mX6_readSum (d, 0, 0) (7, [some (.ref 130), some (.int a), some (.int (nI i)), x3, x4], [], M2, z2) (xRet mX6_readSum false (fun v M' n' => n' = 182 ∧ (∃ w, v = some (.int w) ∧ ((suX T n (fun i => gI M 131 i) p).1 = true → w = (suX T n (fun i => gI M 131 i) p).2.2) ∧ gI M' 130 3 = nI (suX T n (fun i => gI M 131 i) p).2.1 ∧ gI M' 130 4 = (if (suX T n (fun i => gI M 131 i) p).1 = true then 0 else 1) ∧ uF M M'))) := by
    intro r
    induction r using Nat.strongRecOn with
    | ind r IH =>
      rintro q a i M2 x3 x4 rfl hq hi hFq m3 m4 hE
      have m2 : gI M2 130 2 = nI n := (hFq.1 _ _ (by omega)).trans s2
      have hbq : xrf (xpr z2.2.1 M2 130 1) = .ref t := by show xrf (gP M2 130 1) = _; rw [hFq.2.2, c1]; rfl
      refine xG_run 3 rfl (by repeat' (first | exact trivial | assumption | exact xob_b rfl | exact xal_b rfl | (apply And.intro) | decide)) ?_
      try dsimp only [xsto1, xsto2, xkill, xget, xset, gd_0, gd_s]
      try simp (disch := omega) only [gI_self, g_ne, sI_sI, m2, m3, m4, nI_1]
      refine xG_brF rfl (nI_ge (a := i) (b := n) (by omega) (by omega)) ?_
      refine xG_run 4 rfl (by repeat' (first | exact trivial | assumption | exact xob_b rfl | exact xal_b rfl | (apply And.intro) | decide)) ?_
      try dsimp only [xsto1, xsto2, xkill, xget, xset, gd_0, gd_s]
      try simp (disch := omega) only [gI_self, g_ne, sI_sI, m2, m3, m4, nI_1]
      refine xG_br rfl (fun h23 => ?_) (fun h23 => ?_)
      · have hge : ¬ q < n := fun z => nI_nlt9 z (by omega) h23
        refine xG_run 1 rfl (by repeat' (first | exact trivial | assumption | exact xob_b rfl | exact xal_b rfl | (apply And.intro) | decide)) ?_
        try dsimp only [xsto1, xsto2, xkill, xget, xset, gd_0, gd_s]
        try simp (disch := omega) only [gI_self, g_ne, sI_sI, m2, m3, m4, nI_1]
        refine r2_i rfl rfl ?_
        refine ⟨a, rfl, ?_⟩
        rw [hE.trans ((smX_eq hq).trans (if_neg (by rw [chr_ge hge]; decide)))]
        exact ⟨fun _ => rfl, m3, m4, hFq⟩
      · have hlt : q < n := nI_lt9 (by omega) (by omega) h23
        have ha := har q hlt
        have hgt : gI M2 t (nI q).toNatClampNeg = chr T n q := (hFq.1 _ _ (by omega)).trans (hch q hlt)
        refine xG_run 2 rfl (by repeat' (first | exact trivial | assumption | exact xob_b rfl | exact xal_b rfl | (apply And.intro) | decide)) ?_
        try dsimp only [xsto1, xsto2, xkill, xget, xset, gd_0, gd_s]
        try simp (disch := omega) only [gI_self, g_ne, sI_sI, m2, m3, m4, nI_1]
        refine xG_brF rfl (fun z => z rfl) ?_
        refine xG_run 2 rfl (by repeat' (first | exact trivial | assumption | exact xob_b rfl | exact xal_b rfl | (apply And.intro) | decide)) ?_
        try dsimp only [xsto1, xsto2, xkill, xget, xset, gd_0, gd_s]
        try simp (disch := omega) only [gI_self, g_ne, sI_sI, m2, m3, m4, nI_1]
        rw [hbq]
        refine xG_run 2 rfl (by repeat' (first | exact trivial | assumption | exact xob_b rfl | exact xal_b rfl | (apply And.intro) | decide)) ?_
        try dsimp only [xsto1, xsto2, xkill, xget, xset, gd_0, gd_s]
        try simp (disch := omega) only [gI_self, g_ne, sI_sI, m2, m3, m4, nI_1]
        try simp only [m3]
        refine xG_run 1 rfl (by repeat' (first | exact trivial | assumption | exact xob_b rfl | exact xal_b rfl | (apply And.intro) | decide)) ?_
        try dsimp only [xsto1, xsto2, xkill, xget, xset, gd_0, gd_s]
        try simp (disch := omega) only [gI_self, g_ne, sI_sI, m2, m3, m4, nI_1]
        rw [hgt]
        refine xG_run 3 rfl (by repeat' (first | exact trivial | assumption | exact xob_b rfl | exact xal_b rfl | (apply And.intro) | decide)) ?_
        try dsimp only [xsto1, xsto2, xkill, xget, xset, gd_0, gd_s]
        try simp (disch := omega) only [gI_self, g_ne, sI_sI, m2, m3, m4, nI_1]
        refine xG_br rfl (fun h46 => ?_) (fun h46 => ?_)
        · have hpm : chr T n q = 43 ∨ chr T n q = 45 := Or.inl h46
          refine xG_run 7 rfl (by repeat' (first | exact trivial | assumption | exact xob_b rfl | exact xal_b rfl | (apply And.intro) | decide)) ?_
          try dsimp only [xsto1, xsto2, xkill, xget, xset, gd_0, gd_s]
          try simp (disch := omega) only [gI_self, g_ne, sI_sI, m2, m3, m4, nI_1]
          refine xG_c2 0 rfl (by repeat' (first | exact trivial | assumption | exact xob_b rfl | exact xal_b rfl | (apply And.intro) | decide)) rfl rfl (by decide) cw_X6_readAtom (d' := d - 1) (e_readAtom (p := q + 1) (uC_F (uC_F hC9 hFq) (uF_i (Or.inl rfl))) (gI_self _ _ _ _) (by omega) ((gI_ne (by omega)).trans m4) (by omega)) (by omega) ?_
          rintro v M3 ⟨rfl, k3, k4, hF3⟩
          have hfx : ∀ i, gI (sI M2 130 3 (nI (q + 1))) 131 i = gI M 131 i := fun i => (gI_ne (by omega)).trans (hFq.1 _ _ (by omega))
          rw [atX_c (ψ := (fun i => gI M 131 i)) hfx] at k3 k4 ⊢
          obtain ⟨y1, y2, y3⟩ := atX_b (T := T) (n := n) (φ := (fun i => gI M 131 i)) (p := q + 1) (by omega)
          have hF5 : uF M M3 := uF_t hFq (uF_t (uF_i (Or.inl rfl)) hF3)
          rcases Bool.eq_false_or_eq_true (atX T n (fun i => gI M 131 i) (q + 1)).1 with hok | hok
          all_goals rw [hok] at k4
          
          · dsimp only [Option.toList, List.cons_append, List.nil_append]
            refine xG_run 4 rfl (by repeat' (first | exact trivial | assumption | exact xob_b rfl | exact xal_b rfl | (apply And.intro) | decide)) ?_
            try dsimp only [xsto1, xsto2, xkill, xget, xset, gd_0, gd_s]
            try simp (disch := omega) only [gI_self, g_ne, sI_sI, m2, m3, m4, nI_1]
            refine xG_br rfl (fun h77 => ?_) (fun h77 => ?_)
            · first
                | (exfalso; first | exact absurd h46 h77 | exact absurd (Decidable.not_not.mp h77) h46)
                | (have hc43 : ¬ chr T n q = 43 := h77
                   refine xG_run 6 rfl (by repeat' (first | exact trivial | assumption | exact xob_b rfl | exact xal_b rfl | (apply And.intro) | decide)) ?_
                   try dsimp only [xsto1, xsto2, xkill, xget, xset, gd_0, gd_s]
                   try simp (disch := omega) only [gI_self, g_ne, sI_sI, m2, m3, m4, nI_1]
                   refine IH (n - (atX T n (fun i => gI M 131 i) (q + 1)).2.1) (by have := y3 hok; omega) _ _ (i + 1) M3 _ _ rfl y2 (by have := y3 hok; omega) hF5 k3 k4 (hE.trans ((smX_eq hq).trans ((if_pos hpm).trans ((if_pos hok).trans ?_))))
                   rw [if_neg hc43])
            · first
                | (exfalso; first | exact absurd h46 h77 | exact absurd (Decidable.not_not.mp h77) h46)
                | (have hc43 : chr T n q = 43 := Decidable.not_not.mp h77
                   refine xG_run 6 rfl (by repeat' (first | exact trivial | assumption | exact xob_b rfl | exact xal_b rfl | (apply And.intro) | decide)) ?_
                   try dsimp only [xsto1, xsto2, xkill, xget, xset, gd_0, gd_s]
                   try simp (disch := omega) only [gI_self, g_ne, sI_sI, m2, m3, m4, nI_1]
                   refine IH (n - (atX T n (fun i => gI M 131 i) (q + 1)).2.1) (by have := y3 hok; omega) _ _ (i + 1) M3 _ _ rfl y2 (by have := y3 hok; omega) hF5 k3 k4 (hE.trans ((smX_eq hq).trans ((if_pos hpm).trans ((if_pos hok).trans ?_))))
                   rw [if_pos hc43])
          · dsimp only [Option.toList, List.cons_append, List.nil_append]
            refine xG_run 4 rfl (by repeat' (first | exact trivial | assumption | exact xob_b rfl | exact xal_b rfl | (apply And.intro) | decide)) ?_
            try dsimp only [xsto1, xsto2, xkill, xget, xset, gd_0, gd_s]
            try simp (disch := omega) only [gI_self, g_ne, sI_sI, m2, m3, m4, nI_1]
            refine xG_br rfl (fun h77 => ?_) (fun h77 => ?_)
            · first
                | (exfalso; first | exact absurd h46 h77 | exact absurd (Decidable.not_not.mp h77) h46)
                | (have hc43 : ¬ chr T n q = 43 := h77
                   refine xG_run 6 rfl (by repeat' (first | exact trivial | assumption | exact xob_b rfl | exact xal_b rfl | (apply And.intro) | decide)) ?_
                   try dsimp only [xsto1, xsto2, xkill, xget, xset, gd_0, gd_s]
                   try simp (disch := omega) only [gI_self, g_ne, sI_sI, m2, m3, m4, nI_1]
                   refine SX M3 _ _ _ _ k4 (fun w => ⟨w, rfl, ?_⟩)
                   rw [hE.trans ((smX_eq hq).trans ((if_pos hpm).trans (if_neg (by rw [hok]; decide))))]
                   exact ⟨fun z => absurd (show false = true from z) (by decide), k3, k4, hF5⟩)
            · first
                | (exfalso; first | exact absurd h46 h77 | exact absurd (Decidable.not_not.mp h77) h46)
                | (have hc43 : chr T n q = 43 := Decidable.not_not.mp h77
                   refine xG_run 6 rfl (by repeat' (first | exact trivial | assumption | exact xob_b rfl | exact xal_b rfl | (apply And.intro) | decide)) ?_
                   try dsimp only [xsto1, xsto2, xkill, xget, xset, gd_0, gd_s]
                   try simp (disch := omega) only [gI_self, g_ne, sI_sI, m2, m3, m4, nI_1]
                   refine SX M3 _ _ _ _ k4 (fun w => ⟨w, rfl, ?_⟩)
                   rw [hE.trans ((smX_eq hq).trans ((if_pos hpm).trans (if_neg (by rw [hok]; decide))))]
                   exact ⟨fun z => absurd (show false = true from z) (by decide), k3, k4, hF5⟩)
        · refine xG_run 2 rfl (by repeat' (first | exact trivial | assumption | exact xob_b rfl | exact xal_b rfl | (apply And.intro) | decide)) ?_
          try dsimp only [xsto1, xsto2, xkill, xget, xset, gd_0, gd_s]
          try simp (disch := omega) only [gI_self, g_ne, sI_sI, m2, m3, m4, nI_1]
          refine xG_br rfl (fun h52 => ?_) (fun h52 => ?_)
          · have hpm : chr T n q = 43 ∨ chr T n q = 45 := Or.inr h52
            refine xG_run 7 rfl (by repeat' (first | exact trivial | assumption | exact xob_b rfl | exact xal_b rfl | (apply And.intro) | decide)) ?_
            try dsimp only [xsto1, xsto2, xkill, xget, xset, gd_0, gd_s]
            try simp (disch := omega) only [gI_self, g_ne, sI_sI, m2, m3, m4, nI_1]
            refine xG_c2 0 rfl (by repeat' (first | exact trivial | assumption | exact xob_b rfl | exact xal_b rfl | (apply And.intro) | decide)) rfl rfl (by decide) cw_X6_readAtom (d' := d - 1) (e_readAtom (p := q + 1) (uC_F (uC_F hC9 hFq) (uF_i (Or.inl rfl))) (gI_self _ _ _ _) (by omega) ((gI_ne (by omega)).trans m4) (by omega)) (by omega) ?_
            rintro v M3 ⟨rfl, k3, k4, hF3⟩
            have hfx : ∀ i, gI (sI M2 130 3 (nI (q + 1))) 131 i = gI M 131 i := fun i => (gI_ne (by omega)).trans (hFq.1 _ _ (by omega))
            rw [atX_c (ψ := (fun i => gI M 131 i)) hfx] at k3 k4 ⊢
            obtain ⟨y1, y2, y3⟩ := atX_b (T := T) (n := n) (φ := (fun i => gI M 131 i)) (p := q + 1) (by omega)
            have hF5 : uF M M3 := uF_t hFq (uF_t (uF_i (Or.inl rfl)) hF3)
            rcases Bool.eq_false_or_eq_true (atX T n (fun i => gI M 131 i) (q + 1)).1 with hok | hok
            all_goals rw [hok] at k4
            
            · dsimp only [Option.toList, List.cons_append, List.nil_append]
              refine xG_run 4 rfl (by repeat' (first | exact trivial | assumption | exact xob_b rfl | exact xal_b rfl | (apply And.intro) | decide)) ?_
              try dsimp only [xsto1, xsto2, xkill, xget, xset, gd_0, gd_s]
              try simp (disch := omega) only [gI_self, g_ne, sI_sI, m2, m3, m4, nI_1]
              refine xG_br rfl (fun h77 => ?_) (fun h77 => ?_)
              · first
                  | (exfalso; first | exact absurd h46 h77 | exact absurd (Decidable.not_not.mp h77) h46)
                  | (have hc43 : ¬ chr T n q = 43 := h77
                     refine xG_run 6 rfl (by repeat' (first | exact trivial | assumption | exact xob_b rfl | exact xal_b rfl | (apply And.intro) | decide)) ?_
                     try dsimp only [xsto1, xsto2, xkill, xget, xset, gd_0, gd_s]
                     try simp (disch := omega) only [gI_self, g_ne, sI_sI, m2, m3, m4, nI_1]
                     refine IH (n - (atX T n (fun i => gI M 131 i) (q + 1)).2.1) (by have := y3 hok; omega) _ _ (i + 1) M3 _ _ rfl y2 (by have := y3 hok; omega) hF5 k3 k4 (hE.trans ((smX_eq hq).trans ((if_pos hpm).trans ((if_pos hok).trans ?_))))
                     rw [if_neg hc43])
              · first
                  | (exfalso; first | exact absurd h46 h77 | exact absurd (Decidable.not_not.mp h77) h46)
                  | (have hc43 : chr T n q = 43 := Decidable.not_not.mp h77
                     refine xG_run 6 rfl (by repeat' (first | exact trivial | assumption | exact xob_b rfl | exact xal_b rfl | (apply And.intro) | decide)) ?_
                     try dsimp only [xsto1, xsto2, xkill, xget, xset, gd_0, gd_s]
                     try simp (disch := omega) only [gI_self, g_ne, sI_sI, m2, m3, m4, nI_1]
                     refine IH (n - (atX T n (fun i => gI M 131 i) (q + 1)).2.1) (by have := y3 hok; omega) _ _ (i + 1) M3 _ _ rfl y2 (by have := y3 hok; omega) hF5 k3 k4 (hE.trans ((smX_eq hq).trans ((if_pos hpm).trans ((if_pos hok).trans ?_))))
                     rw [if_pos hc43])
            · dsimp only [Option.toList, List.cons_append, List.nil_append]
              refine xG_run 4 rfl (by repeat' (first | exact trivial | assumption | exact xob_b rfl | exact xal_b rfl | (apply And.intro) | decide)) ?_
              try dsimp only [xsto1, xsto2, xkill, xget, xset, gd_0, gd_s]
              try simp (disch := omega) only [gI_self, g_ne, sI_sI, m2, m3, m4, nI_1]
              refine xG_br rfl (fun h77 => ?_) (fun h77 => ?_)
              · first
                  | (exfalso; first | exact absurd h46 h77 | exact absurd (Decidable.not_not.mp h77) h46)
                  | (have hc43 : ¬ chr T n q = 43 := h77
                     refine xG_run 6 rfl (by repeat' (first | exact trivial | assumption | exact xob_b rfl | exact xal_b rfl | (apply And.intro) | decide)) ?_
                     try dsimp only [xsto1, xsto2, xkill, xget, xset, gd_0, gd_s]
                     try simp (disch := omega) only [gI_self, g_ne, sI_sI, m2, m3, m4, nI_1]
                     refine SX M3 _ _ _ _ k4 (fun w => ⟨w, rfl, ?_⟩)
                     rw [hE.trans ((smX_eq hq).trans ((if_pos hpm).trans (if_neg (by rw [hok]; decide))))]
                     exact ⟨fun z => absurd (show false = true from z) (by decide), k3, k4, hF5⟩)
              · first
                  | (exfalso; first | exact absurd h46 h77 | exact absurd (Decidable.not_not.mp h77) h46)
                  | (have hc43 : chr T n q = 43 := Decidable.not_not.mp h77
                     refine xG_run 6 rfl (by repeat' (first | exact trivial | assumption | exact xob_b rfl | exact xal_b rfl | (apply And.intro) | decide)) ?_
                     try dsimp only [xsto1, xsto2, xkill, xget, xset, gd_0, gd_s]
                     try simp (disch := omega) only [gI_self, g_ne, sI_sI, m2, m3, m4, nI_1]
                     refine SX M3 _ _ _ _ k4 (fun w => ⟨w, rfl, ?_⟩)
                     rw [hE.trans ((smX_eq hq).trans ((if_pos hpm).trans (if_neg (by rw [hok]; decide))))]
                     exact ⟨fun z => absurd (show false = true from z) (by decide), k3, k4, hF5⟩)
          · have hpm : ¬ (chr T n q = 43 ∨ chr T n q = 45) := fun z => z.elim h46 h52
            refine xG_run 1 rfl (by repeat' (first | exact trivial | assumption | exact xob_b rfl | exact xal_b rfl | (apply And.intro) | decide)) ?_
            try dsimp only [xsto1, xsto2, xkill, xget, xset, gd_0, gd_s]
            try simp (disch := omega) only [gI_self, g_ne, sI_sI, m2, m3, m4, nI_1]
            refine r2_i rfl rfl ?_
            refine ⟨a, rfl, ?_⟩
            rw [hE.trans ((smX_eq hq).trans (if_neg hpm))]
            exact ⟨fun _ => rfl, m3, m4, hFq⟩
  refine xG_run 1 rfl (by repeat' (first | exact trivial | assumption | exact xob_b rfl | exact xal_b rfl | (apply And.intro) | decide)) ?_
  try dsimp only [xsto1, xsto2, xkill, xget, xset, gd_0, gd_s]
  refine xG_c2 0 rfl (by repeat' (first | exact trivial | assumption | exact xob_b rfl | exact xal_b rfl | (apply And.intro) | decide)) rfl rfl (by decide) cw_X6_readAtom (d' := d - 1) (e_readAtom hC9 r3 hp r4 (by omega)) (by omega) ?_
  rintro v M3 ⟨rfl, k3, k4, hF3⟩
  obtain ⟨y1, y2, y3⟩ := atX_b (T := T) (n := n) (φ := (fun i => gI M 131 i)) hp
  rcases Bool.eq_false_or_eq_true (atX T n (fun i => gI M 131 i) p).1 with hok | hok
  all_goals rw [hok] at k4
  
  · dsimp only [Option.toList, List.cons_append, List.nil_append]
    refine xG_run 3 rfl (by repeat' (first | exact trivial | assumption | exact xob_b rfl | exact xal_b rfl | (apply And.intro) | decide)) ?_
    try dsimp only [xsto1, xsto2, xkill, xget, xset, gd_0, gd_s]
    exact SL _ _ _ 0 M3 _ _ rfl y2 (by have := y3 hok; omega) hF3 k3 k4 (if_pos hok)
  · dsimp only [Option.toList, List.cons_append, List.nil_append]
    refine xG_run 3 rfl (by repeat' (first | exact trivial | assumption | exact xob_b rfl | exact xal_b rfl | (apply And.intro) | decide)) ?_
    try dsimp only [xsto1, xsto2, xkill, xget, xset, gd_0, gd_s]
    refine SX M3 _ _ _ _ k4 (fun w => ⟨w, rfl, ?_⟩)
    rw [show (suX T n (fun i => gI M 131 i) p) = (false, (atX T n (fun i => gI M 131 i) p).2.1, 0) from if_neg (by rw [hok]; decide)]
    exact ⟨fun z => absurd (show false = true from z) (by decide), k3, k4, hF3⟩
