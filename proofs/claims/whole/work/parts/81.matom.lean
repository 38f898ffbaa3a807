/-! ===== the reference reads rules: atoms, sums ===== -/
def rdP (M M' : xM) : Prop := (∀ x k, ¬ (x = 166 ∧ (k = 12 ∨ k = 24)) → gI M' x k = gI M x k) ∧ (∀ x k, gJ M' x k = gJ M x k) ∧ ∀ x k, gP M' x k = gP M x k
theorem rdP_r {M : xM} : rdP M M := ⟨fun _ _ _ => rfl, fun _ _ => rfl, fun _ _ => rfl⟩
theorem rdP_t {M M' M2 : xM} (h : rdP M M') (h2 : rdP M' M2) : rdP M M2 := ⟨fun x k q => (h2.1 x k q).trans (h.1 x k q), fun x k => (h2.2.1 x k).trans (h.2.1 x k), fun x k => (h2.2.2 x k).trans (h.2.2 x k)⟩
theorem rdP_i {M : xM} {k : Nat} {v : Int32} (h : k = 12 ∨ k = 24) : rdP M (sI M 166 k v) := ⟨fun x y q => gI_ne (by omega), fun _ _ => rfl, fun _ _ => rfl⟩
theorem rT_P {M M' : xM} {a b n : Nat} {T : Nat → Int32} (h : rT M a b n T) (f : rdP M M') : rT M' a b n T := ⟨(f.1 _ _ (by omega)).trans h.1, (f.1 _ _ (by omega)).trans h.2.1, (f.2.2 _ _).trans h.2.2.1, fun k hk => (f.1 _ _ (by have := h.2.2.2.2.2; omega)).trans (h.2.2.2.1 k hk), h.2.2.2.2⟩
theorem atX_1 {T : Nat → Int32} {n p : Nat} {φ : Nat → Int32} (h : ¬ isFd (chr T n p)) (h2 : dgP (chr T n p)) : (atX T n φ p).1 = true ∧ (atX T n φ p).2.1 = p + n4 T n p ∧ ¬ n4 T n p = 0 := by
  have h0 : ¬ n4 T n p = 0 := fun q => (n4_s T n p).2.1 q h2
  unfold atX
  rw [if_neg h, if_neg h0]
  exact ⟨rfl, rfl, h0⟩
theorem atX_0 {T : Nat → Int32} {n p : Nat} {φ : Nat → Int32} (h : ¬ isFd (chr T n p)) (h2 : ¬ dgP (chr T n p)) : (atX T n φ p).1 = false ∧ (atX T n φ p).2.1 = p := by
  unfold atX
  rw [if_neg h, if_pos (by unfold n4; exact if_pos h2)]
  exact ⟨rfl, rfl⟩
set_option maxRecDepth 4000 in
theorem e_isField2 {κ : xKK} {d : Nat} {M : xM} {c : Int32} : xE2 κ mX12_isField d [.int c] M (fun v M' => ((isFd c ∧ v = some (.int 1)) ∨ (¬ isFd c ∧ v = some (.int 0))) ∧ M' = M) := by
  refine xE2_of ci_X12_isField cl_X12_isField cw_X12_isField rfl (L := [some (.int c)]) rfl ?_
  refine xG_run 2 rfl (by repeat' (first | exact trivial | assumption | exact xob_b rfl | exact xal_b rfl | (apply And.intro) | decide)) ?_
  try dsimp only [xsto1, xsto2, xkill, xget, xset, gd_0, gd_s]
  refine xG_br rfl (fun h3 => ?_) (fun h3 => ?_)
  · refine xG_run 2 rfl (by repeat' (first | exact trivial | assumption | exact xob_b rfl | exact xal_b rfl | (apply And.intro) | decide)) ?_
    try dsimp only [xsto1, xsto2, xkill, xget, xset, gd_0, gd_s]
    refine r2_z rfl rfl (by first | decide | assumption) ?_
    first
      | (refine ⟨Or.inr ⟨fun z => ?_, rfl⟩, rfl⟩
         rcases z with z | z | z | z | z | z | z | z <;> contradiction)
      | (refine ⟨Or.inl ⟨?_, rfl⟩, rfl⟩
         simp only [isFd, *, true_or, or_true]
         done)
      | (refine ⟨Or.inl ⟨?_, rfl⟩, rfl⟩
         have hk := Decidable.not_not.mp h45
         simp only [isFd, hk, true_or, or_true]
         done)
  · refine xG_run 2 rfl (by repeat' (first | exact trivial | assumption | exact xob_b rfl | exact xal_b rfl | (apply And.intro) | decide)) ?_
    try dsimp only [xsto1, xsto2, xkill, xget, xset, gd_0, gd_s]
    refine xG_br rfl (fun h9 => ?_) (fun h9 => ?_)
    · refine xG_run 2 rfl (by repeat' (first | exact trivial | assumption | exact xob_b rfl | exact xal_b rfl | (apply And.intro) | decide)) ?_
      try dsimp only [xsto1, xsto2, xkill, xget, xset, gd_0, gd_s]
      refine r2_z rfl rfl (by first | decide | assumption) ?_
      first
        | (refine ⟨Or.inr ⟨fun z => ?_, rfl⟩, rfl⟩
           rcases z with z | z | z | z | z | z | z | z <;> contradiction)
        | (refine ⟨Or.inl ⟨?_, rfl⟩, rfl⟩
           simp only [isFd, *, true_or, or_true]
           done)
        | (refine ⟨Or.inl ⟨?_, rfl⟩, rfl⟩
           have hk := Decidable.not_not.mp h45
           simp only [isFd, hk, true_or, or_true]
           done)
    · refine xG_run 2 rfl (by repeat' (first | exact trivial | assumption | exact xob_b rfl | exact xal_b rfl | (apply And.intro) | decide)) ?_
      try dsimp only [xsto1, xsto2, xkill, xget, xset, gd_0, gd_s]
      refine xG_br rfl (fun h15 => ?_) (fun h15 => ?_)
      · refine xG_run 2 rfl (by repeat' (first | exact trivial | assumption | exact xob_b rfl | exact xal_b rfl | (apply And.intro) | decide)) ?_
        try dsimp only [xsto1, xsto2, xkill, xget, xset, gd_0, gd_s]
        refine r2_z rfl rfl (by first | decide | assumption) ?_
        first
          | (refine ⟨Or.inr ⟨fun z => ?_, rfl⟩, rfl⟩
             rcases z with z | z | z | z | z | z | z | z <;> contradiction)
          | (refine ⟨Or.inl ⟨?_, rfl⟩, rfl⟩
             simp only [isFd, *, true_or, or_true]
             done)
          | (refine ⟨Or.inl ⟨?_, rfl⟩, rfl⟩
             have hk := Decidable.not_not.mp h45
             simp only [isFd, hk, true_or, or_true]
             done)
      · refine xG_run 2 rfl (by repeat' (first | exact trivial | assumption | exact xob_b rfl | exact xal_b rfl | (apply And.intro) | decide)) ?_
        try dsimp only [xsto1, xsto2, xkill, xget, xset, gd_0, gd_s]
        refine xG_br rfl (fun h21 => ?_) (fun h21 => ?_)
        · refine xG_run 2 rfl (by repeat' (first | exact trivial | assumption | exact xob_b rfl | exact xal_b rfl | (apply And.intro) | decide)) ?_
          try dsimp only [xsto1, xsto2, xkill, xget, xset, gd_0, gd_s]
          refine r2_z rfl rfl (by first | decide | assumption) ?_
          first
            | (refine ⟨Or.inr ⟨fun z => ?_, rfl⟩, rfl⟩
               rcases z with z | z | z | z | z | z | z | z <;> contradiction)
            | (refine ⟨Or.inl ⟨?_, rfl⟩, rfl⟩
               simp only [isFd, *, true_or, or_true]
               done)
            | (refine ⟨Or.inl ⟨?_, rfl⟩, rfl⟩
               have hk := Decidable.not_not.mp h45
               simp only [isFd, hk, true_or, or_true]
               done)
        · refine xG_run 2 rfl (by repeat' (first | exact trivial | assumption | exact xob_b rfl | exact xal_b rfl | (apply And.intro) | decide)) ?_
          try dsimp only [xsto1, xsto2, xkill, xget, xset, gd_0, gd_s]
          refine xG_br rfl (fun h27 => ?_) (fun h27 => ?_)
          · refine xG_run 2 rfl (by repeat' (first | exact trivial | assumption | exact xob_b rfl | exact xal_b rfl | (apply And.intro) | decide)) ?_
            try dsimp only [xsto1, xsto2, xkill, xget, xset, gd_0, gd_s]
            refine r2_z rfl rfl (by first | decide | assumption) ?_
            first
              | (refine ⟨Or.inr ⟨fun z => ?_, rfl⟩, rfl⟩
                 rcases z with z | z | z | z | z | z | z | z <;> contradiction)
              | (refine ⟨Or.inl ⟨?_, rfl⟩, rfl⟩
                 simp only [isFd, *, true_or, or_true]
                 done)
              | (refine ⟨Or.inl ⟨?_, rfl⟩, rfl⟩
                 have hk := Decidable.not_not.mp h45
                 simp only [isFd, hk, true_or, or_true]
                 done)
          · refine xG_run 2 rfl (by repeat' (first | exact trivial | assumption | exact xob_b rfl | exact xal_b rfl | (apply And.intro) | decide)) ?_
            try dsimp only [xsto1, xsto2, xkill, xget, xset, gd_0, gd_s]
            refine xG_br rfl (fun h33 => ?_) (fun h33 => ?_)
            · refine xG_run 2 rfl (by repeat' (first | exact trivial | assumption | exact xob_b rfl | exact xal_b rfl | (apply And.intro) | decide)) ?_
              try dsimp only [xsto1, xsto2, xkill, xget, xset, gd_0, gd_s]
              refine r2_z rfl rfl (by first | decide | assumption) ?_
              first
                | (refine ⟨Or.inr ⟨fun z => ?_, rfl⟩, rfl⟩
                   rcases z with z | z | z | z | z | z | z | z <;> contradiction)
                | (refine ⟨Or.inl ⟨?_, rfl⟩, rfl⟩
                   simp only [isFd, *, true_or, or_true]
                   done)
                | (refine ⟨Or.inl ⟨?_, rfl⟩, rfl⟩
                   have hk := Decidable.not_not.mp h45
                   simp only [isFd, hk, true_or, or_true]
                   done)
            · refine xG_run 2 rfl (by repeat' (first | exact trivial | assumption | exact xob_b rfl | exact xal_b rfl | (apply And.intro) | decide)) ?_
              try dsimp only [xsto1, xsto2, xkill, xget, xset, gd_0, gd_s]
              refine xG_br rfl (fun h39 => ?_) (fun h39 => ?_)
              · refine xG_run 2 rfl (by repeat' (first | exact trivial | assumption | exact xob_b rfl | exact xal_b rfl | (apply And.intro) | decide)) ?_
                try dsimp only [xsto1, xsto2, xkill, xget, xset, gd_0, gd_s]
                refine r2_z rfl rfl (by first | decide | assumption) ?_
                first
                  | (refine ⟨Or.inr ⟨fun z => ?_, rfl⟩, rfl⟩
                     rcases z with z | z | z | z | z | z | z | z <;> contradiction)
                  | (refine ⟨Or.inl ⟨?_, rfl⟩, rfl⟩
                     simp only [isFd, *, true_or, or_true]
                     done)
                  | (refine ⟨Or.inl ⟨?_, rfl⟩, rfl⟩
                     have hk := Decidable.not_not.mp h45
                     simp only [isFd, hk, true_or, or_true]
                     done)
              · refine xG_run 2 rfl (by repeat' (first | exact trivial | assumption | exact xob_b rfl | exact xal_b rfl | (apply And.intro) | decide)) ?_
                try dsimp only [xsto1, xsto2, xkill, xget, xset, gd_0, gd_s]
                refine xG_br rfl (fun h45 => ?_) (fun h45 => ?_)
                · refine xG_run 1 rfl (by repeat' (first | exact trivial | assumption | exact xob_b rfl | exact xal_b rfl | (apply And.intro) | decide)) ?_
                  try dsimp only [xsto1, xsto2, xkill, xget, xset, gd_0, gd_s]
                  refine r2_z rfl rfl (by first | decide | assumption) ?_
                  first
                    | (refine ⟨Or.inr ⟨fun z => ?_, rfl⟩, rfl⟩
                       rcases z with z | z | z | z | z | z | z | z <;> contradiction)
                    | (refine ⟨Or.inl ⟨?_, rfl⟩, rfl⟩
                       simp only [isFd, *, true_or, or_true]
                       done)
                    | (refine ⟨Or.inl ⟨?_, rfl⟩, rfl⟩
                       have hk := Decidable.not_not.mp h45
                       simp only [isFd, hk, true_or, or_true]
                       done)
                · refine xG_run 2 rfl (by repeat' (first | exact trivial | assumption | exact xob_b rfl | exact xal_b rfl | (apply And.intro) | decide)) ?_
                  try dsimp only [xsto1, xsto2, xkill, xget, xset, gd_0, gd_s]
                  refine r2_z rfl rfl (by first | decide | assumption) ?_
                  first
                    | (refine ⟨Or.inr ⟨fun z => ?_, rfl⟩, rfl⟩
                       rcases z with z | z | z | z | z | z | z | z <;> contradiction)
                    | (refine ⟨Or.inl ⟨?_, rfl⟩, rfl⟩
                       simp only [isFd, *, true_or, or_true]
                       done)
                    | (refine ⟨Or.inl ⟨?_, rfl⟩, rfl⟩
                       have hk := Decidable.not_not.mp h45
                       simp only [isFd, hk, true_or, or_true]
                       done)
set_option maxRecDepth 4000 in
theorem e_rreadsAtom {κ : xKK} {d : Nat} {M : xM} {a b n p : Nat} {T : Nat → Int32} {φ : Nat → Int32} (hT : rT M a b n T) (hp : gI M 166 12 = nI p) (hpn : p ≤ n) (hd : 3 ≤ d) : xE2 κ mX12_readsAtom d [.ref 166] M (fun v M' => v = some (.int (bl2 (atX T n φ p).1)) ∧ gI M' 166 12 = nI (atX T n φ p).2.1 ∧ gI M' 166 24 = gI M 166 24 ∧ rdP M M') := by
  refine xE2_of ci_X12_readsAtom cl_X12_readsAtom cw_X12_readsAtom rfl (L := [some (.ref 166), none, none]) rfl ?_
  have hn9 := hT.2.2.2.2.1
  refine xG_run 1 rfl (by repeat' (first | exact trivial | assumption | exact xob_b rfl | exact xal_b rfl | (apply And.intro) | decide)) ?_
  try dsimp only [xsto1, xsto2, xkill, xget, xset, gd_0, gd_s]
  try simp (disch := omega) only [hp, nI_1]
  refine xG_c2 0 rfl (by repeat' (first | exact trivial | assumption | exact xob_b rfl | exact xal_b rfl | (apply And.intro) | decide)) rfl rfl (by decide) cw_X12_sign (d' := d - 1) (e_sign hT hp (by omega)) (by omega) ?_
  rintro v M' ⟨rfl, hM⟩
  subst M'
  dsimp only [Option.toList, List.cons_append, List.nil_append]
  refine xG_c2 1 rfl (by repeat' (first | exact trivial | assumption | exact xob_b rfl | exact xal_b rfl | (apply And.intro) | decide)) rfl rfl (by decide) cw_X12_isField (d' := d - 1) e_isField2 (by omega) ?_
  rintro v M1 ⟨⟨hf, rfl⟩ | ⟨hnf, rfl⟩, hM⟩ <;> subst M1
  · dsimp only [Option.toList, List.cons_append, List.nil_append]
    refine xG_brF rfl (by decide) ?_
    refine xG_run 7 rfl (by repeat' (first | exact trivial | assumption | exact xob_b rfl | exact xal_b rfl | (apply And.intro) | decide)) ?_
    try dsimp only [xsto1, xsto2, xkill, xget, xset, gd_0, gd_s]
    try simp (disch := omega) only [hp, nI_1]
    refine r2_z rfl rfl (by first | decide | assumption) ?_
    rw [show (atX T n φ p) = (true, p + 1, φ (fdX (chr T n p))) from if_pos hf]
    exact ⟨rfl, gI_self _ _ _ _, gI_ne (by omega), rdP_i (Or.inl rfl)⟩
  · dsimp only [Option.toList, List.cons_append, List.nil_append]
    refine xG_brT rfl (by decide) ?_
    refine xG_run 1 rfl (by repeat' (first | exact trivial | assumption | exact xob_b rfl | exact xal_b rfl | (apply And.intro) | decide)) ?_
    try dsimp only [xsto1, xsto2, xkill, xget, xset, gd_0, gd_s]
    try simp (disch := omega) only [hp, nI_1]
    refine xG_c2 0 rfl (by repeat' (first | exact trivial | assumption | exact xob_b rfl | exact xal_b rfl | (apply And.intro) | decide)) rfl rfl (by decide) cw_X12_sign (d' := d - 1) (e_sign hT hp (by omega)) (by omega) ?_
    rintro v M' ⟨rfl, hM⟩
    subst M'
    dsimp only [Option.toList, List.cons_append, List.nil_append]
    refine xG_c2 1 rfl (by repeat' (first | exact trivial | assumption | exact xob_b rfl | exact xal_b rfl | (apply And.intro) | decide)) rfl rfl (by decide) cw_X12_isDigit (d' := d - 1) e_isDigit2 (by omega) ?_
    rintro v M' ⟨rfl, hM⟩
    subst M'
    dsimp only [Option.toList, List.cons_append, List.nil_append]
    refine xG_br rfl (fun h29 => ?_) (fun h29 => ?_)
    · have b29 := z1.mp h29
      refine xG_run 1 rfl (by repeat' (first | exact trivial | assumption | exact xob_b rfl | exact xal_b rfl | (apply And.intro) | decide)) ?_
      try dsimp only [xsto1, xsto2, xkill, xget, xset, gd_0, gd_s]
      try simp (disch := omega) only [hp, nI_1]
      refine xG_c2 0 rfl (by repeat' (first | exact trivial | assumption | exact xob_b rfl | exact xal_b rfl | (apply And.intro) | decide)) rfl rfl (by decide) cw_X12_sign (d' := d - 1) (e_sign hT hp (by omega)) (by omega) ?_
      rintro v M' ⟨rfl, hM⟩
      subst M'
      dsimp only [Option.toList, List.cons_append, List.nil_append]
      refine xG_run 1 rfl (by repeat' (first | exact trivial | assumption | exact xob_b rfl | exact xal_b rfl | (apply And.intro) | decide)) ?_
      try dsimp only [xsto1, xsto2, xkill, xget, xset, gd_0, gd_s]
      try simp (disch := omega) only [hp, nI_1]
      refine xG_br rfl (fun h40 => ?_) (fun h40 => ?_)
      · refine xG_run 8 rfl (by repeat' (first | exact trivial | assumption | exact xob_b rfl | exact xal_b rfl | (apply And.intro) | decide)) ?_
        try dsimp only [xsto1, xsto2, xkill, xget, xset, gd_0, gd_s]
        try simp (disch := omega) only [hp, nI_1]
        refine xG_run 2 rfl (by repeat' (first | exact trivial | assumption | exact xob_b rfl | exact xal_b rfl | (apply And.intro) | decide)) ?_
        try dsimp only [xsto1, xsto2, xkill, xget, xset, gd_0, gd_s]
        try simp (disch := omega) only [hp, nI_1]
        have hg : dgP (chr T n p) := b29
        obtain ⟨a1, a2, a3⟩ := atX_1 (φ := φ) hnf hg
        obtain ⟨w1, w2, w3, w4⟩ := n4_s T n p
        have h4 := n4_4 (T := T) (n := n) p
        have hpl := n4_n (T := T) (n := n) hpn
        have lp := xG_upP (κ := κ) (m := mX12_readsAtom) (r := (d, 0, 0)) (YS := xRet mX12_readsAtom false (fun v M' n' => n' = 182 ∧ (v = some (.int (bl2 (atX T n φ p).1)) ∧ gI M' 166 12 = nI (atX T n φ p).2.1 ∧ gI M' 166 24 = gI M 166 24 ∧ rdP M M'))) (fun j X => 1 ≤ j ∧ X = (61, [some (.ref 166), some (.int 0), some (.int (nI j))], [], (sI M 166 12 (nI (p + j))), z2)) (n4 T n p) ?_ ?_ 1 (by omega)
        · exact lp _ ⟨Nat.le_refl 1, rfl⟩
        · rintro j X hj ⟨hj1, rfl⟩ ih
          have hz0 : (0 : Int32) = 0 := by
            first
              | rfl
              | exact absurd (w3 a3 (Decidable.not_not.mp h40)) (by omega)
          have hTj := rT_P hT (rdP_i (M := M) (k := 12) (v := nI (p + j)) (Or.inl rfl))
          have hpj : gI (sI M 166 12 (nI (p + j))) 166 12 = nI (p + j) := gI_self _ _ _ _
          refine xG_run 2 rfl (by repeat' (first | exact trivial | assumption | exact xob_b rfl | exact xal_b rfl | (apply And.intro) | decide)) ?_
          try dsimp only [xsto1, xsto2, xkill, xget, xset, gd_0, gd_s]
          try simp (disch := omega) only [gI_self, sI_sI, nI_1, Nat.add_assoc]
          refine xG_brF rfl (nI_ge (a := j) (b := 4) (by omega) (by omega)) ?_
          refine xG_run 1 rfl (by repeat' (first | exact trivial | assumption | exact xob_b rfl | exact xal_b rfl | (apply And.intro) | decide)) ?_
          try dsimp only [xsto1, xsto2, xkill, xget, xset, gd_0, gd_s]
          try simp (disch := omega) only [gI_self, sI_sI, nI_1, Nat.add_assoc]
          refine xG_brF rfl (fun q => q hz0) ?_
          refine xG_run 1 rfl (by repeat' (first | exact trivial | assumption | exact xob_b rfl | exact xal_b rfl | (apply And.intro) | decide)) ?_
          try dsimp only [xsto1, xsto2, xkill, xget, xset, gd_0, gd_s]
          try simp (disch := omega) only [gI_self, sI_sI, nI_1, Nat.add_assoc]
          refine xG_c2 0 rfl (by repeat' (first | exact trivial | assumption | exact xob_b rfl | exact xal_b rfl | (apply And.intro) | decide)) rfl rfl (by decide) cw_X12_sign (d' := d - 1) (e_sign hTj hpj (by omega)) (by omega) ?_
          rintro v M' ⟨rfl, hM⟩
          subst M'
          dsimp only [Option.toList, List.cons_append, List.nil_append]
          refine xG_c2 1 rfl (by repeat' (first | exact trivial | assumption | exact xob_b rfl | exact xal_b rfl | (apply And.intro) | decide)) rfl rfl (by decide) cw_X12_isDigit (d' := d - 1) e_isDigit2 (by omega) ?_
          rintro v M' ⟨rfl, hM⟩
          subst M'
          dsimp only [Option.toList, List.cons_append, List.nil_append]
          refine xG_brF rfl (by rw [if_pos (w1 j hj)]; decide) ?_
          refine xG_run 8 rfl (by repeat' (first | exact trivial | assumption | exact xob_b rfl | exact xal_b rfl | (apply And.intro) | decide)) ?_
          try dsimp only [xsto1, xsto2, xkill, xget, xset, gd_0, gd_s]
          try simp (disch := omega) only [gI_self, sI_sI, nI_1, Nat.add_assoc]
          exact ih _ ⟨by omega, rfl⟩
        · rintro X ⟨hj1, rfl⟩
          have hzn : ¬¬ (0 : Int32) = 0 → ¬ chr T n p = 48 := by
            first
              | exact fun _ => h40
              | exact fun q => absurd (by decide) q
          have hTj := rT_P hT (rdP_i (M := M) (k := 12) (v := nI (p + n4 T n p)) (Or.inl rfl))
          have hpj : gI (sI M 166 12 (nI (p + n4 T n p))) 166 12 = nI (p + n4 T n p) := gI_self _ _ _ _
          refine xG_run 2 rfl (by repeat' (first | exact trivial | assumption | exact xob_b rfl | exact xal_b rfl | (apply And.intro) | decide)) ?_
          try dsimp only [xsto1, xsto2, xkill, xget, xset, gd_0, gd_s]
          refine xG_br rfl (fun h63 => ?_) (fun h63 => ?_)
          · refine xG_run 1 rfl (by repeat' (first | exact trivial | assumption | exact xob_b rfl | exact xal_b rfl | (apply And.intro) | decide)) ?_
            try dsimp only [xsto1, xsto2, xkill, xget, xset, gd_0, gd_s]
            refine r2_z rfl rfl (by first | decide | assumption) ?_
            refine ⟨by rw [a1]; rfl, ?_, gI_ne (by omega), rdP_i (Or.inl rfl)⟩
            rw [a2]; exact gI_self _ _ _ _
          · refine xG_run 1 rfl (by repeat' (first | exact trivial | assumption | exact xob_b rfl | exact xal_b rfl | (apply And.intro) | decide)) ?_
            try dsimp only [xsto1, xsto2, xkill, xget, xset, gd_0, gd_s]
            refine xG_br rfl (fun h67 => ?_) (fun h67 => ?_)
            · refine xG_run 1 rfl (by repeat' (first | exact trivial | assumption | exact xob_b rfl | exact xal_b rfl | (apply And.intro) | decide)) ?_
              try dsimp only [xsto1, xsto2, xkill, xget, xset, gd_0, gd_s]
              refine r2_z rfl rfl (by first | decide | assumption) ?_
              refine ⟨by rw [a1]; rfl, ?_, gI_ne (by omega), rdP_i (Or.inl rfl)⟩
              rw [a2]; exact gI_self _ _ _ _
            · refine xG_run 1 rfl (by repeat' (first | exact trivial | assumption | exact xob_b rfl | exact xal_b rfl | (apply And.intro) | decide)) ?_
              try dsimp only [xsto1, xsto2, xkill, xget, xset, gd_0, gd_s]
              refine xG_c2 0 rfl (by repeat' (first | exact trivial | assumption | exact xob_b rfl | exact xal_b rfl | (apply And.intro) | decide)) rfl rfl (by decide) cw_X12_sign (d' := d - 1) (e_sign hTj hpj (by omega)) (by omega) ?_
              rintro v M' ⟨rfl, hM⟩
              subst M'
              dsimp only [Option.toList, List.cons_append, List.nil_append]
              refine xG_c2 1 rfl (by repeat' (first | exact trivial | assumption | exact xob_b rfl | exact xal_b rfl | (apply And.intro) | decide)) rfl rfl (by decide) cw_X12_isDigit (d' := d - 1) e_isDigit2 (by omega) ?_
              rintro v M' ⟨rfl, hM⟩
              subst M'
              dsimp only [Option.toList, List.cons_append, List.nil_append]
              refine xG_br rfl (fun h77 => ?_) (fun h77 => ?_)
              · have b77 := z0.mp h77
                first
                  | (exfalso; exact w4 a3 (hzn h67) (by have := h63; exact Nat.lt_of_not_le (fun q => h63 (nI_le (a := 4) q (by omega)))) b77)
                  | (refine xG_run 1 rfl (by repeat' (first | exact trivial | assumption | exact xob_b rfl | exact xal_b rfl | (apply And.intro) | decide)) ?_
                     try dsimp only [xsto1, xsto2, xkill, xget, xset, gd_0, gd_s]
                     refine r2_z rfl rfl (by first | decide | assumption) ?_
                     refine ⟨by rw [a1]; rfl, ?_, gI_ne (by omega), rdP_i (Or.inl rfl)⟩
                     rw [a2]; exact gI_self _ _ _ _)
              · have b77 := z1.mp h77
                first
                  | (exfalso; exact w4 a3 (hzn h67) (by have := h63; exact Nat.lt_of_not_le (fun q => h63 (nI_le (a := 4) q (by omega)))) b77)
                  | (refine xG_run 8 rfl (by repeat' (first | exact trivial | assumption | exact xob_b rfl | exact xal_b rfl | (apply And.intro) | decide)) ?_
                     try dsimp only [xsto1, xsto2, xkill, xget, xset, gd_0, gd_s]
                     done)
      · refine xG_run 8 rfl (by repeat' (first | exact trivial | assumption | exact xob_b rfl | exact xal_b rfl | (apply And.intro) | decide)) ?_
        try dsimp only [xsto1, xsto2, xkill, xget, xset, gd_0, gd_s]
        try simp (disch := omega) only [hp, nI_1]
        refine xG_run 3 rfl (by repeat' (first | exact trivial | assumption | exact xob_b rfl | exact xal_b rfl | (apply And.intro) | decide)) ?_
        try dsimp only [xsto1, xsto2, xkill, xget, xset, gd_0, gd_s]
        try simp (disch := omega) only [hp, nI_1]
        have hg : dgP (chr T n p) := b29
        obtain ⟨a1, a2, a3⟩ := atX_1 (φ := φ) hnf hg
        obtain ⟨w1, w2, w3, w4⟩ := n4_s T n p
        have h4 := n4_4 (T := T) (n := n) p
        have hpl := n4_n (T := T) (n := n) hpn
        have lp := xG_upP (κ := κ) (m := mX12_readsAtom) (r := (d, 0, 0)) (YS := xRet mX12_readsAtom false (fun v M' n' => n' = 182 ∧ (v = some (.int (bl2 (atX T n φ p).1)) ∧ gI M' 166 12 = nI (atX T n φ p).2.1 ∧ gI M' 166 24 = gI M 166 24 ∧ rdP M M'))) (fun j X => 1 ≤ j ∧ X = (61, [some (.ref 166), some (.int 1), some (.int (nI j))], [], (sI M 166 12 (nI (p + j))), z2)) (n4 T n p) ?_ ?_ 1 (by omega)
        · exact lp _ ⟨Nat.le_refl 1, rfl⟩
        · rintro j X hj ⟨hj1, rfl⟩ ih
          have hz0 : (1 : Int32) = 0 := by
            first
              | rfl
              | exact absurd (w3 a3 (Decidable.not_not.mp h40)) (by omega)
          have hTj := rT_P hT (rdP_i (M := M) (k := 12) (v := nI (p + j)) (Or.inl rfl))
          have hpj : gI (sI M 166 12 (nI (p + j))) 166 12 = nI (p + j) := gI_self _ _ _ _
          refine xG_run 2 rfl (by repeat' (first | exact trivial | assumption | exact xob_b rfl | exact xal_b rfl | (apply And.intro) | decide)) ?_
          try dsimp only [xsto1, xsto2, xkill, xget, xset, gd_0, gd_s]
          try simp (disch := omega) only [gI_self, sI_sI, nI_1, Nat.add_assoc]
          refine xG_brF rfl (nI_ge (a := j) (b := 4) (by omega) (by omega)) ?_
          refine xG_run 1 rfl (by repeat' (first | exact trivial | assumption | exact xob_b rfl | exact xal_b rfl | (apply And.intro) | decide)) ?_
          try dsimp only [xsto1, xsto2, xkill, xget, xset, gd_0, gd_s]
          try simp (disch := omega) only [gI_self, sI_sI, nI_1, Nat.add_assoc]
          refine xG_brF rfl (fun q => q hz0) ?_
          refine xG_run 1 rfl (by repeat' (first | exact trivial | assumption | exact xob_b rfl | exact xal_b rfl | (apply And.intro) | decide)) ?_
          try dsimp only [xsto1, xsto2, xkill, xget, xset, gd_0, gd_s]
          try simp (disch := omega) only [gI_self, sI_sI, nI_1, Nat.add_assoc]
          refine xG_c2 0 rfl (by repeat' (first | exact trivial | assumption | exact xob_b rfl | exact xal_b rfl | (apply And.intro) | decide)) rfl rfl (by decide) cw_X12_sign (d' := d - 1) (e_sign hTj hpj (by omega)) (by omega) ?_
          rintro v M' ⟨rfl, hM⟩
          subst M'
          dsimp only [Option.toList, List.cons_append, List.nil_append]
          refine xG_c2 1 rfl (by repeat' (first | exact trivial | assumption | exact xob_b rfl | exact xal_b rfl | (apply And.intro) | decide)) rfl rfl (by decide) cw_X12_isDigit (d' := d - 1) e_isDigit2 (by omega) ?_
          rintro v M' ⟨rfl, hM⟩
          subst M'
          dsimp only [Option.toList, List.cons_append, List.nil_append]
          refine xG_brF rfl (by rw [if_pos (w1 j hj)]; decide) ?_
          refine xG_run 8 rfl (by repeat' (first | exact trivial | assumption | exact xob_b rfl | exact xal_b rfl | (apply And.intro) | decide)) ?_
          try dsimp only [xsto1, xsto2, xkill, xget, xset, gd_0, gd_s]
          try simp (disch := omega) only [gI_self, sI_sI, nI_1, Nat.add_assoc]
          exact ih _ ⟨by omega, rfl⟩
        · rintro X ⟨hj1, rfl⟩
          have hzn : ¬¬ (1 : Int32) = 0 → ¬ chr T n p = 48 := by
            first
              | exact fun _ => h40
              | exact fun q => absurd (by decide) q
          have hTj := rT_P hT (rdP_i (M := M) (k := 12) (v := nI (p + n4 T n p)) (Or.inl rfl))
          have hpj : gI (sI M 166 12 (nI (p + n4 T n p))) 166 12 = nI (p + n4 T n p) := gI_self _ _ _ _
          refine xG_run 2 rfl (by repeat' (first | exact trivial | assumption | exact xob_b rfl | exact xal_b rfl | (apply And.intro) | decide)) ?_
          try dsimp only [xsto1, xsto2, xkill, xget, xset, gd_0, gd_s]
          refine xG_br rfl (fun h63 => ?_) (fun h63 => ?_)
          · refine xG_run 1 rfl (by repeat' (first | exact trivial | assumption | exact xob_b rfl | exact xal_b rfl | (apply And.intro) | decide)) ?_
            try dsimp only [xsto1, xsto2, xkill, xget, xset, gd_0, gd_s]
            refine r2_z rfl rfl (by first | decide | assumption) ?_
            refine ⟨by rw [a1]; rfl, ?_, gI_ne (by omega), rdP_i (Or.inl rfl)⟩
            rw [a2]; exact gI_self _ _ _ _
          · refine xG_run 1 rfl (by repeat' (first | exact trivial | assumption | exact xob_b rfl | exact xal_b rfl | (apply And.intro) | decide)) ?_
            try dsimp only [xsto1, xsto2, xkill, xget, xset, gd_0, gd_s]
            refine xG_br rfl (fun h67 => ?_) (fun h67 => ?_)
            · refine xG_run 1 rfl (by repeat' (first | exact trivial | assumption | exact xob_b rfl | exact xal_b rfl | (apply And.intro) | decide)) ?_
              try dsimp only [xsto1, xsto2, xkill, xget, xset, gd_0, gd_s]
              refine r2_z rfl rfl (by first | decide | assumption) ?_
              refine ⟨by rw [a1]; rfl, ?_, gI_ne (by omega), rdP_i (Or.inl rfl)⟩
              rw [a2]; exact gI_self _ _ _ _
            · refine xG_run 1 rfl (by repeat' (first | exact trivial | assumption | exact xob_b rfl | exact xal_b rfl | (apply And.intro) | decide)) ?_
              try dsimp only [xsto1, xsto2, xkill, xget, xset, gd_0, gd_s]
              refine xG_c2 0 rfl (by repeat' (first | exact trivial | assumption | exact xob_b rfl | exact xal_b rfl | (apply And.intro) | decide)) rfl rfl (by decide) cw_X12_sign (d' := d - 1) (e_sign hTj hpj (by omega)) (by omega) ?_
              rintro v M' ⟨rfl, hM⟩
              subst M'
              dsimp only [Option.toList, List.cons_append, List.nil_append]
              refine xG_c2 1 rfl (by repeat' (first | exact trivial | assumption | exact xob_b rfl | exact xal_b rfl | (apply And.intro) | decide)) rfl rfl (by decide) cw_X12_isDigit (d' := d - 1) e_isDigit2 (by omega) ?_
              rintro v M' ⟨rfl, hM⟩
              subst M'
              dsimp only [Option.toList, List.cons_append, List.nil_append]
              refine xG_br rfl (fun h77 => ?_) (fun h77 => ?_)
              · have b77 := z0.mp h77
                first
                  | (exfalso; exact w4 a3 (hzn h67) (by have := h63; exact Nat.lt_of_not_le (fun q => h63 (nI_le (a := 4) q (by omega)))) b77)
                  | (refine xG_run 1 rfl (by repeat' (first | exact trivial | assumption | exact xob_b rfl | exact xal_b rfl | (apply And.intro) | decide)) ?_
                     try dsimp only [xsto1, xsto2, xkill, xget, xset, gd_0, gd_s]
                     refine r2_z rfl rfl (by first | decide | assumption) ?_
                     refine ⟨by rw [a1]; rfl, ?_, gI_ne (by omega), rdP_i (Or.inl rfl)⟩
                     rw [a2]; exact gI_self _ _ _ _)
              · have b77 := z1.mp h77
                first
                  | (exfalso; exact w4 a3 (hzn h67) (by have := h63; exact Nat.lt_of_not_le (fun q => h63 (nI_le (a := 4) q (by omega)))) b77)
                  | (refine xG_run 8 rfl (by repeat' (first | exact trivial | assumption | exact xob_b rfl | exact xal_b rfl | (apply And.intro) | decide)) ?_
                     try dsimp only [xsto1, xsto2, xkill, xget, xset, gd_0, gd_s]
                     done)
    · have b29 := z0.mp (Decidable.not_not.mp h29)
      refine xG_run 1 rfl (by repeat' (first | exact trivial | assumption | exact xob_b rfl | exact xal_b rfl | (apply And.intro) | decide)) ?_
      try dsimp only [xsto1, xsto2, xkill, xget, xset, gd_0, gd_s]
      try simp (disch := omega) only [hp, nI_1]
      refine r2_z rfl rfl (by first | decide | assumption) ?_
      obtain ⟨a1, a2⟩ := atX_0 (φ := φ) hnf b29
      exact ⟨by rw [a1]; rfl, by rw [a2]; exact hp, rfl, rdP_r⟩
