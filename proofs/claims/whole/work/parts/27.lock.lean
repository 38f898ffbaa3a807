/-! ===== lock ===== -/
abbrev lkH (S : Int32 → Int32) (x b : Int32) (t : Nat) : Prop := (if 0 ≤ S (nI t) - x then S (nI t) - x else 0 - (S (nI t) - x)) ≤ b
def lkC (S : Int32 → Int32) (x b w : Int32) : Nat → Int32
  | 0 => -4
  | t + 1 => if lkH S x b t ∧ (w = 1 ∨ lkC S x b w t = -4) then nI t else lkC S x b w t
abbrev lkG (S : Int32 → Int32) (x b : Int32) (t : Nat) : Prop := S (nI t) - x ≤ b ∧ -(S (nI t) - x) ≤ b
def lkA (S : Int32 → Int32) (x b : Int32) : Nat → Int32
  | 0 => -4
  | t + 1 => if lkG S x b t then (if lkA S x b t < 0 then nI t else lkA S x b t) else lkA S x b t
def lkB (S : Int32 → Int32) (x b : Int32) : Nat → Int32
  | 0 => -4
  | t + 1 => if lkG S x b t then nI t else lkB S x b t
theorem tn_neg {C : Int32 → Int32} {n : Int32} : tnA C n < 0 ↔ tnA C n = -4 := by
  unfold tnA
  by_cases h : fF (fun t => decide (n < C (nI t))) 10000 < 10000
  · rw [if_pos h]
    have e := nI_ti (j := fF (fun t => decide (n < C (nI t))) 10000) (by omega)
    constructor
    · intro q
      rw [Int32.lt_iff_toInt_lt, e, Int32.toInt_zero] at q
      omega
    · intro q
      rw [q] at e
      have f : (-4 : Int32).toInt = -4 := by decide
      omega
  · rw [if_neg h]
    exact ⟨fun _ => rfl, fun _ => by decide⟩
theorem lk_hg {v b : Int32} (hb : 0 ≤ b) : (if 0 ≤ v then v else 0 - v) ≤ b ↔ v ≤ b ∧ -v ≤ b := by
  rw [Int32.le_iff_toInt_le, Int32.toInt_zero] at hb
  have z : (0 : Int32) - v = -v := Int32.zero_sub v
  by_cases h : 0 ≤ v
  · rw [if_pos h]
    rw [Int32.le_iff_toInt_le, Int32.toInt_zero] at h
    refine ⟨fun q => ⟨q, ?_⟩, fun q => q.1⟩
    rw [Int32.le_iff_toInt_le] at q ⊢
    have hv := v.toInt_lt
    rw [← z, fb_subI (by rw [Int32.toInt_zero]; omega) (by rw [Int32.toInt_zero]; omega), Int32.toInt_zero]
    omega
  · rw [if_neg h, z]
    refine ⟨fun q => ⟨?_, q⟩, fun q => q.2⟩
    rw [Int32.le_iff_toInt_le, Int32.toInt_zero] at h
    rw [Int32.le_iff_toInt_le]
    omega
theorem lk_val {S : Int32 → Int32} {x b : Int32} : ∀ t, t ≤ 100 → (lkA S x b t < 0 ↔ lkA S x b t = -4)
  | 0, _ => ⟨fun _ => rfl, fun _ => by rw [lkA]; decide⟩
  | t + 1, h => by
    have ih := lk_val (S := S) (x := x) (b := b) t (by omega)
    rw [lkA]
    by_cases c : lkG S x b t
    · rw [if_pos c]
      by_cases c2 : lkA S x b t < 0
      · rw [if_pos c2]
        have e := nI_ti (j := t) (by omega)
        have f : (-4 : Int32).toInt = -4 := by decide
        constructor
        · intro q
          rw [Int32.lt_iff_toInt_lt, e, Int32.toInt_zero] at q
          omega
        · intro q
          rw [q] at e
          omega
      · rw [if_neg c2]; exact ih
    · rw [if_neg c]; exact ih
theorem lk_1 {S S' : Int32 → Int32} {x b : Int32} (hb : 0 ≤ b) : ∀ n, n ≤ 100 → (∀ t : Nat, t < n → S (nI t) = S' (nI t)) → lkC S x b 1 n = lkB S' x b n
  | 0, _, _ => rfl
  | t + 1, h, hs => by
    have ih := lk_1 (x := x) hb t (by omega) (fun k hk => hs k (by omega))
    have e : lkH S x b t ↔ lkG S' x b t := by
      unfold lkH lkG
      rw [hs t (by omega)]
      exact lk_hg hb
    rw [lkC, lkB, ih]
    by_cases c : lkG S' x b t
    · rw [if_pos c, if_pos ⟨e.mpr c, Or.inl rfl⟩]
    · rw [if_neg c, if_neg (fun q => c (e.mp q.1))]
theorem lk_0 {S S' : Int32 → Int32} {x b : Int32} (hb : 0 ≤ b) : ∀ n, n ≤ 100 → (∀ t : Nat, t < n → S (nI t) = S' (nI t)) → lkC S x b 0 n = lkA S' x b n
  | 0, _, _ => rfl
  | t + 1, h, hs => by
    have ih := lk_0 (x := x) hb t (by omega) (fun k hk => hs k (by omega))
    have e : lkH S x b t ↔ lkG S' x b t := by
      unfold lkH lkG
      rw [hs t (by omega)]
      exact lk_hg hb
    have v := lk_val (S := S') (x := x) (b := b) t (by omega)
    rw [lkC, lkA, ih]
    by_cases c : lkG S' x b t
    · rw [if_pos c]
      by_cases c2 : lkA S' x b t < 0
      · rw [if_pos c2, if_pos ⟨e.mpr c, Or.inr (v.mp c2)⟩]
      · rw [if_neg c2, if_neg (fun q => q.2.elim (fun z => absurd z (by decide)) (fun z => c2 (v.mpr z)))]
    · rw [if_neg c, if_neg (fun q => c (e.mp q.1))]
set_option maxRecDepth 4000 in
theorem e_x_lock {κ : xKK} {d : Nat} {M : xM} {np : Nat} (hn : gI M 1 1 = nI np) (hn2 : np ≤ 10) {i n b w : Int32} (hd : 3 ≤ d) : xE2 κ mX11_lock d [.ref 0, .int i, .int n, .int b, .int w] M (fun v M' => ((∃ j, j < np ∧ i = nI j ∧ 0 ≤ n ∧ n ≤ 9 ∧ 0 ≤ b ∧ b ≤ 99 ∧ (w = 0 ∨ w = 1) ∧ v = some (.int (if tnA (fun x => cCn M np x np) n = -4 then -3 else lkC (cS M (6 + j)) (tnA (fun x => cCn M np x np) n) b w 100))) ∨ (¬ (∃ j, j < np ∧ i = nI j ∧ 0 ≤ n ∧ n ≤ 9 ∧ 0 ≤ b ∧ b ≤ 99 ∧ (w = 0 ∨ w = 1)) ∧ v = some (.int (-1)))) ∧ M' = M) := by
  refine xE2_of ci_X11_lock cl_X11_lock cw_X11_lock rfl (L := [some (.ref 0), some (.int i), some (.int n), some (.int b), some (.int w), none, none, none, none]) rfl ?_
  refine xG_run 3 rfl (by repeat' (first | exact trivial | assumption | exact xob_b rfl | exact xal_b rfl | (apply And.intro) | decide)) ?_
  try dsimp only [xsto1, xsto2, xkill, xget, xset, gd_0, gd_s]
  refine xG_c2 1 rfl (by repeat' (first | exact trivial | assumption | exact xob_b rfl | exact xal_b rfl | (apply And.intro) | decide)) rfl rfl (by decide) cw_X1_pieceAt (d' := d - 1) (e_pieceAt hn hn2) (by omega) ?_
  rintro v M' ⟨hv, hM⟩
  subst M'
  rcases hv with ⟨rfl, hno⟩ | ⟨j, hj, hij, rfl⟩
  · dsimp only [Option.toList, List.cons_append, List.nil_append]
    refine xG_run 4 rfl (by repeat' (first | exact trivial | assumption | exact xob_b rfl | exact xal_b rfl | (apply And.intro) | decide)) ?_
    try dsimp only [xsto1, xsto2, xkill, xget, xset, gd_0, gd_s]
    refine r2_i rfl rfl ?_
    first
      | (refine ⟨Or.inl ⟨j, hj, hij, Int32.not_lt.mp h16, Int32.not_lt.mp h22, Int32.not_lt.mp h26, Int32.not_lt.mp h32, by first | exact Or.inl h37 | exact Or.inr h43, ?_⟩, rfl⟩
         rw [if_pos (Decidable.not_not.mp h62)]; done)
      | (refine ⟨Or.inr ⟨?_, rfl⟩, rfl⟩
         rintro ⟨j9, a1, a2, a3, a4, a5, a6, a7⟩
         first
           | exact hno (by rw [a2]; exact inI a1 (by omega))
           | exact i_nlt a3 h16
           | exact h22 a4
           | exact i_nlt a4 h22
           | exact i_nlt a5 h26
           | exact h32 a6
           | exact i_nlt a6 h32
           | exact a7.elim h37 h43)
  · dsimp only [Option.toList, List.cons_append, List.nil_append]
    have hx : xob (6 + j) 3 182 := xob_p1 (by omega)
    refine xG_run 4 rfl (by repeat' (first | exact trivial | assumption | exact xob_b rfl | exact xal_b rfl | (apply And.intro) | decide)) ?_
    try dsimp only [xsto1, xsto2, xkill, xget, xset, gd_0, gd_s]
    refine xG_br rfl (fun h16 => ?_) (fun h16 => ?_)
    · refine xG_run 1 rfl (by repeat' (first | exact trivial | assumption | exact xob_b rfl | exact xal_b rfl | (apply And.intro) | decide)) ?_
      try dsimp only [xsto1, xsto2, xkill, xget, xset, gd_0, gd_s]
      refine r2_i rfl rfl ?_
      first
        | (refine ⟨Or.inl ⟨j, hj, hij, Int32.not_lt.mp h16, Int32.not_lt.mp h22, Int32.not_lt.mp h26, Int32.not_lt.mp h32, by first | exact Or.inl h37 | exact Or.inr h43, ?_⟩, rfl⟩
           rw [if_pos (Decidable.not_not.mp h62)]; done)
        | (refine ⟨Or.inr ⟨?_, rfl⟩, rfl⟩
           rintro ⟨j9, a1, a2, a3, a4, a5, a6, a7⟩
           first
             | exact hno (by rw [a2]; exact inI a1 (by omega))
             | exact i_nlt a3 h16
             | exact h22 a4
             | exact i_nlt a4 h22
             | exact i_nlt a5 h26
             | exact h32 a6
             | exact i_nlt a6 h32
             | exact a7.elim h37 h43)
    · refine xG_run 2 rfl (by repeat' (first | exact trivial | assumption | exact xob_b rfl | exact xal_b rfl | (apply And.intro) | decide)) ?_
      try dsimp only [xsto1, xsto2, xkill, xget, xset, gd_0, gd_s]
      refine xG_br rfl (fun h22 => ?_) (fun h22 => ?_)
      · refine xG_run 1 rfl (by repeat' (first | exact trivial | assumption | exact xob_b rfl | exact xal_b rfl | (apply And.intro) | decide)) ?_
        try dsimp only [xsto1, xsto2, xkill, xget, xset, gd_0, gd_s]
        refine r2_i rfl rfl ?_
        first
          | (refine ⟨Or.inl ⟨j, hj, hij, Int32.not_lt.mp h16, Int32.not_lt.mp h22, Int32.not_lt.mp h26, Int32.not_lt.mp h32, by first | exact Or.inl h37 | exact Or.inr h43, ?_⟩, rfl⟩
             rw [if_pos (Decidable.not_not.mp h62)]; done)
          | (refine ⟨Or.inr ⟨?_, rfl⟩, rfl⟩
             rintro ⟨j9, a1, a2, a3, a4, a5, a6, a7⟩
             first
               | exact hno (by rw [a2]; exact inI a1 (by omega))
               | exact i_nlt a3 h16
               | exact h22 a4
               | exact i_nlt a4 h22
               | exact i_nlt a5 h26
               | exact h32 a6
               | exact i_nlt a6 h32
               | exact a7.elim h37 h43)
      · refine xG_run 1 rfl (by repeat' (first | exact trivial | assumption | exact xob_b rfl | exact xal_b rfl | (apply And.intro) | decide)) ?_
        try dsimp only [xsto1, xsto2, xkill, xget, xset, gd_0, gd_s]
        refine xG_br rfl (fun h26 => ?_) (fun h26 => ?_)
        · refine xG_run 1 rfl (by repeat' (first | exact trivial | assumption | exact xob_b rfl | exact xal_b rfl | (apply And.intro) | decide)) ?_
          try dsimp only [xsto1, xsto2, xkill, xget, xset, gd_0, gd_s]
          refine r2_i rfl rfl ?_
          first
            | (refine ⟨Or.inl ⟨j, hj, hij, Int32.not_lt.mp h16, Int32.not_lt.mp h22, Int32.not_lt.mp h26, Int32.not_lt.mp h32, by first | exact Or.inl h37 | exact Or.inr h43, ?_⟩, rfl⟩
               rw [if_pos (Decidable.not_not.mp h62)]; done)
            | (refine ⟨Or.inr ⟨?_, rfl⟩, rfl⟩
               rintro ⟨j9, a1, a2, a3, a4, a5, a6, a7⟩
               first
                 | exact hno (by rw [a2]; exact inI a1 (by omega))
                 | exact i_nlt a3 h16
                 | exact h22 a4
                 | exact i_nlt a4 h22
                 | exact i_nlt a5 h26
                 | exact h32 a6
                 | exact i_nlt a6 h32
                 | exact a7.elim h37 h43)
        · refine xG_run 2 rfl (by repeat' (first | exact trivial | assumption | exact xob_b rfl | exact xal_b rfl | (apply And.intro) | decide)) ?_
          try dsimp only [xsto1, xsto2, xkill, xget, xset, gd_0, gd_s]
          refine xG_br rfl (fun h32 => ?_) (fun h32 => ?_)
          · refine xG_run 1 rfl (by repeat' (first | exact trivial | assumption | exact xob_b rfl | exact xal_b rfl | (apply And.intro) | decide)) ?_
            try dsimp only [xsto1, xsto2, xkill, xget, xset, gd_0, gd_s]
            refine r2_i rfl rfl ?_
            first
              | (refine ⟨Or.inl ⟨j, hj, hij, Int32.not_lt.mp h16, Int32.not_lt.mp h22, Int32.not_lt.mp h26, Int32.not_lt.mp h32, by first | exact Or.inl h37 | exact Or.inr h43, ?_⟩, rfl⟩
                 rw [if_pos (Decidable.not_not.mp h62)]; done)
              | (refine ⟨Or.inr ⟨?_, rfl⟩, rfl⟩
                 rintro ⟨j9, a1, a2, a3, a4, a5, a6, a7⟩
                 first
                   | exact hno (by rw [a2]; exact inI a1 (by omega))
                   | exact i_nlt a3 h16
                   | exact h22 a4
                   | exact i_nlt a4 h22
                   | exact i_nlt a5 h26
                   | exact h32 a6
                   | exact i_nlt a6 h32
                   | exact a7.elim h37 h43)
          · refine xG_run 1 rfl (by repeat' (first | exact trivial | assumption | exact xob_b rfl | exact xal_b rfl | (apply And.intro) | decide)) ?_
            try dsimp only [xsto1, xsto2, xkill, xget, xset, gd_0, gd_s]
            refine xG_br rfl (fun h37 => ?_) (fun h37 => ?_)
            · refine xG_run 3 rfl (by repeat' (first | exact trivial | assumption | exact xob_b rfl | exact xal_b rfl | (apply And.intro) | decide)) ?_
              try dsimp only [xsto1, xsto2, xkill, xget, xset, gd_0, gd_s]
              refine xG_c2 1 rfl (by repeat' (first | exact trivial | assumption | exact xob_b rfl | exact xal_b rfl | (apply And.intro) | decide)) rfl rfl (by decide) cw_X1_leastAbove (d' := d - 1) (e_leastAbove hn hn2 (by omega)) (by omega) ?_
              rintro v M' ⟨rfl, hM⟩
              subst M'
              dsimp only [Option.toList, List.cons_append, List.nil_append]
              refine xG_run 3 rfl (by repeat' (first | exact trivial | assumption | exact xob_b rfl | exact xal_b rfl | (apply And.intro) | decide)) ?_
              try dsimp only [xsto1, xsto2, xkill, xget, xset, gd_0, gd_s]
              refine xG_br rfl (fun h62 => ?_) (fun h62 => ?_)
              · refine xG_run 4 rfl (by repeat' (first | exact trivial | assumption | exact xob_b rfl | exact xal_b rfl | (apply And.intro) | decide)) ?_
                try dsimp only [xsto1, xsto2, xkill, xget, xset, gd_0, gd_s]
                refine xG_up (fun t => (75, [some (.ref 0), some (.int i), some (.int n), some (.int b), some (.int w), some (.ref (6 + j)), some (.int (tnA (fun x => cCn M np x np) n)), some (.int (lkC (cS M (6 + j)) (tnA (fun x => cCn M np x np) n) b w t)), some (.int (nI t))], [], M, z2)) 100 ?_ ?_ 0 (Nat.zero_le _)
                · intro t ht ih
                  refine xG_run 2 rfl (by repeat' (first | exact trivial | assumption | exact xob_b rfl | exact xal_b rfl | (apply And.intro) | decide)) ?_
                  try dsimp only [xsto1, xsto2, xkill, xget, xset, gd_0, gd_s]
                  refine xG_brF rfl (show ¬ nI 99 < nI t from nI_nlt (by omega) (by omega)) ?_
                  refine xG_run 2 rfl (by repeat' (first | exact trivial | assumption | exact xob_b rfl | exact xal_b rfl | (apply And.intro) | decide)) ?_
                  try dsimp only [xsto1, xsto2, xkill, xget, xset, gd_0, gd_s]
                  refine xG_c2 1 rfl (by repeat' (first | exact trivial | assumption | exact xob_b rfl | exact xal_b rfl | (apply And.intro) | decide)) rfl rfl (by decide) cw_X3_sheds (d' := d - 1) (e_sheds hx (mx1 _)) (by omega) ?_
                  rintro v M' ⟨rfl, hM⟩
                  subst M'
                  dsimp only [Option.toList, List.cons_append, List.nil_append]
                  refine xG_run 4 rfl (by repeat' (first | exact trivial | assumption | exact xob_b rfl | exact xal_b rfl | (apply And.intro) | decide)) ?_
                  try dsimp only [xsto1, xsto2, xkill, xget, xset, gd_0, gd_s]
                  refine xG_br rfl (fun h96 => ?_) (fun h96 => ?_)
                  · refine xG_run 2 rfl (by repeat' (first | exact trivial | assumption | exact xob_b rfl | exact xal_b rfl | (apply And.intro) | decide)) ?_
                    try dsimp only [xsto1, xsto2, xkill, xget, xset, gd_0, gd_s]
                    first
                      | (rw [nI_1, ← (show lkC (cS M (6 + j)) (tnA (fun x => cCn M np x np) n) b w (t + 1) = nI t from if_pos ⟨i_nlt2 h96, by first | exact Or.inl h102 | exact Or.inr (Decidable.not_not.mp h109)⟩)]; exact ih)
                      | (rw [nI_1, ← (show lkC (cS M (6 + j)) (tnA (fun x => cCn M np x np) n) b w (t + 1) = lkC (cS M (6 + j)) (tnA (fun x => cCn M np x np) n) b w t from if_neg (fun q => by first | exact i_nlt q.1 h96 | exact q.2.elim h102 h109))]; exact ih)
                  · refine xG_run 2 rfl (by repeat' (first | exact trivial | assumption | exact xob_b rfl | exact xal_b rfl | (apply And.intro) | decide)) ?_
                    try dsimp only [xsto1, xsto2, xkill, xget, xset, gd_0, gd_s]
                    refine xG_br rfl (fun h102 => ?_) (fun h102 => ?_)
                    · refine xG_run 4 rfl (by repeat' (first | exact trivial | assumption | exact xob_b rfl | exact xal_b rfl | (apply And.intro) | decide)) ?_
                      try dsimp only [xsto1, xsto2, xkill, xget, xset, gd_0, gd_s]
                      first
                        | (rw [nI_1, ← (show lkC (cS M (6 + j)) (tnA (fun x => cCn M np x np) n) b w (t + 1) = nI t from if_pos ⟨i_nlt2 h96, by first | exact Or.inl h102 | exact Or.inr (Decidable.not_not.mp h109)⟩)]; exact ih)
                        | (rw [nI_1, ← (show lkC (cS M (6 + j)) (tnA (fun x => cCn M np x np) n) b w (t + 1) = lkC (cS M (6 + j)) (tnA (fun x => cCn M np x np) n) b w t from if_neg (fun q => by first | exact i_nlt q.1 h96 | exact q.2.elim h102 h109))]; exact ih)
                    · refine xG_run 2 rfl (by repeat' (first | exact trivial | assumption | exact xob_b rfl | exact xal_b rfl | (apply And.intro) | decide)) ?_
                      try dsimp only [xsto1, xsto2, xkill, xget, xset, gd_0, gd_s]
                      refine xG_br rfl (fun h109 => ?_) (fun h109 => ?_)
                      · refine xG_run 2 rfl (by repeat' (first | exact trivial | assumption | exact xob_b rfl | exact xal_b rfl | (apply And.intro) | decide)) ?_
                        try dsimp only [xsto1, xsto2, xkill, xget, xset, gd_0, gd_s]
                        first
                          | (rw [nI_1, ← (show lkC (cS M (6 + j)) (tnA (fun x => cCn M np x np) n) b w (t + 1) = nI t from if_pos ⟨i_nlt2 h96, by first | exact Or.inl h102 | exact Or.inr (Decidable.not_not.mp h109)⟩)]; exact ih)
                          | (rw [nI_1, ← (show lkC (cS M (6 + j)) (tnA (fun x => cCn M np x np) n) b w (t + 1) = lkC (cS M (6 + j)) (tnA (fun x => cCn M np x np) n) b w t from if_neg (fun q => by first | exact i_nlt q.1 h96 | exact q.2.elim h102 h109))]; exact ih)
                      · refine xG_run 4 rfl (by repeat' (first | exact trivial | assumption | exact xob_b rfl | exact xal_b rfl | (apply And.intro) | decide)) ?_
                        try dsimp only [xsto1, xsto2, xkill, xget, xset, gd_0, gd_s]
                        first
                          | (rw [nI_1, ← (show lkC (cS M (6 + j)) (tnA (fun x => cCn M np x np) n) b w (t + 1) = nI t from if_pos ⟨i_nlt2 h96, by first | exact Or.inl h102 | exact Or.inr (Decidable.not_not.mp h109)⟩)]; exact ih)
                          | (rw [nI_1, ← (show lkC (cS M (6 + j)) (tnA (fun x => cCn M np x np) n) b w (t + 1) = lkC (cS M (6 + j)) (tnA (fun x => cCn M np x np) n) b w t from if_neg (fun q => by first | exact i_nlt q.1 h96 | exact q.2.elim h102 h109))]; exact ih)
                · refine xG_run 2 rfl (by repeat' (first | exact trivial | assumption | exact xob_b rfl | exact xal_b rfl | (apply And.intro) | decide)) ?_
                  try dsimp only [xsto1, xsto2, xkill, xget, xset, gd_0, gd_s]
                  refine xG_brT rfl (show nI 99 < nI 100 from nI_lt (by omega) (by omega)) ?_
                  refine xG_run 1 rfl (by repeat' (first | exact trivial | assumption | exact xob_b rfl | exact xal_b rfl | (apply And.intro) | decide)) ?_
                  try dsimp only [xsto1, xsto2, xkill, xget, xset, gd_0, gd_s]
                  refine r2_i rfl rfl ?_
                  refine ⟨Or.inl ⟨j, hj, hij, Int32.not_lt.mp h16, Int32.not_lt.mp h22, Int32.not_lt.mp h26, Int32.not_lt.mp h32, by first | exact Or.inl h37 | exact Or.inr h43, ?_⟩, rfl⟩
                  rw [if_neg h62]
              · refine xG_run 1 rfl (by repeat' (first | exact trivial | assumption | exact xob_b rfl | exact xal_b rfl | (apply And.intro) | decide)) ?_
                try dsimp only [xsto1, xsto2, xkill, xget, xset, gd_0, gd_s]
                refine r2_i rfl rfl ?_
                first
                  | (refine ⟨Or.inl ⟨j, hj, hij, Int32.not_lt.mp h16, Int32.not_lt.mp h22, Int32.not_lt.mp h26, Int32.not_lt.mp h32, by first | exact Or.inl h37 | exact Or.inr h43, ?_⟩, rfl⟩
                     rw [if_pos (Decidable.not_not.mp h62)]; done)
                  | (refine ⟨Or.inr ⟨?_, rfl⟩, rfl⟩
                     rintro ⟨j9, a1, a2, a3, a4, a5, a6, a7⟩
                     first
                       | exact hno (by rw [a2]; exact inI a1 (by omega))
                       | exact i_nlt a3 h16
                       | exact h22 a4
                       | exact i_nlt a4 h22
                       | exact i_nlt a5 h26
                       | exact h32 a6
                       | exact i_nlt a6 h32
                       | exact a7.elim h37 h43)
            · refine xG_run 2 rfl (by repeat' (first | exact trivial | assumption | exact xob_b rfl | exact xal_b rfl | (apply And.intro) | decide)) ?_
              try dsimp only [xsto1, xsto2, xkill, xget, xset, gd_0, gd_s]
              refine xG_br rfl (fun h43 => ?_) (fun h43 => ?_)
              · refine xG_run 3 rfl (by repeat' (first | exact trivial | assumption | exact xob_b rfl | exact xal_b rfl | (apply And.intro) | decide)) ?_
                try dsimp only [xsto1, xsto2, xkill, xget, xset, gd_0, gd_s]
                refine xG_c2 1 rfl (by repeat' (first | exact trivial | assumption | exact xob_b rfl | exact xal_b rfl | (apply And.intro) | decide)) rfl rfl (by decide) cw_X1_leastAbove (d' := d - 1) (e_leastAbove hn hn2 (by omega)) (by omega) ?_
                rintro v M' ⟨rfl, hM⟩
                subst M'
                dsimp only [Option.toList, List.cons_append, List.nil_append]
                refine xG_run 3 rfl (by repeat' (first | exact trivial | assumption | exact xob_b rfl | exact xal_b rfl | (apply And.intro) | decide)) ?_
                try dsimp only [xsto1, xsto2, xkill, xget, xset, gd_0, gd_s]
                refine xG_br rfl (fun h62 => ?_) (fun h62 => ?_)
                · refine xG_run 4 rfl (by repeat' (first | exact trivial | assumption | exact xob_b rfl | exact xal_b rfl | (apply And.intro) | decide)) ?_
                  try dsimp only [xsto1, xsto2, xkill, xget, xset, gd_0, gd_s]
                  refine xG_up (fun t => (75, [some (.ref 0), some (.int i), some (.int n), some (.int b), some (.int w), some (.ref (6 + j)), some (.int (tnA (fun x => cCn M np x np) n)), some (.int (lkC (cS M (6 + j)) (tnA (fun x => cCn M np x np) n) b w t)), some (.int (nI t))], [], M, z2)) 100 ?_ ?_ 0 (Nat.zero_le _)
                  · intro t ht ih
                    refine xG_run 2 rfl (by repeat' (first | exact trivial | assumption | exact xob_b rfl | exact xal_b rfl | (apply And.intro) | decide)) ?_
                    try dsimp only [xsto1, xsto2, xkill, xget, xset, gd_0, gd_s]
                    refine xG_brF rfl (show ¬ nI 99 < nI t from nI_nlt (by omega) (by omega)) ?_
                    refine xG_run 2 rfl (by repeat' (first | exact trivial | assumption | exact xob_b rfl | exact xal_b rfl | (apply And.intro) | decide)) ?_
                    try dsimp only [xsto1, xsto2, xkill, xget, xset, gd_0, gd_s]
                    refine xG_c2 1 rfl (by repeat' (first | exact trivial | assumption | exact xob_b rfl | exact xal_b rfl | (apply And.intro) | decide)) rfl rfl (by decide) cw_X3_sheds (d' := d - 1) (e_sheds hx (mx1 _)) (by omega) ?_
                    rintro v M' ⟨rfl, hM⟩
                    subst M'
                    dsimp only [Option.toList, List.cons_append, List.nil_append]
                    refine xG_run 4 rfl (by repeat' (first | exact trivial | assumption | exact xob_b rfl | exact xal_b rfl | (apply And.intro) | decide)) ?_
                    try dsimp only [xsto1, xsto2, xkill, xget, xset, gd_0, gd_s]
                    refine xG_br rfl (fun h96 => ?_) (fun h96 => ?_)
                    · refine xG_run 2 rfl (by repeat' (first | exact trivial | assumption | exact xob_b rfl | exact xal_b rfl | (apply And.intro) | decide)) ?_
                      try dsimp only [xsto1, xsto2, xkill, xget, xset, gd_0, gd_s]
                      first
                        | (rw [nI_1, ← (show lkC (cS M (6 + j)) (tnA (fun x => cCn M np x np) n) b w (t + 1) = nI t from if_pos ⟨i_nlt2 h96, by first | exact Or.inl h102 | exact Or.inr (Decidable.not_not.mp h109)⟩)]; exact ih)
                        | (rw [nI_1, ← (show lkC (cS M (6 + j)) (tnA (fun x => cCn M np x np) n) b w (t + 1) = lkC (cS M (6 + j)) (tnA (fun x => cCn M np x np) n) b w t from if_neg (fun q => by first | exact i_nlt q.1 h96 | exact q.2.elim h102 h109))]; exact ih)
                    · refine xG_run 2 rfl (by repeat' (first | exact trivial | assumption | exact xob_b rfl | exact xal_b rfl | (apply And.intro) | decide)) ?_
                      try dsimp only [xsto1, xsto2, xkill, xget, xset, gd_0, gd_s]
                      refine xG_br rfl (fun h102 => ?_) (fun h102 => ?_)
                      · refine xG_run 4 rfl (by repeat' (first | exact trivial | assumption | exact xob_b rfl | exact xal_b rfl | (apply And.intro) | decide)) ?_
                        try dsimp only [xsto1, xsto2, xkill, xget, xset, gd_0, gd_s]
                        first
                          | (rw [nI_1, ← (show lkC (cS M (6 + j)) (tnA (fun x => cCn M np x np) n) b w (t + 1) = nI t from if_pos ⟨i_nlt2 h96, by first | exact Or.inl h102 | exact Or.inr (Decidable.not_not.mp h109)⟩)]; exact ih)
                          | (rw [nI_1, ← (show lkC (cS M (6 + j)) (tnA (fun x => cCn M np x np) n) b w (t + 1) = lkC (cS M (6 + j)) (tnA (fun x => cCn M np x np) n) b w t from if_neg (fun q => by first | exact i_nlt q.1 h96 | exact q.2.elim h102 h109))]; exact ih)
                      · refine xG_run 2 rfl (by repeat' (first | exact trivial | assumption | exact xob_b rfl | exact xal_b rfl | (apply And.intro) | decide)) ?_
                        try dsimp only [xsto1, xsto2, xkill, xget, xset, gd_0, gd_s]
                        refine xG_br rfl (fun h109 => ?_) (fun h109 => ?_)
                        · refine xG_run 2 rfl (by repeat' (first | exact trivial | assumption | exact xob_b rfl | exact xal_b rfl | (apply And.intro) | decide)) ?_
                          try dsimp only [xsto1, xsto2, xkill, xget, xset, gd_0, gd_s]
                          first
                            | (rw [nI_1, ← (show lkC (cS M (6 + j)) (tnA (fun x => cCn M np x np) n) b w (t + 1) = nI t from if_pos ⟨i_nlt2 h96, by first | exact Or.inl h102 | exact Or.inr (Decidable.not_not.mp h109)⟩)]; exact ih)
                            | (rw [nI_1, ← (show lkC (cS M (6 + j)) (tnA (fun x => cCn M np x np) n) b w (t + 1) = lkC (cS M (6 + j)) (tnA (fun x => cCn M np x np) n) b w t from if_neg (fun q => by first | exact i_nlt q.1 h96 | exact q.2.elim h102 h109))]; exact ih)
                        · refine xG_run 4 rfl (by repeat' (first | exact trivial | assumption | exact xob_b rfl | exact xal_b rfl | (apply And.intro) | decide)) ?_
                          try dsimp only [xsto1, xsto2, xkill, xget, xset, gd_0, gd_s]
                          first
                            | (rw [nI_1, ← (show lkC (cS M (6 + j)) (tnA (fun x => cCn M np x np) n) b w (t + 1) = nI t from if_pos ⟨i_nlt2 h96, by first | exact Or.inl h102 | exact Or.inr (Decidable.not_not.mp h109)⟩)]; exact ih)
                            | (rw [nI_1, ← (show lkC (cS M (6 + j)) (tnA (fun x => cCn M np x np) n) b w (t + 1) = lkC (cS M (6 + j)) (tnA (fun x => cCn M np x np) n) b w t from if_neg (fun q => by first | exact i_nlt q.1 h96 | exact q.2.elim h102 h109))]; exact ih)
                  · refine xG_run 2 rfl (by repeat' (first | exact trivial | assumption | exact xob_b rfl | exact xal_b rfl | (apply And.intro) | decide)) ?_
                    try dsimp only [xsto1, xsto2, xkill, xget, xset, gd_0, gd_s]
                    refine xG_brT rfl (show nI 99 < nI 100 from nI_lt (by omega) (by omega)) ?_
                    refine xG_run 1 rfl (by repeat' (first | exact trivial | assumption | exact xob_b rfl | exact xal_b rfl | (apply And.intro) | decide)) ?_
                    try dsimp only [xsto1, xsto2, xkill, xget, xset, gd_0, gd_s]
                    refine r2_i rfl rfl ?_
                    refine ⟨Or.inl ⟨j, hj, hij, Int32.not_lt.mp h16, Int32.not_lt.mp h22, Int32.not_lt.mp h26, Int32.not_lt.mp h32, by first | exact Or.inl h37 | exact Or.inr h43, ?_⟩, rfl⟩
                    rw [if_neg h62]
                · refine xG_run 1 rfl (by repeat' (first | exact trivial | assumption | exact xob_b rfl | exact xal_b rfl | (apply And.intro) | decide)) ?_
                  try dsimp only [xsto1, xsto2, xkill, xget, xset, gd_0, gd_s]
                  refine r2_i rfl rfl ?_
                  first
                    | (refine ⟨Or.inl ⟨j, hj, hij, Int32.not_lt.mp h16, Int32.not_lt.mp h22, Int32.not_lt.mp h26, Int32.not_lt.mp h32, by first | exact Or.inl h37 | exact Or.inr h43, ?_⟩, rfl⟩
                       rw [if_pos (Decidable.not_not.mp h62)]; done)
                    | (refine ⟨Or.inr ⟨?_, rfl⟩, rfl⟩
                       rintro ⟨j9, a1, a2, a3, a4, a5, a6, a7⟩
                       first
                         | exact hno (by rw [a2]; exact inI a1 (by omega))
                         | exact i_nlt a3 h16
                         | exact h22 a4
                         | exact i_nlt a4 h22
                         | exact i_nlt a5 h26
                         | exact h32 a6
                         | exact i_nlt a6 h32
                         | exact a7.elim h37 h43)
              · refine xG_run 1 rfl (by repeat' (first | exact trivial | assumption | exact xob_b rfl | exact xal_b rfl | (apply And.intro) | decide)) ?_
                try dsimp only [xsto1, xsto2, xkill, xget, xset, gd_0, gd_s]
                refine r2_i rfl rfl ?_
                first
                  | (refine ⟨Or.inl ⟨j, hj, hij, Int32.not_lt.mp h16, Int32.not_lt.mp h22, Int32.not_lt.mp h26, Int32.not_lt.mp h32, by first | exact Or.inl h37 | exact Or.inr h43, ?_⟩, rfl⟩
                     rw [if_pos (Decidable.not_not.mp h62)]; done)
                  | (refine ⟨Or.inr ⟨?_, rfl⟩, rfl⟩
                     rintro ⟨j9, a1, a2, a3, a4, a5, a6, a7⟩
                     first
                       | exact hno (by rw [a2]; exact inI a1 (by omega))
                       | exact i_nlt a3 h16
                       | exact h22 a4
                       | exact i_nlt a4 h22
                       | exact i_nlt a5 h26
                       | exact h32 a6
                       | exact i_nlt a6 h32
                       | exact a7.elim h37 h43)
theorem w012 {w : Int32} (h : 0 ≤ w ∧ w ≤ 1) : w = 0 ∨ w = 1 := by
  by_cases q : w = 0
  · exact Or.inl q
  · exact Or.inr (w01 h q)
set_option maxRecDepth 4000 in
theorem e_m_lock {κ : xKK} {d : Nat} {M : xM} {np : Nat} (hn : gI M 167 1643 = nI np) (hn2 : np ≤ 10) {i n b w : Int32} (hd : 5 ≤ d) : xE2 κ mX12_lock d [.ref 166, .int i, .int n, .int b, .int w] M (fun v M' => ((∃ j, j < np ∧ i = nI j ∧ 0 ≤ n ∧ n ≤ 9 ∧ 0 ≤ b ∧ b ≤ 99 ∧ (w = 0 ∨ w = 1) ∧ v = some (.int (if tnA (fun x => rCn M np x np) n = -4 then -3 else if w = 0 then lkA (rS M j) (tnA (fun x => rCn M np x np) n) b 100 else lkB (rS M j) (tnA (fun x => rCn M np x np) n) b 100))) ∨ (¬ (∃ j, j < np ∧ i = nI j ∧ 0 ≤ n ∧ n ≤ 9 ∧ 0 ≤ b ∧ b ≤ 99 ∧ (w = 0 ∨ w = 1)) ∧ v = some (.int (-1)))) ∧ M' = M) := by
  refine xE2_of ci_X12_lock cl_X12_lock cw_X12_lock rfl (L := [some (.ref 166), some (.int i), some (.int n), some (.int b), some (.int w), none, none, none, none, none]) rfl ?_
  refine xG_run 2 rfl (by repeat' (first | exact trivial | assumption | exact xob_b rfl | exact xal_b rfl | (apply And.intro) | decide)) ?_
  try dsimp only [xsto1, xsto2, xkill, xget, xset, gd_0, gd_s]
  refine xG_c2 1 rfl (by repeat' (first | exact trivial | assumption | exact xob_b rfl | exact xal_b rfl | (apply And.intro) | decide)) rfl rfl (by decide) cw_X12_isPiece (d' := d - 1) (e_isPiece hn hn2 (by omega)) (by omega) ?_
  rintro v M' ⟨rfl, hM⟩
  subst M'
  dsimp only [Option.toList, List.cons_append, List.nil_append]
  refine xG_br rfl (fun h5 => ?_) (fun h5 => ?_)
  · have b5 := z0.mp h5
    skip
    refine xG_run 1 rfl (by repeat' (first | exact trivial | assumption | exact xob_b rfl | exact xal_b rfl | (apply And.intro) | decide)) ?_
    try dsimp only [xsto1, xsto2, xkill, xget, xset, gd_0, gd_s]
    refine r2_i rfl rfl ?_
    first
      | (refine ⟨Or.inl ⟨j, hj, rfl, b17.1, b17.2, b29.1, b29.2, w012 b40, ?_⟩, rfl⟩
         rw [if_pos (tn_neg.mp (i_nle h54))]; done)
      | (refine ⟨Or.inr ⟨?_, rfl⟩, rfl⟩
         rintro ⟨j9, a1, a2, a3, a4, a5, a6, a7⟩
         first
           | exact b5 (by rw [a2]; exact inI a1 (by omega))
           | exact b17 ⟨a3, a4⟩
           | exact b29 ⟨a5, a6⟩
           | exact b40 (by rcases a7 with rfl | rfl <;> decide))
  · have b5 := z1.mp h5
    obtain ⟨j, hj, rfl⟩ := inI_of b5 (by omega)
    refine xG_run 4 rfl (by repeat' (first | exact trivial | assumption | exact xob_b rfl | exact xal_b rfl | (apply And.intro) | decide)) ?_
    try dsimp only [xsto1, xsto2, xkill, xget, xset, gd_0, gd_s]
    refine xG_c2 3 rfl (by repeat' (first | exact trivial | assumption | exact xob_b rfl | exact xal_b rfl | (apply And.intro) | decide)) rfl rfl (by decide) cw_X12_isIn (d' := d - 1) (e_isIn (c := 0 ≤ n ∧ n ≤ 9) (in32 rfl rfl)) (by omega) ?_
    rintro v M' ⟨rfl, hM⟩
    subst M'
    dsimp only [Option.toList, List.cons_append, List.nil_append]
    refine xG_br rfl (fun h17 => ?_) (fun h17 => ?_)
    · have b17 := z0.mp h17
      refine xG_run 1 rfl (by repeat' (first | exact trivial | assumption | exact xob_b rfl | exact xal_b rfl | (apply And.intro) | decide)) ?_
      try dsimp only [xsto1, xsto2, xkill, xget, xset, gd_0, gd_s]
      refine r2_i rfl rfl ?_
      first
        | (refine ⟨Or.inl ⟨j, hj, rfl, b17.1, b17.2, b29.1, b29.2, w012 b40, ?_⟩, rfl⟩
           rw [if_pos (tn_neg.mp (i_nle h54))]; done)
        | (refine ⟨Or.inr ⟨?_, rfl⟩, rfl⟩
           rintro ⟨j9, a1, a2, a3, a4, a5, a6, a7⟩
           first
             | exact b5 (by rw [a2]; exact inI a1 (by omega))
             | exact b17 ⟨a3, a4⟩
             | exact b29 ⟨a5, a6⟩
             | exact b40 (by rcases a7 with rfl | rfl <;> decide))
    · have b17 := z1.mp h17
      refine xG_run 4 rfl (by repeat' (first | exact trivial | assumption | exact xob_b rfl | exact xal_b rfl | (apply And.intro) | decide)) ?_
      try dsimp only [xsto1, xsto2, xkill, xget, xset, gd_0, gd_s]
      refine xG_c2 3 rfl (by repeat' (first | exact trivial | assumption | exact xob_b rfl | exact xal_b rfl | (apply And.intro) | decide)) rfl rfl (by decide) cw_X12_isIn (d' := d - 1) (e_isIn (c := 0 ≤ b ∧ b ≤ 99) (in32 rfl rfl)) (by omega) ?_
      rintro v M' ⟨rfl, hM⟩
      subst M'
      dsimp only [Option.toList, List.cons_append, List.nil_append]
      refine xG_br rfl (fun h29 => ?_) (fun h29 => ?_)
      · have b29 := z0.mp h29
        refine xG_run 1 rfl (by repeat' (first | exact trivial | assumption | exact xob_b rfl | exact xal_b rfl | (apply And.intro) | decide)) ?_
        try dsimp only [xsto1, xsto2, xkill, xget, xset, gd_0, gd_s]
        refine r2_i rfl rfl ?_
        first
          | (refine ⟨Or.inl ⟨j, hj, rfl, b17.1, b17.2, b29.1, b29.2, w012 b40, ?_⟩, rfl⟩
             rw [if_pos (tn_neg.mp (i_nle h54))]; done)
          | (refine ⟨Or.inr ⟨?_, rfl⟩, rfl⟩
             rintro ⟨j9, a1, a2, a3, a4, a5, a6, a7⟩
             first
               | exact b5 (by rw [a2]; exact inI a1 (by omega))
               | exact b17 ⟨a3, a4⟩
               | exact b29 ⟨a5, a6⟩
               | exact b40 (by rcases a7 with rfl | rfl <;> decide))
      · have b29 := z1.mp h29
        refine xG_run 4 rfl (by repeat' (first | exact trivial | assumption | exact xob_b rfl | exact xal_b rfl | (apply And.intro) | decide)) ?_
        try dsimp only [xsto1, xsto2, xkill, xget, xset, gd_0, gd_s]
        refine xG_c2 3 rfl (by repeat' (first | exact trivial | assumption | exact xob_b rfl | exact xal_b rfl | (apply And.intro) | decide)) rfl rfl (by decide) cw_X12_isIn (d' := d - 1) (e_isIn (c := 0 ≤ w ∧ w ≤ 1) (in32 rfl rfl)) (by omega) ?_
        rintro v M' ⟨rfl, hM⟩
        subst M'
        dsimp only [Option.toList, List.cons_append, List.nil_append]
        refine xG_br rfl (fun h40 => ?_) (fun h40 => ?_)
        · have b40 := z1.mp h40
          refine xG_run 2 rfl (by repeat' (first | exact trivial | assumption | exact xob_b rfl | exact xal_b rfl | (apply And.intro) | decide)) ?_
          try dsimp only [xsto1, xsto2, xkill, xget, xset, gd_0, gd_s]
          refine xG_c2 1 rfl (by repeat' (first | exact trivial | assumption | exact xob_b rfl | exact xal_b rfl | (apply And.intro) | decide)) rfl rfl (by decide) cw_X12_toneOf (d' := d - 1) (e_toneOf hn hn2 (by omega)) (by omega) ?_
          rintro v M' ⟨rfl, hM⟩
          subst M'
          dsimp only [Option.toList, List.cons_append, List.nil_append]
          refine xG_run 2 rfl (by repeat' (first | exact trivial | assumption | exact xob_b rfl | exact xal_b rfl | (apply And.intro) | decide)) ?_
          try dsimp only [xsto1, xsto2, xkill, xget, xset, gd_0, gd_s]
          refine xG_br rfl (fun h54 => ?_) (fun h54 => ?_)
          · refine xG_run 6 rfl (by repeat' (first | exact trivial | assumption | exact xob_b rfl | exact xal_b rfl | (apply And.intro) | decide)) ?_
            try dsimp only [xsto1, xsto2, xkill, xget, xset, gd_0, gd_s]
            refine xG_upP (fun t X => ∃ y9 : Option Value, X = (71, [some (.ref 166), some (.int (nI j)), some (.int n), some (.int b), some (.int w), some (.int (tnA (fun x => rCn M np x np) n)), some (.int (lkA (rS M j) (tnA (fun x => rCn M np x np) n) b t)), some (.int (lkB (rS M j) (tnA (fun x => rCn M np x np) n) b t)), some (.int (nI t)), y9], [], M, z2)) 100 ?_ ?_ 0 (Nat.zero_le _) _ ⟨none, rfl⟩
            · rintro t X ht ⟨y9, rfl⟩ ih
              refine xG_run 2 rfl (by repeat' (first | exact trivial | assumption | exact xob_b rfl | exact xal_b rfl | (apply And.intro) | decide)) ?_
              try dsimp only [xsto1, xsto2, xkill, xget, xset, gd_0, gd_s]
              refine xG_brF rfl (show ¬ nI 100 ≤ nI t from nI_ge ht (by omega)) ?_
              refine xG_run 3 rfl (by repeat' (first | exact trivial | assumption | exact xob_b rfl | exact xal_b rfl | (apply And.intro) | decide)) ?_
              try dsimp only [xsto1, xsto2, xkill, xget, xset, gd_0, gd_s]
              refine xG_c2 2 rfl (by repeat' (first | exact trivial | assumption | exact xob_b rfl | exact xal_b rfl | (apply And.intro) | decide)) rfl rfl (by decide) cw_X12_shed (d' := d - 1) (e_rshed (p := j) (by omega) (by omega)) (by omega) ?_
              rintro v M' ⟨rfl, hM⟩
              subst M'
              dsimp only [Option.toList, List.cons_append, List.nil_append]
              refine xG_run 5 rfl (by repeat' (first | exact trivial | assumption | exact xob_b rfl | exact xal_b rfl | (apply And.intro) | decide)) ?_
              try dsimp only [xsto1, xsto2, xkill, xget, xset, gd_0, gd_s]
              refine xG_br rfl (fun h93 => ?_) (fun h93 => ?_)
              · refine xG_run 2 rfl (by repeat' (first | exact trivial | assumption | exact xob_b rfl | exact xal_b rfl | (apply And.intro) | decide)) ?_
                try dsimp only [xsto1, xsto2, xkill, xget, xset, gd_0, gd_s]
                first
                  | (have g : lkG (rS M j) (tnA (fun x => rCn M np x np) n) b t := ⟨i_nlt2 h93, h100⟩
                     have e1 : lkA (rS M j) (tnA (fun x => rCn M np x np) n) b (t + 1) = if lkA (rS M j) (tnA (fun x => rCn M np x np) n) b t < 0 then nI t else lkA (rS M j) (tnA (fun x => rCn M np x np) n) b t := if_pos g
                     have e2 : lkB (rS M j) (tnA (fun x => rCn M np x np) n) b (t + 1) = nI t := if_pos g
                     first
                       | rw [if_pos (i_nle h112)] at e1
                       | rw [if_neg (i_nlt h112)] at e1
                     exact ih _ ⟨_, by rw [nI_1, e1, e2]⟩)
                  | (have g : ¬ lkG (rS M j) (tnA (fun x => rCn M np x np) n) b t := fun q => by first | exact i_nlt q.1 h93 | exact h100 q.2
                     have e1 : lkA (rS M j) (tnA (fun x => rCn M np x np) n) b (t + 1) = lkA (rS M j) (tnA (fun x => rCn M np x np) n) b t := if_neg g
                     have e2 : lkB (rS M j) (tnA (fun x => rCn M np x np) n) b (t + 1) = lkB (rS M j) (tnA (fun x => rCn M np x np) n) b t := if_neg g
                     first
                       | exact ih _ ⟨_, by rw [nI_1, e1, e2]⟩)
              · refine xG_run 3 rfl (by repeat' (first | exact trivial | assumption | exact xob_b rfl | exact xal_b rfl | (apply And.intro) | decide)) ?_
                try dsimp only [xsto1, xsto2, xkill, xget, xset, gd_0, gd_s]
                refine xG_br rfl (fun h100 => ?_) (fun h100 => ?_)
                · refine xG_run 3 rfl (by repeat' (first | exact trivial | assumption | exact xob_b rfl | exact xal_b rfl | (apply And.intro) | decide)) ?_
                  try dsimp only [xsto1, xsto2, xkill, xget, xset, gd_0, gd_s]
                  refine xG_br rfl (fun h112 => ?_) (fun h112 => ?_)
                  · refine xG_run 4 rfl (by repeat' (first | exact trivial | assumption | exact xob_b rfl | exact xal_b rfl | (apply And.intro) | decide)) ?_
                    try dsimp only [xsto1, xsto2, xkill, xget, xset, gd_0, gd_s]
                    first
                      | (have g : lkG (rS M j) (tnA (fun x => rCn M np x np) n) b t := ⟨i_nlt2 h93, h100⟩
                         have e1 : lkA (rS M j) (tnA (fun x => rCn M np x np) n) b (t + 1) = if lkA (rS M j) (tnA (fun x => rCn M np x np) n) b t < 0 then nI t else lkA (rS M j) (tnA (fun x => rCn M np x np) n) b t := if_pos g
                         have e2 : lkB (rS M j) (tnA (fun x => rCn M np x np) n) b (t + 1) = nI t := if_pos g
                         first
                           | rw [if_pos (i_nle h112)] at e1
                           | rw [if_neg (i_nlt h112)] at e1
                         exact ih _ ⟨_, by rw [nI_1, e1, e2]⟩)
                      | (have g : ¬ lkG (rS M j) (tnA (fun x => rCn M np x np) n) b t := fun q => by first | exact i_nlt q.1 h93 | exact h100 q.2
                         have e1 : lkA (rS M j) (tnA (fun x => rCn M np x np) n) b (t + 1) = lkA (rS M j) (tnA (fun x => rCn M np x np) n) b t := if_neg g
                         have e2 : lkB (rS M j) (tnA (fun x => rCn M np x np) n) b (t + 1) = lkB (rS M j) (tnA (fun x => rCn M np x np) n) b t := if_neg g
                         first
                           | exact ih _ ⟨_, by rw [nI_1, e1, e2]⟩)
                  · refine xG_run 5 rfl (by repeat' (first | exact trivial | assumption | exact xob_b rfl | exact xal_b rfl | (apply And.intro) | decide)) ?_
                    try dsimp only [xsto1, xsto2, xkill, xget, xset, gd_0, gd_s]
                    first
                      | (have g : lkG (rS M j) (tnA (fun x => rCn M np x np) n) b t := ⟨i_nlt2 h93, h100⟩
                         have e1 : lkA (rS M j) (tnA (fun x => rCn M np x np) n) b (t + 1) = if lkA (rS M j) (tnA (fun x => rCn M np x np) n) b t < 0 then nI t else lkA (rS M j) (tnA (fun x => rCn M np x np) n) b t := if_pos g
                         have e2 : lkB (rS M j) (tnA (fun x => rCn M np x np) n) b (t + 1) = nI t := if_pos g
                         first
                           | rw [if_pos (i_nle h112)] at e1
                           | rw [if_neg (i_nlt h112)] at e1
                         exact ih _ ⟨_, by rw [nI_1, e1, e2]⟩)
                      | (have g : ¬ lkG (rS M j) (tnA (fun x => rCn M np x np) n) b t := fun q => by first | exact i_nlt q.1 h93 | exact h100 q.2
                         have e1 : lkA (rS M j) (tnA (fun x => rCn M np x np) n) b (t + 1) = lkA (rS M j) (tnA (fun x => rCn M np x np) n) b t := if_neg g
                         have e2 : lkB (rS M j) (tnA (fun x => rCn M np x np) n) b (t + 1) = lkB (rS M j) (tnA (fun x => rCn M np x np) n) b t := if_neg g
                         first
                           | exact ih _ ⟨_, by rw [nI_1, e1, e2]⟩)
                · refine xG_run 3 rfl (by repeat' (first | exact trivial | assumption | exact xob_b rfl | exact xal_b rfl | (apply And.intro) | decide)) ?_
                  try dsimp only [xsto1, xsto2, xkill, xget, xset, gd_0, gd_s]
                  first
                    | (have g : lkG (rS M j) (tnA (fun x => rCn M np x np) n) b t := ⟨i_nlt2 h93, h100⟩
                       have e1 : lkA (rS M j) (tnA (fun x => rCn M np x np) n) b (t + 1) = if lkA (rS M j) (tnA (fun x => rCn M np x np) n) b t < 0 then nI t else lkA (rS M j) (tnA (fun x => rCn M np x np) n) b t := if_pos g
                       have e2 : lkB (rS M j) (tnA (fun x => rCn M np x np) n) b (t + 1) = nI t := if_pos g
                       first
                         | rw [if_pos (i_nle h112)] at e1
                         | rw [if_neg (i_nlt h112)] at e1
                       exact ih _ ⟨_, by rw [nI_1, e1, e2]⟩)
                    | (have g : ¬ lkG (rS M j) (tnA (fun x => rCn M np x np) n) b t := fun q => by first | exact i_nlt q.1 h93 | exact h100 q.2
                       have e1 : lkA (rS M j) (tnA (fun x => rCn M np x np) n) b (t + 1) = lkA (rS M j) (tnA (fun x => rCn M np x np) n) b t := if_neg g
                       have e2 : lkB (rS M j) (tnA (fun x => rCn M np x np) n) b (t + 1) = lkB (rS M j) (tnA (fun x => rCn M np x np) n) b t := if_neg g
                       first
                         | exact ih _ ⟨_, by rw [nI_1, e1, e2]⟩)
            · rintro X ⟨y9, rfl⟩
              refine xG_run 2 rfl (by repeat' (first | exact trivial | assumption | exact xob_b rfl | exact xal_b rfl | (apply And.intro) | decide)) ?_
              try dsimp only [xsto1, xsto2, xkill, xget, xset, gd_0, gd_s]
              refine xG_brT rfl (show nI 100 ≤ nI 100 from Int32.le_refl _) ?_
              refine xG_run 1 rfl (by repeat' (first | exact trivial | assumption | exact xob_b rfl | exact xal_b rfl | (apply And.intro) | decide)) ?_
              try dsimp only [xsto1, xsto2, xkill, xget, xset, gd_0, gd_s]
              refine xG_br rfl (fun h132 => ?_) (fun h132 => ?_)
              · refine xG_run 1 rfl (by repeat' (first | exact trivial | assumption | exact xob_b rfl | exact xal_b rfl | (apply And.intro) | decide)) ?_
                try dsimp only [xsto1, xsto2, xkill, xget, xset, gd_0, gd_s]
                refine r2_i rfl rfl ?_
                refine ⟨Or.inl ⟨j, hj, rfl, b17.1, b17.2, b29.1, b29.2, w012 b40, ?_⟩, rfl⟩
                rw [if_neg (fun q => i_nlt h54 (tn_neg.mpr q))]
                first
                  | rw [if_pos (Decidable.not_not.mp h132)]
                  | rw [if_neg h132]
              · refine xG_run 2 rfl (by repeat' (first | exact trivial | assumption | exact xob_b rfl | exact xal_b rfl | (apply And.intro) | decide)) ?_
                try dsimp only [xsto1, xsto2, xkill, xget, xset, gd_0, gd_s]
                refine r2_i rfl rfl ?_
                refine ⟨Or.inl ⟨j, hj, rfl, b17.1, b17.2, b29.1, b29.2, w012 b40, ?_⟩, rfl⟩
                rw [if_neg (fun q => i_nlt h54 (tn_neg.mpr q))]
                first
                  | rw [if_pos (Decidable.not_not.mp h132)]
                  | rw [if_neg h132]
          · refine xG_run 1 rfl (by repeat' (first | exact trivial | assumption | exact xob_b rfl | exact xal_b rfl | (apply And.intro) | decide)) ?_
            try dsimp only [xsto1, xsto2, xkill, xget, xset, gd_0, gd_s]
            refine r2_i rfl rfl ?_
            first
              | (refine ⟨Or.inl ⟨j, hj, rfl, b17.1, b17.2, b29.1, b29.2, w012 b40, ?_⟩, rfl⟩
                 rw [if_pos (tn_neg.mp (i_nle h54))]; done)
              | (refine ⟨Or.inr ⟨?_, rfl⟩, rfl⟩
                 rintro ⟨j9, a1, a2, a3, a4, a5, a6, a7⟩
                 first
                   | exact b5 (by rw [a2]; exact inI a1 (by omega))
                   | exact b17 ⟨a3, a4⟩
                   | exact b29 ⟨a5, a6⟩
                   | exact b40 (by rcases a7 with rfl | rfl <;> decide))
        · have b40 := z0.mp (Decidable.not_not.mp h40)
          refine xG_run 1 rfl (by repeat' (first | exact trivial | assumption | exact xob_b rfl | exact xal_b rfl | (apply And.intro) | decide)) ?_
          try dsimp only [xsto1, xsto2, xkill, xget, xset, gd_0, gd_s]
          refine r2_i rfl rfl ?_
          first
            | (refine ⟨Or.inl ⟨j, hj, rfl, b17.1, b17.2, b29.1, b29.2, w012 b40, ?_⟩, rfl⟩
               rw [if_pos (tn_neg.mp (i_nle h54))]; done)
            | (refine ⟨Or.inr ⟨?_, rfl⟩, rfl⟩
               rintro ⟨j9, a1, a2, a3, a4, a5, a6, a7⟩
               first
                 | exact b5 (by rw [a2]; exact inI a1 (by omega))
                 | exact b17 ⟨a3, a4⟩
                 | exact b29 ⟨a5, a6⟩
                 | exact b40 (by rcases a7 with rfl | rfl <;> decide))
