/-! ===== readBack ===== -/
theorem sI_same {M : xM} {a k : Nat} : sI M a k (gI M a k) = M := xM_ext (fun x y => by
  rw [gIsI]
  by_cases c : x = a ∧ y = k
  · rw [if_pos c, c.1, c.2]
  · rw [if_neg c]) (fun _ _ => rfl) (fun _ _ => rfl)
theorem xbd_1 {q i : Nat} (hq : q < 32) (hi : i < 32) : xbd ((1 : Int32) <<< (nI q &&& 31)) i = decide (i = q) := by
  rw [xbd_bt _ hi, b_shl q hq _ hi]
  by_cases c : q ≤ i
  · rw [b_1 _ (by omega), decide_eq_true c, Bool.true_and]
    by_cases c2 : i = q
    · rw [decide_eq_true c2, decide_eq_true (by omega)]
    · rw [decide_eq_false c2, decide_eq_false (by omega)]
  · rw [decide_eq_false c, Bool.false_and, decide_eq_false (by omega)]
section RB
variable {C R : xM} {m np nr ng : Nat}
theorem bP (h : mR C m R 167 np nr ng) {q : Nat} (hq : q < nr) {l : Int32} (hl : bi 300 l) : bi 300000 (rP R q l) := by
  rw [← q_P h hq hl]
  obtain ⟨a, b⟩ := r_q h hq
  obtain ⟨-, b1, b2, b3, b4, b5⟩ := r_qB h hq
  have s : bi 1 (rr R q 1) := side_bi b1
  have t : bi 99 (rr R q 3) := nr_bi b3 (by omega) (by omega)
  have g : bi 999 (rr R q 4) := nr_bi b4 (by omega) (by omega)
  have A := bA h hq
  have st : bi 99 (rr R q 1 * rr R q 3) := bi_mul s t (by omega)
  have stl : bi 29700 (rr R q 1 * rr R q 3 * l) := bi_mul st hl (by omega)
  have stlA : bi 291089700 (rr R q 1 * rr R q 3 * l * rA R q (rH R q)) := bi_mul stl A (by omega)
  have d : bi 291089 (rr R q 1 * rr R q 3 * l * rA R q (rH R q) / 1000) := bi_div (c := 1000) stlA rfl
  have x := bi_sub g d (by omega)
  unfold cP
  rw [a 5 (by omega), a 4 (by omega), a 1 (by omega), a 3 (by omega), b]
  have z : bi 300000 0 := ⟨by decide, by decide⟩
  split
  · exact z
  · split
    · exact z
    · exact bi_mono x (by omega)
end RB
def tgR (R : xM) (q t : Nat) : xM := sI R 167 (70 + 6 * q + 4) (nI t)
def rbO (R : xM) (np nr q : Nat) (u b : Int32) (t : Nat) : Bool := decide (¬ rSt (tgR R q t) np nr = 1000 ∧ (if 0 ≤ rP (tgR R q t) q (rSt (tgR R q t) np nr) - u then rP (tgR R q t) q (rSt (tgR R q t) np nr) - u else 0 - (rP (tgR R q t) q (rSt (tgR R q t) np nr) - u)) ≤ b)
def rbF (p : Nat → Bool) : Nat → Int32
  | 0 => -4
  | t + 1 => if p t = true then (if rbF p t < 0 then nI t else rbF p t) else rbF p t
def rbL (p : Nat → Bool) : Nat → Int32
  | 0 => -4
  | t + 1 => if p t = true then nI t else rbL p t
def rbV (R : xM) (np nr q : Nat) (u b w : Int32) : Int32 := if w = 0 then rbF (rbO R np nr q u b) 1000 else rbL (rbO R np nr q u b) 1000
def tI (w : Int32) (i : Nat) : Nat := if w = 0 then i else 999 - i
theorem rbF_no {p : Nat → Bool} : ∀ {n : Nat}, (∀ k, k < n → p k = false) → rbF p n = -4
  | 0, _ => rfl
  | n + 1, h => by rw [rbF, h n (by omega), if_neg (by decide)]; exact rbF_no (fun k hk => h k (by omega))
theorem rbF_at {p : Nat → Bool} {j : Nat} (h : ∀ k, k < j → p k = false) (hj : p j = true) (hj9 : j < 1000) : ∀ {n : Nat}, j < n → rbF p n = nI j
  | 0, q => absurd q (by omega)
  | n + 1, q => by
    have hn : ¬ nI j < 0 := fun z => by
      rw [Int32.lt_iff_toInt_lt, nI_ti (by omega), Int32.toInt_zero] at z
      omega
    rw [rbF]
    by_cases e : j = n
    · subst e
      rw [if_pos hj, rbF_no h, if_pos (by decide)]
    · rw [rbF_at h hj hj9 (by omega), if_neg hn, ite_self]
theorem rbL_no {p : Nat → Bool} : ∀ {n : Nat}, (∀ k, k < n → p k = false) → rbL p n = -4
  | 0, _ => rfl
  | n + 1, h => by rw [rbL, h n (by omega), if_neg (by decide)]; exact rbL_no (fun k hk => h k (by omega))
theorem rbL_at {p : Nat → Bool} {j : Nat} (hj : p j = true) : ∀ {n : Nat}, j < n → (∀ k, j < k → k < n → p k = false) → rbL p n = nI j
  | 0, q, _ => absurd q (by omega)
  | n + 1, q, h => by
    rw [rbL]
    by_cases e : j = n
    · subst e; rw [if_pos hj]
    · rw [h n (by omega) (by omega), if_neg (by decide)]
      exact rbL_at hj (by omega) (fun k h1 h2 => h k h1 (by omega))
theorem rb_at {R : xM} {np nr q i : Nat} {u b w : Int32} (h : ∀ k, k < i → rbO R np nr q u b (tI w k) = false) (hi : rbO R np nr q u b (tI w i) = true) (hi2 : i < 1000) : rbV R np nr q u b w = nI (tI w i) := by
  unfold rbV
  by_cases c : w = 0
  · rw [if_pos c]
    have e : ∀ k, tI w k = k := fun k => if_pos c
    rw [e] at hi ⊢
    exact rbF_at (fun k hk => by have := h k hk; rwa [e] at this) hi hi2 hi2
  · rw [if_neg c]
    have e : ∀ k, tI w k = 999 - k := fun k => if_neg c
    rw [e] at hi ⊢
    refine rbL_at hi (by omega) (fun k h1 h2 => ?_)
    have := h (999 - k) (by omega)
    rw [e] at this
    rwa [show 999 - (999 - k) = k by omega] at this
theorem rb_no {R : xM} {np nr q : Nat} {u b w : Int32} (h : ∀ k, k < 1000 → rbO R np nr q u b (tI w k) = false) : rbV R np nr q u b w = -4 := by
  unfold rbV
  by_cases c : w = 0
  · rw [if_pos c]
    exact rbF_no (fun k hk => by have := h k hk; rwa [show tI w k = k from if_pos c] at this)
  · rw [if_neg c]
    refine rbL_no (fun k hk => ?_)
    have := h (999 - k) (by omega)
    rw [show tI w (999 - k) = 999 - (999 - k) from if_neg c] at this
    rwa [show 999 - (999 - k) = k by omega] at this
theorem nI_999 {i : Nat} (h : i < 1000) : (999 : Int32) - nI i = nI (999 - i) := by
  have e : (999 : Int32).toInt = 999 := by decide
  apply Int32.toInt_inj.mp
  rw [fb_subI (by rw [e, nI_ti (by omega)]; omega) (by rw [e, nI_ti (by omega)]; omega), e, nI_ti (by omega), nI_ti (by omega)]
  omega
theorem rb_rg {pl u b : Int32} (hp : bi 300000 pl) (hu : 0 ≤ u ∧ u ≤ 9999) (hb : 0 ≤ b ∧ b ≤ 99) : (if 0 ≤ pl - u then pl - u else 0 - (pl - u)) ≤ b ↔ (-b).toInt64 ≤ pl.toInt64 - u.toInt64 ∧ pl.toInt64 - u.toInt64 ≤ b.toInt64 := by
  have hb0 := hb.1
  rw [lk_hg hb0]
  obtain ⟨h1, h2⟩ := hu
  obtain ⟨h3, h4⟩ := hb
  have e1 : (9999 : Int32).toInt = 9999 := by decide
  have e2 : (99 : Int32).toInt = 99 := by decide
  rw [Int32.le_iff_toInt_le, Int32.toInt_zero] at h1 h3
  rw [Int32.le_iff_toInt_le, e1] at h2
  rw [Int32.le_iff_toInt_le, e2] at h4
  have p1 := hp.1
  have p2 := hp.2
  have z : (pl - u).toInt = pl.toInt - u.toInt := fb_subI (by omega) (by omega)
  have z2 : (-(pl - u)).toInt = -(pl.toInt - u.toInt) := by rw [fb_negI (by rw [z]; omega), z]
  have z3 : (-b).toInt = -b.toInt := fb_negI (by omega)
  have z4 : (pl.toInt64 - u.toInt64).toInt = pl.toInt - u.toInt := by rw [fb_subL] <;> rw [Int32.toInt_toInt64, Int32.toInt_toInt64] <;> omega
  rw [Int32.le_iff_toInt_le, Int32.le_iff_toInt_le, Int64.le_iff_toInt_le, Int64.le_iff_toInt_le, z, z2, z4, Int32.toInt_toInt64, Int32.toInt_toInt64, z3]
  omega
set_option maxRecDepth 4000 in
theorem e_x_readBack {κ : xKK} {d : Nat} {M : xM} {np nr ng : Nat} {R : xM} (hm : mR M 1 R 167 np nr ng) (hj0 : gJ R 166 18 = 0) {i u b w : Int32} (hd : 6 ≤ d) : xE2 κ mX11_readBack d [.ref 0, .int i, .int u, .int b, .int w] M (fun v M' => ((∃ q7, q7 < nr ∧ i = nI q7 ∧ (0 ≤ u ∧ u ≤ 9999 ∧ 0 ≤ b ∧ b ≤ 99 ∧ (w = 0 ∨ w = 1)) ∧ v = some (.int (if ¬ rr R q7 5 = 0 then -3 else rbV R np nr q7 u b w))) ∨ (¬ ((∃ q7, q7 < nr ∧ i = nI q7) ∧ 0 ≤ u ∧ u ≤ 9999 ∧ 0 ≤ b ∧ b ≤ 99 ∧ (w = 0 ∨ w = 1)) ∧ v = some (.int (-1)))) ∧ kFr M M') := by
  refine xE2_of ci_X11_readBack cl_X11_readBack cw_X11_readBack rfl (L := [some (.ref 0), some (.int i), some (.int u), some (.int b), some (.int w), none, none, none, none]) rfl ?_
  have hn := hm.2.1.1
  have hn2 := hm.1.1
  have hr := hm.2.2.1.1
  have hr2 := hm.1.2.1
  have hsh : ∀ i, i < np → 0 ≤ (cSh M 1 (6 + i)).toInt ∧ (cSh M 1 (6 + i)).toInt < 5 := fun i hi => r_sh hm hi
  have hL : stN (cAll M 1 np nr) 300 = rSt R np nr := q_St hm hj0 (by omega)
  refine xG_run 3 rfl (by repeat' (first | exact trivial | assumption | exact xob_b rfl | exact xal_b rfl | (apply And.intro) | decide)) ?_
  try dsimp only [xsto1, xsto2, xkill, xget, xset, gd_0, gd_s]
  refine xG_c2 1 rfl (by repeat' (first | exact trivial | assumption | exact xob_b rfl | exact xal_b rfl | (apply And.intro) | decide)) rfl rfl (by decide) cw_X1_ropeAt (d' := d - 1) (e_ropeAt hr hr2) (by omega) ?_
  rintro v M' ⟨hv, hM⟩
  subst M'
  rcases hv with ⟨rfl, hnq⟩ | ⟨q, hq, hiq, rfl⟩
  · dsimp only [Option.toList, List.cons_append, List.nil_append]
    refine xG_run 4 rfl (by repeat' (first | exact trivial | assumption | exact xob_b rfl | exact xal_b rfl | (apply And.intro) | decide)) ?_
    try dsimp only [xsto1, xsto2, xkill, xget, xset, gd_0, gd_s]
    refine r2_i rfl rfl ?_
    first
      | (refine ⟨Or.inr ⟨?_, rfl⟩, kFr_r⟩
         rintro ⟨⟨q9, a1, a2⟩, a3, a4, a5, a6, a7⟩
         first
           | exact hnq (by rw [a2]; exact inI a1 (by omega))
           | exact i_nlt a3 h16
           | exact i_nlt a4 h23
           | exact i_nlt a5 h27
           | exact i_nlt a6 h33
           | exact a7.elim h38 h44)
      | (refine ⟨Or.inl ⟨q, hq, hiq, ⟨Int32.not_lt.mp h16, Int32.not_lt.mp h23, Int32.not_lt.mp h27, Int32.not_lt.mp h33, by first | exact Or.inl h38 | exact Or.inr h44⟩, ?_⟩, kFr_r⟩
         rw [if_pos (by rw [← (r_q hm hq).1 5 (by omega)]; exact h54)]; done)
  · dsimp only [Option.toList, List.cons_append, List.nil_append]
    have hxq : xob (16 + q) 5 182 := xob_r1 (by omega)
    refine xG_run 4 rfl (by repeat' (first | exact trivial | assumption | exact xob_b rfl | exact xal_b rfl | (apply And.intro) | decide)) ?_
    try dsimp only [xsto1, xsto2, xkill, xget, xset, gd_0, gd_s]
    refine xG_br rfl (fun h16 => ?_) (fun h16 => ?_)
    · refine xG_run 1 rfl (by repeat' (first | exact trivial | assumption | exact xob_b rfl | exact xal_b rfl | (apply And.intro) | decide)) ?_
      try dsimp only [xsto1, xsto2, xkill, xget, xset, gd_0, gd_s]
      refine r2_i rfl rfl ?_
      first
        | (refine ⟨Or.inr ⟨?_, rfl⟩, kFr_r⟩
           rintro ⟨⟨q9, a1, a2⟩, a3, a4, a5, a6, a7⟩
           first
             | exact hnq (by rw [a2]; exact inI a1 (by omega))
             | exact i_nlt a3 h16
             | exact i_nlt a4 h23
             | exact i_nlt a5 h27
             | exact i_nlt a6 h33
             | exact a7.elim h38 h44)
        | (refine ⟨Or.inl ⟨q, hq, hiq, ⟨Int32.not_lt.mp h16, Int32.not_lt.mp h23, Int32.not_lt.mp h27, Int32.not_lt.mp h33, by first | exact Or.inl h38 | exact Or.inr h44⟩, ?_⟩, kFr_r⟩
           rw [if_pos (by rw [← (r_q hm hq).1 5 (by omega)]; exact h54)]; done)
    · refine xG_run 2 rfl (by repeat' (first | exact trivial | assumption | exact xob_b rfl | exact xal_b rfl | (apply And.intro) | decide)) ?_
      try dsimp only [xsto1, xsto2, xkill, xget, xset, gd_0, gd_s]
      refine xG_br rfl (fun h23 => ?_) (fun h23 => ?_)
      · refine xG_run 1 rfl (by repeat' (first | exact trivial | assumption | exact xob_b rfl | exact xal_b rfl | (apply And.intro) | decide)) ?_
        try dsimp only [xsto1, xsto2, xkill, xget, xset, gd_0, gd_s]
        refine r2_i rfl rfl ?_
        first
          | (refine ⟨Or.inr ⟨?_, rfl⟩, kFr_r⟩
             rintro ⟨⟨q9, a1, a2⟩, a3, a4, a5, a6, a7⟩
             first
               | exact hnq (by rw [a2]; exact inI a1 (by omega))
               | exact i_nlt a3 h16
               | exact i_nlt a4 h23
               | exact i_nlt a5 h27
               | exact i_nlt a6 h33
               | exact a7.elim h38 h44)
          | (refine ⟨Or.inl ⟨q, hq, hiq, ⟨Int32.not_lt.mp h16, Int32.not_lt.mp h23, Int32.not_lt.mp h27, Int32.not_lt.mp h33, by first | exact Or.inl h38 | exact Or.inr h44⟩, ?_⟩, kFr_r⟩
             rw [if_pos (by rw [← (r_q hm hq).1 5 (by omega)]; exact h54)]; done)
      · refine xG_run 1 rfl (by repeat' (first | exact trivial | assumption | exact xob_b rfl | exact xal_b rfl | (apply And.intro) | decide)) ?_
        try dsimp only [xsto1, xsto2, xkill, xget, xset, gd_0, gd_s]
        refine xG_br rfl (fun h27 => ?_) (fun h27 => ?_)
        · refine xG_run 1 rfl (by repeat' (first | exact trivial | assumption | exact xob_b rfl | exact xal_b rfl | (apply And.intro) | decide)) ?_
          try dsimp only [xsto1, xsto2, xkill, xget, xset, gd_0, gd_s]
          refine r2_i rfl rfl ?_
          first
            | (refine ⟨Or.inr ⟨?_, rfl⟩, kFr_r⟩
               rintro ⟨⟨q9, a1, a2⟩, a3, a4, a5, a6, a7⟩
               first
                 | exact hnq (by rw [a2]; exact inI a1 (by omega))
                 | exact i_nlt a3 h16
                 | exact i_nlt a4 h23
                 | exact i_nlt a5 h27
                 | exact i_nlt a6 h33
                 | exact a7.elim h38 h44)
            | (refine ⟨Or.inl ⟨q, hq, hiq, ⟨Int32.not_lt.mp h16, Int32.not_lt.mp h23, Int32.not_lt.mp h27, Int32.not_lt.mp h33, by first | exact Or.inl h38 | exact Or.inr h44⟩, ?_⟩, kFr_r⟩
               rw [if_pos (by rw [← (r_q hm hq).1 5 (by omega)]; exact h54)]; done)
        · refine xG_run 2 rfl (by repeat' (first | exact trivial | assumption | exact xob_b rfl | exact xal_b rfl | (apply And.intro) | decide)) ?_
          try dsimp only [xsto1, xsto2, xkill, xget, xset, gd_0, gd_s]
          refine xG_br rfl (fun h33 => ?_) (fun h33 => ?_)
          · refine xG_run 1 rfl (by repeat' (first | exact trivial | assumption | exact xob_b rfl | exact xal_b rfl | (apply And.intro) | decide)) ?_
            try dsimp only [xsto1, xsto2, xkill, xget, xset, gd_0, gd_s]
            refine r2_i rfl rfl ?_
            first
              | (refine ⟨Or.inr ⟨?_, rfl⟩, kFr_r⟩
                 rintro ⟨⟨q9, a1, a2⟩, a3, a4, a5, a6, a7⟩
                 first
                   | exact hnq (by rw [a2]; exact inI a1 (by omega))
                   | exact i_nlt a3 h16
                   | exact i_nlt a4 h23
                   | exact i_nlt a5 h27
                   | exact i_nlt a6 h33
                   | exact a7.elim h38 h44)
              | (refine ⟨Or.inl ⟨q, hq, hiq, ⟨Int32.not_lt.mp h16, Int32.not_lt.mp h23, Int32.not_lt.mp h27, Int32.not_lt.mp h33, by first | exact Or.inl h38 | exact Or.inr h44⟩, ?_⟩, kFr_r⟩
                 rw [if_pos (by rw [← (r_q hm hq).1 5 (by omega)]; exact h54)]; done)
          · refine xG_run 1 rfl (by repeat' (first | exact trivial | assumption | exact xob_b rfl | exact xal_b rfl | (apply And.intro) | decide)) ?_
            try dsimp only [xsto1, xsto2, xkill, xget, xset, gd_0, gd_s]
            refine xG_br rfl (fun h38 => ?_) (fun h38 => ?_)
            · refine xG_run 2 rfl (by repeat' (first | exact trivial | assumption | exact xob_b rfl | exact xal_b rfl | (apply And.intro) | decide)) ?_
              try dsimp only [xsto1, xsto2, xkill, xget, xset, gd_0, gd_s]
              refine xG_br rfl (fun h54 => ?_) (fun h54 => ?_)
              · have hhow : rr R q 5 = 0 := by rw [← (r_q hm hq).1 5 (by omega)]; exact h54
                have hm2 : mR (tkM M 28 1) 28 R 167 np nr ng := mR_tk (by omega) hm
                have hq9 : (nI q).toNatClampNeg = q := nI_cl (by omega)
                have hxr : xqr 30 182 (nI q) := xqr_n rfl 12 rfl (by omega) (by omega)
                subst hiq
                have hiq : nI q = nI q := rfl
                refine xG_run 4 rfl (by repeat' (first | exact trivial | assumption | exact xob_b rfl | exact xal_b rfl | (apply And.intro) | decide)) ?_
                try dsimp only [xsto1, xsto2, xkill, xget, xset, gd_0, gd_s]
                refine xG_c2 1 rfl (by repeat' (first | exact trivial | assumption | exact xob_b rfl | exact xal_b rfl | (apply And.intro) | decide)) rfl rfl (by decide) cw_X1_takeFrom (d' := d - 1) (e_take28_1 (by omega)) (by omega) ?_
                rintro v M9 ⟨rfl, hM9⟩
                subst M9
                dsimp only [Option.toList, List.cons_append, List.nil_append]
                refine xG_run 8 rfl (by repeat' (first | exact trivial | assumption | exact xob_b rfl | exact xal_b rfl | (apply And.intro) | decide)) ?_
                try dsimp only [xsto1, xsto2, xkill, xget, xset, gd_0, gd_s]
                refine xG_c2 3 rfl (by repeat' (first | exact trivial | assumption | exact xob_b rfl | exact xal_b rfl | (apply And.intro) | decide)) rfl rfl (by decide) cw_X0_load (d' := d - 1) (e_load28 (np := np) (nr := nr) hm2.2.1.1 hn2 hm2.2.2.1.1 hr2 (fun i hi => r_sh hm2 hi) (by omega)) (by omega) ?_
                rintro v M4 ⟨pl, rl, c, e, rfl, hg, -, -, hs, ht, hB4, hp4, hB5⟩
                have hBL := BL_ld hn2 hr2 hg hs ht hB4 hB5
                dsimp only [Option.toList, List.cons_append, List.nil_append]
                refine xG_run 5 rfl (by repeat' (first | exact trivial | assumption | exact xob_b rfl | exact xal_b rfl | (apply And.intro) | decide)) ?_
                try dsimp only [xsto1, xsto2, xkill, xget, xset, gd_0, gd_s]
                rw [hq9]
                refine xG_run 3 rfl (by repeat' (first | exact trivial | assumption | exact xob_b rfl | exact xal_b rfl | (apply And.intro) | decide)) ?_
                try dsimp only [xsto1, xsto2, xkill, xget, xset, gd_0, gd_s]
                have hV : 0 ≤ u ∧ u ≤ 9999 ∧ 0 ≤ b ∧ b ≤ 99 ∧ (w = 0 ∨ w = 1) := ⟨Int32.not_lt.mp h16, Int32.not_lt.mp h23, Int32.not_lt.mp h27, Int32.not_lt.mp h33, by first | exact Or.inl h38 | exact Or.inr h44⟩
                have hm4 : mR M4 28 R 167 np nr ng := mR_C hm2 (fun k hk => hB4.1 _ _ (by omega)) (fun k => hB4.1 _ _ (by omega)) (fun k => hB4.1 _ _ (by omega)) (fun p k hp => hB4.1 _ _ (by omega)) (fun r k hr => hB4.1 _ _ (by omega))
                have hp4 : gJ M4 123 5 = cPs M4 np := hp4.trans (cPs_c (M := tkM M 28 1) (M' := M4) hn2 (fun i k hi => hB4.1 _ _ (by omega)) (fun k => hB4.1 _ _ (by omega)) (fun k => hB4.1 _ _ (by omega))).symm
                have hkF : kFr M M4 := kFr_t kFr_tk (kFr_b hB4)
                have lp := xG_upP (κ := κ) (m := mX11_readBack) (r := (d, 0, 0)) (YS := xRet mX11_readBack false (fun v M' n' => n' = 182 ∧ (((∃ q7, q7 < nr ∧ nI q = nI q7 ∧ (0 ≤ u ∧ u ≤ 9999 ∧ 0 ≤ b ∧ b ≤ 99 ∧ (w = 0 ∨ w = 1)) ∧ v = some (.int (if ¬ rr R q7 5 = 0 then -3 else rbV R np nr q7 u b w))) ∨ (¬ ((∃ q7, q7 < nr ∧ nI q = nI q7) ∧ 0 ≤ u ∧ u ≤ 9999 ∧ 0 ≤ b ∧ b ≤ 99 ∧ (w = 0 ∨ w = 1)) ∧ v = some (.int (-1)))) ∧ kFr M M'))) (fun j X => ∃ (y : Int32) (x8 : Option Value), X = (100, [some (.ref 0), some (.int (nI q)), some (.int u), some (.int b), some (.int w), some (.ref (16 + q)), some (.ref (43 + q)), some (.int (nI j)), x8], [], sI M4 (43 + q) 4 y, z2) ∧ ∀ k, k < j → rbO R np nr q u b (tI w k) = false) 1000 ?_ ?_ 0 (by omega)
                · exact lp _ ⟨gI M4 (43 + q) 4, none, by rw [sI_same]; rfl, fun k hk => absurd hk (Nat.not_lt_zero _)⟩
                · rintro j X hj ⟨y, x8, rfl, hno⟩ ih
                  have hxt : xob (43 + q) 5 182 := xob_r28 (by omega)
                  have hti : tI w j ≤ 999 := by unfold tI; split <;> omega
                  have hmJ : mR (sI M4 (43 + q) 4 (nI (tI w j))) 28 (tgR R q (tI w j)) 167 np nr ng := by
                    have := mR_rope (k := 4) (w := nI (tI w j)) hm4 hq (Or.inr (Or.inl ⟨rfl, by rw [nI_ti (by omega)]; omega, by rw [nI_ti (by omega)]; omega⟩))
                    rw [show 28 + 15 + q = 43 + q by omega] at this
                    exact this
                  have hBJ : BL (sI M4 (43 + q) 4 (nI (tI w j))) 0 ((1 : Int32) <<< (nI q &&& 31)) np nr := BL_u hBL hn2 hr2 (fun i k hi _ => gI_ne (Or.inl (by omega))) (fun i k hi hx => gI_ne (Or.inl (fun e => by rw [xbd_1 (by omega) (by omega)] at hx; exact of_decide_eq_false hx (by omega)))) (gI_ne (Or.inl (by omega))) ⟨gI_ne (Or.inl (by omega)), gI_ne (Or.inl (by omega))⟩ (fun _ => rfl) (fun _ => ⟨rfl, rfl⟩)
                  have hpJ : gJ (sI M4 (43 + q) 4 (nI (tI w j))) 123 5 = cPs (sI M4 (43 + q) 4 (nI (tI w j))) np - 0 := by
                    rw [Int64.sub_zero, cPs_c (M := M4) hn2 (fun i k hi => gI_ne (Or.inl (by omega))) (fun k => gI_ne (Or.inl (by omega))) (fun k => gI_ne (Or.inl (by omega)))]
                    exact hp4
                  have eS : stN (fun l => cAll (sI M4 (43 + q) 4 (nI (tI w j))) 28 np nr l - 0) 300 = rSt (tgR R q (tI w j)) np nr := stN_x hmJ hj0 (by omega)
                  refine xG_run 2 rfl (by repeat' (first | exact trivial | assumption | exact xob_b rfl | exact xal_b rfl | (apply And.intro) | decide)) ?_
                  try dsimp only [xsto1, xsto2, xkill, xget, xset, gd_0, gd_s]
                  try rw [sI_sI]
                  try rw [eS]
                  refine xG_brF rfl (show ¬ nI 999 < nI j from nI_nlt (by omega) (by omega)) ?_
                  refine xG_run 2 rfl (by repeat' (first | exact trivial | assumption | exact xob_b rfl | exact xal_b rfl | (apply And.intro) | decide)) ?_
                  try dsimp only [xsto1, xsto2, xkill, xget, xset, gd_0, gd_s]
                  try rw [sI_sI]
                  try rw [eS]
                  refine xG_br rfl (fun h112 => ?_) (fun h112 => ?_)
                  · have etI : (999 : Int32) - nI j = nI (tI w j) := by rw [nI_999 hj]; unfold tI; rw [if_neg h112]
                    refine xG_run 3 rfl (by repeat' (first | exact trivial | assumption | exact xob_b rfl | exact xal_b rfl | (apply And.intro) | decide)) ?_
                    try dsimp only [xsto1, xsto2, xkill, xget, xset, gd_0, gd_s]
                    try rw [sI_sI]
                    try rw [eS]
                    try rw [etI]
                    refine xG_run 1 rfl (by repeat' (first | exact trivial | assumption | exact xob_b rfl | exact xal_b rfl | (apply And.intro) | decide)) ?_
                    try dsimp only [xsto1, xsto2, xkill, xget, xset, gd_0, gd_s]
                    try rw [sI_sI]
                    try rw [eS]
                    try rw [sI_sI]
                    refine xG_run 3 rfl (by repeat' (first | exact trivial | assumption | exact xob_b rfl | exact xal_b rfl | (apply And.intro) | decide)) ?_
                    try dsimp only [xsto1, xsto2, xkill, xget, xset, gd_0, gd_s]
                    try rw [sI_sI]
                    try rw [eS]
                    refine xG_c2 1 rfl (by repeat' (first | exact trivial | assumption | exact xob_b rfl | exact xal_b rfl | (apply And.intro) | decide)) rfl rfl (by decide) cw_X0_lean (d' := d - 1) (e_leanB (mo := 300) hBJ hn2 hr2 hpJ (by omega) (by omega)) (by omega) ?_
                    rintro v M' ⟨rfl, hM⟩
                    subst M'
                    dsimp only [Option.toList, List.cons_append, List.nil_append]
                    refine xG_run 3 rfl (by repeat' (first | exact trivial | assumption | exact xob_b rfl | exact xal_b rfl | (apply And.intro) | decide)) ?_
                    try dsimp only [xsto1, xsto2, xkill, xget, xset, gd_0, gd_s]
                    try rw [sI_sI]
                    try rw [eS]
                    refine xG_br rfl (fun h146 => ?_) (fun h146 => ?_)
                    · refine xG_run 2 rfl (by repeat' (first | exact trivial | assumption | exact xob_b rfl | exact xal_b rfl | (apply And.intro) | decide)) ?_
                      try dsimp only [xsto1, xsto2, xkill, xget, xset, gd_0, gd_s]
                      try rw [sI_sI]
                      try rw [eS]
                      rw [nI_1]
                      (try rw [show nI (tI w j + 1) = nI (j + 1) from by rw [etI]])
                      have hf : rbO R np nr q u b (tI w j) = false := by
                        unfold rbO
                        refine decide_eq_false (fun z => ?_)
                        first
                          | exact z.1 h146
                          | exact z.1 (Decidable.not_not.mp h146)
                          | exact i_nlt z.2 h162
                      refine ih _ ⟨_, _, rfl, fun k hk => ?_⟩
                      by_cases e : k = j
                      · subst e; exact hf
                      · exact hno k (by omega)
                    · have hbi : bi 300 (rSt (tgR R q (tI w j)) np nr) := stN_bi (F := rAll (tgR R q (tI w j)) np nr) (mo := 300) (by omega) h146
                      have ePJ : cP (sI M4 (43 + q) 4 (nI (tI w j))) (43 + q) (rSt (tgR R q (tI w j)) np nr) = rP (tgR R q (tI w j)) q (rSt (tgR R q (tI w j)) np nr) := q_P hmJ hq hbi
                      refine xG_run 2 rfl (by repeat' (first | exact trivial | assumption | exact xob_b rfl | exact xal_b rfl | (apply And.intro) | decide)) ?_
                      try dsimp only [xsto1, xsto2, xkill, xget, xset, gd_0, gd_s]
                      try rw [sI_sI]
                      try rw [eS]
                      refine xG_c2 1 rfl (by repeat' (first | exact trivial | assumption | exact xob_b rfl | exact xal_b rfl | (apply And.intro) | decide)) rfl rfl (by decide) cw_X5_pullAt (d' := d - 1) (e_pullAt hxt) (by omega) ?_
                      rintro v M' ⟨rfl, hM⟩
                      subst M'
                      dsimp only [Option.toList, List.cons_append, List.nil_append]
                      rw [ePJ]
                      refine xG_run 4 rfl (by repeat' (first | exact trivial | assumption | exact xob_b rfl | exact xal_b rfl | (apply And.intro) | decide)) ?_
                      try dsimp only [xsto1, xsto2, xkill, xget, xset, gd_0, gd_s]
                      try rw [sI_sI]
                      try rw [eS]
                      refine xG_br rfl (fun h162 => ?_) (fun h162 => ?_)
                      · refine xG_run 2 rfl (by repeat' (first | exact trivial | assumption | exact xob_b rfl | exact xal_b rfl | (apply And.intro) | decide)) ?_
                        try dsimp only [xsto1, xsto2, xkill, xget, xset, gd_0, gd_s]
                        try rw [sI_sI]
                        try rw [eS]
                        rw [nI_1]
                        (try rw [show nI (tI w j + 1) = nI (j + 1) from by rw [etI]])
                        have hf : rbO R np nr q u b (tI w j) = false := by
                          unfold rbO
                          refine decide_eq_false (fun z => ?_)
                          first
                            | exact z.1 h146
                            | exact z.1 (Decidable.not_not.mp h146)
                            | exact i_nlt z.2 h162
                        refine ih _ ⟨_, _, rfl, fun k hk => ?_⟩
                        by_cases e : k = j
                        · subst e; exact hf
                        · exact hno k (by omega)
                      · refine xG_run 2 rfl (by repeat' (first | exact trivial | assumption | exact xob_b rfl | exact xal_b rfl | (apply And.intro) | decide)) ?_
                        try dsimp only [xsto1, xsto2, xkill, xget, xset, gd_0, gd_s]
                        try rw [sI_sI]
                        try rw [eS]
                        refine r2_i rfl rfl ?_
                        have ht : rbO R np nr q u b (tI w j) = true := by
                          unfold rbO
                          exact decide_eq_true ⟨h146, Int32.not_lt.mp h162⟩
                        refine ⟨Or.inl ⟨q, hq, hiq, hV, ?_⟩, kFr_t hkF (kFr_i (by omega))⟩
                        rw [if_neg (fun z => z hhow), rb_at hno ht hj, gI_self]
                  · have etI : tI w j = j := by unfold tI; rw [if_pos (Decidable.not_not.mp h112)]
                    refine xG_run 2 rfl (by repeat' (first | exact trivial | assumption | exact xob_b rfl | exact xal_b rfl | (apply And.intro) | decide)) ?_
                    try dsimp only [xsto1, xsto2, xkill, xget, xset, gd_0, gd_s]
                    try rw [sI_sI]
                    try rw [eS]
                    rw [show nI j = nI (tI w j) from by rw [etI]]
                    refine xG_run 1 rfl (by repeat' (first | exact trivial | assumption | exact xob_b rfl | exact xal_b rfl | (apply And.intro) | decide)) ?_
                    try dsimp only [xsto1, xsto2, xkill, xget, xset, gd_0, gd_s]
                    try rw [sI_sI]
                    try rw [eS]
                    try rw [sI_sI]
                    refine xG_run 3 rfl (by repeat' (first | exact trivial | assumption | exact xob_b rfl | exact xal_b rfl | (apply And.intro) | decide)) ?_
                    try dsimp only [xsto1, xsto2, xkill, xget, xset, gd_0, gd_s]
                    try rw [sI_sI]
                    try rw [eS]
                    refine xG_c2 1 rfl (by repeat' (first | exact trivial | assumption | exact xob_b rfl | exact xal_b rfl | (apply And.intro) | decide)) rfl rfl (by decide) cw_X0_lean (d' := d - 1) (e_leanB (mo := 300) hBJ hn2 hr2 hpJ (by omega) (by omega)) (by omega) ?_
                    rintro v M' ⟨rfl, hM⟩
                    subst M'
                    dsimp only [Option.toList, List.cons_append, List.nil_append]
                    refine xG_run 3 rfl (by repeat' (first | exact trivial | assumption | exact xob_b rfl | exact xal_b rfl | (apply And.intro) | decide)) ?_
                    try dsimp only [xsto1, xsto2, xkill, xget, xset, gd_0, gd_s]
                    try rw [sI_sI]
                    try rw [eS]
                    refine xG_br rfl (fun h146 => ?_) (fun h146 => ?_)
                    · refine xG_run 2 rfl (by repeat' (first | exact trivial | assumption | exact xob_b rfl | exact xal_b rfl | (apply And.intro) | decide)) ?_
                      try dsimp only [xsto1, xsto2, xkill, xget, xset, gd_0, gd_s]
                      try rw [sI_sI]
                      try rw [eS]
                      rw [nI_1]
                      (try rw [show nI (tI w j + 1) = nI (j + 1) from by rw [etI]])
                      have hf : rbO R np nr q u b (tI w j) = false := by
                        unfold rbO
                        refine decide_eq_false (fun z => ?_)
                        first
                          | exact z.1 h146
                          | exact z.1 (Decidable.not_not.mp h146)
                          | exact i_nlt z.2 h162
                      refine ih _ ⟨_, _, rfl, fun k hk => ?_⟩
                      by_cases e : k = j
                      · subst e; exact hf
                      · exact hno k (by omega)
                    · have hbi : bi 300 (rSt (tgR R q (tI w j)) np nr) := stN_bi (F := rAll (tgR R q (tI w j)) np nr) (mo := 300) (by omega) h146
                      have ePJ : cP (sI M4 (43 + q) 4 (nI (tI w j))) (43 + q) (rSt (tgR R q (tI w j)) np nr) = rP (tgR R q (tI w j)) q (rSt (tgR R q (tI w j)) np nr) := q_P hmJ hq hbi
                      refine xG_run 2 rfl (by repeat' (first | exact trivial | assumption | exact xob_b rfl | exact xal_b rfl | (apply And.intro) | decide)) ?_
                      try dsimp only [xsto1, xsto2, xkill, xget, xset, gd_0, gd_s]
                      try rw [sI_sI]
                      try rw [eS]
                      refine xG_c2 1 rfl (by repeat' (first | exact trivial | assumption | exact xob_b rfl | exact xal_b rfl | (apply And.intro) | decide)) rfl rfl (by decide) cw_X5_pullAt (d' := d - 1) (e_pullAt hxt) (by omega) ?_
                      rintro v M' ⟨rfl, hM⟩
                      subst M'
                      dsimp only [Option.toList, List.cons_append, List.nil_append]
                      rw [ePJ]
                      refine xG_run 4 rfl (by repeat' (first | exact trivial | assumption | exact xob_b rfl | exact xal_b rfl | (apply And.intro) | decide)) ?_
                      try dsimp only [xsto1, xsto2, xkill, xget, xset, gd_0, gd_s]
                      try rw [sI_sI]
                      try rw [eS]
                      refine xG_br rfl (fun h162 => ?_) (fun h162 => ?_)
                      · refine xG_run 2 rfl (by repeat' (first | exact trivial | assumption | exact xob_b rfl | exact xal_b rfl | (apply And.intro) | decide)) ?_
                        try dsimp only [xsto1, xsto2, xkill, xget, xset, gd_0, gd_s]
                        try rw [sI_sI]
                        try rw [eS]
                        rw [nI_1]
                        (try rw [show nI (tI w j + 1) = nI (j + 1) from by rw [etI]])
                        have hf : rbO R np nr q u b (tI w j) = false := by
                          unfold rbO
                          refine decide_eq_false (fun z => ?_)
                          first
                            | exact z.1 h146
                            | exact z.1 (Decidable.not_not.mp h146)
                            | exact i_nlt z.2 h162
                        refine ih _ ⟨_, _, rfl, fun k hk => ?_⟩
                        by_cases e : k = j
                        · subst e; exact hf
                        · exact hno k (by omega)
                      · refine xG_run 2 rfl (by repeat' (first | exact trivial | assumption | exact xob_b rfl | exact xal_b rfl | (apply And.intro) | decide)) ?_
                        try dsimp only [xsto1, xsto2, xkill, xget, xset, gd_0, gd_s]
                        try rw [sI_sI]
                        try rw [eS]
                        refine r2_i rfl rfl ?_
                        have ht : rbO R np nr q u b (tI w j) = true := by
                          unfold rbO
                          exact decide_eq_true ⟨h146, Int32.not_lt.mp h162⟩
                        refine ⟨Or.inl ⟨q, hq, hiq, hV, ?_⟩, kFr_t hkF (kFr_i (by omega))⟩
                        rw [if_neg (fun z => z hhow), rb_at hno ht hj, gI_self]
                · rintro X ⟨y, x8, rfl, hno⟩
                  refine xG_run 2 rfl (by repeat' (first | exact trivial | assumption | exact xob_b rfl | exact xal_b rfl | (apply And.intro) | decide)) ?_
                  try dsimp only [xsto1, xsto2, xkill, xget, xset, gd_0, gd_s]
                  refine xG_brT rfl (show nI 999 < nI 1000 from nI_lt (by omega) (by omega)) ?_
                  refine xG_run 1 rfl (by repeat' (first | exact trivial | assumption | exact xob_b rfl | exact xal_b rfl | (apply And.intro) | decide)) ?_
                  try dsimp only [xsto1, xsto2, xkill, xget, xset, gd_0, gd_s]
                  refine r2_i rfl rfl ?_
                  refine ⟨Or.inl ⟨q, hq, hiq, hV, ?_⟩, kFr_t hkF (kFr_i (by omega))⟩
                  rw [if_neg (fun z => z hhow), rb_no hno]
              · refine xG_run 1 rfl (by repeat' (first | exact trivial | assumption | exact xob_b rfl | exact xal_b rfl | (apply And.intro) | decide)) ?_
                try dsimp only [xsto1, xsto2, xkill, xget, xset, gd_0, gd_s]
                refine r2_i rfl rfl ?_
                first
                  | (refine ⟨Or.inr ⟨?_, rfl⟩, kFr_r⟩
                     rintro ⟨⟨q9, a1, a2⟩, a3, a4, a5, a6, a7⟩
                     first
                       | exact hnq (by rw [a2]; exact inI a1 (by omega))
                       | exact i_nlt a3 h16
                       | exact i_nlt a4 h23
                       | exact i_nlt a5 h27
                       | exact i_nlt a6 h33
                       | exact a7.elim h38 h44)
                  | (refine ⟨Or.inl ⟨q, hq, hiq, ⟨Int32.not_lt.mp h16, Int32.not_lt.mp h23, Int32.not_lt.mp h27, Int32.not_lt.mp h33, by first | exact Or.inl h38 | exact Or.inr h44⟩, ?_⟩, kFr_r⟩
                     rw [if_pos (by rw [← (r_q hm hq).1 5 (by omega)]; exact h54)]; done)
            · refine xG_run 2 rfl (by repeat' (first | exact trivial | assumption | exact xob_b rfl | exact xal_b rfl | (apply And.intro) | decide)) ?_
              try dsimp only [xsto1, xsto2, xkill, xget, xset, gd_0, gd_s]
              refine xG_br rfl (fun h44 => ?_) (fun h44 => ?_)
              · refine xG_run 2 rfl (by repeat' (first | exact trivial | assumption | exact xob_b rfl | exact xal_b rfl | (apply And.intro) | decide)) ?_
                try dsimp only [xsto1, xsto2, xkill, xget, xset, gd_0, gd_s]
                refine xG_br rfl (fun h54 => ?_) (fun h54 => ?_)
                · have hhow : rr R q 5 = 0 := by rw [← (r_q hm hq).1 5 (by omega)]; exact h54
                  have hm2 : mR (tkM M 28 1) 28 R 167 np nr ng := mR_tk (by omega) hm
                  have hq9 : (nI q).toNatClampNeg = q := nI_cl (by omega)
                  have hxr : xqr 30 182 (nI q) := xqr_n rfl 12 rfl (by omega) (by omega)
                  subst hiq
                  have hiq : nI q = nI q := rfl
                  refine xG_run 4 rfl (by repeat' (first | exact trivial | assumption | exact xob_b rfl | exact xal_b rfl | (apply And.intro) | decide)) ?_
                  try dsimp only [xsto1, xsto2, xkill, xget, xset, gd_0, gd_s]
                  refine xG_c2 1 rfl (by repeat' (first | exact trivial | assumption | exact xob_b rfl | exact xal_b rfl | (apply And.intro) | decide)) rfl rfl (by decide) cw_X1_takeFrom (d' := d - 1) (e_take28_1 (by omega)) (by omega) ?_
                  rintro v M9 ⟨rfl, hM9⟩
                  subst M9
                  dsimp only [Option.toList, List.cons_append, List.nil_append]
                  refine xG_run 8 rfl (by repeat' (first | exact trivial | assumption | exact xob_b rfl | exact xal_b rfl | (apply And.intro) | decide)) ?_
                  try dsimp only [xsto1, xsto2, xkill, xget, xset, gd_0, gd_s]
                  refine xG_c2 3 rfl (by repeat' (first | exact trivial | assumption | exact xob_b rfl | exact xal_b rfl | (apply And.intro) | decide)) rfl rfl (by decide) cw_X0_load (d' := d - 1) (e_load28 (np := np) (nr := nr) hm2.2.1.1 hn2 hm2.2.2.1.1 hr2 (fun i hi => r_sh hm2 hi) (by omega)) (by omega) ?_
                  rintro v M4 ⟨pl, rl, c, e, rfl, hg, -, -, hs, ht, hB4, hp4, hB5⟩
                  have hBL := BL_ld hn2 hr2 hg hs ht hB4 hB5
                  dsimp only [Option.toList, List.cons_append, List.nil_append]
                  refine xG_run 5 rfl (by repeat' (first | exact trivial | assumption | exact xob_b rfl | exact xal_b rfl | (apply And.intro) | decide)) ?_
                  try dsimp only [xsto1, xsto2, xkill, xget, xset, gd_0, gd_s]
                  rw [hq9]
                  refine xG_run 3 rfl (by repeat' (first | exact trivial | assumption | exact xob_b rfl | exact xal_b rfl | (apply And.intro) | decide)) ?_
                  try dsimp only [xsto1, xsto2, xkill, xget, xset, gd_0, gd_s]
                  have hV : 0 ≤ u ∧ u ≤ 9999 ∧ 0 ≤ b ∧ b ≤ 99 ∧ (w = 0 ∨ w = 1) := ⟨Int32.not_lt.mp h16, Int32.not_lt.mp h23, Int32.not_lt.mp h27, Int32.not_lt.mp h33, by first | exact Or.inl h38 | exact Or.inr h44⟩
                  have hm4 : mR M4 28 R 167 np nr ng := mR_C hm2 (fun k hk => hB4.1 _ _ (by omega)) (fun k => hB4.1 _ _ (by omega)) (fun k => hB4.1 _ _ (by omega)) (fun p k hp => hB4.1 _ _ (by omega)) (fun r k hr => hB4.1 _ _ (by omega))
                  have hp4 : gJ M4 123 5 = cPs M4 np := hp4.trans (cPs_c (M := tkM M 28 1) (M' := M4) hn2 (fun i k hi => hB4.1 _ _ (by omega)) (fun k => hB4.1 _ _ (by omega)) (fun k => hB4.1 _ _ (by omega))).symm
                  have hkF : kFr M M4 := kFr_t kFr_tk (kFr_b hB4)
                  have lp := xG_upP (κ := κ) (m := mX11_readBack) (r := (d, 0, 0)) (YS := xRet mX11_readBack false (fun v M' n' => n' = 182 ∧ (((∃ q7, q7 < nr ∧ nI q = nI q7 ∧ (0 ≤ u ∧ u ≤ 9999 ∧ 0 ≤ b ∧ b ≤ 99 ∧ (w = 0 ∨ w = 1)) ∧ v = some (.int (if ¬ rr R q7 5 = 0 then -3 else rbV R np nr q7 u b w))) ∨ (¬ ((∃ q7, q7 < nr ∧ nI q = nI q7) ∧ 0 ≤ u ∧ u ≤ 9999 ∧ 0 ≤ b ∧ b ≤ 99 ∧ (w = 0 ∨ w = 1)) ∧ v = some (.int (-1)))) ∧ kFr M M'))) (fun j X => ∃ (y : Int32) (x8 : Option Value), X = (100, [some (.ref 0), some (.int (nI q)), some (.int u), some (.int b), some (.int w), some (.ref (16 + q)), some (.ref (43 + q)), some (.int (nI j)), x8], [], sI M4 (43 + q) 4 y, z2) ∧ ∀ k, k < j → rbO R np nr q u b (tI w k) = false) 1000 ?_ ?_ 0 (by omega)
                  · exact lp _ ⟨gI M4 (43 + q) 4, none, by rw [sI_same]; rfl, fun k hk => absurd hk (Nat.not_lt_zero _)⟩
                  · rintro j X hj ⟨y, x8, rfl, hno⟩ ih
                    have hxt : xob (43 + q) 5 182 := xob_r28 (by omega)
                    have hti : tI w j ≤ 999 := by unfold tI; split <;> omega
                    have hmJ : mR (sI M4 (43 + q) 4 (nI (tI w j))) 28 (tgR R q (tI w j)) 167 np nr ng := by
                      have := mR_rope (k := 4) (w := nI (tI w j)) hm4 hq (Or.inr (Or.inl ⟨rfl, by rw [nI_ti (by omega)]; omega, by rw [nI_ti (by omega)]; omega⟩))
                      rw [show 28 + 15 + q = 43 + q by omega] at this
                      exact this
                    have hBJ : BL (sI M4 (43 + q) 4 (nI (tI w j))) 0 ((1 : Int32) <<< (nI q &&& 31)) np nr := BL_u hBL hn2 hr2 (fun i k hi _ => gI_ne (Or.inl (by omega))) (fun i k hi hx => gI_ne (Or.inl (fun e => by rw [xbd_1 (by omega) (by omega)] at hx; exact of_decide_eq_false hx (by omega)))) (gI_ne (Or.inl (by omega))) ⟨gI_ne (Or.inl (by omega)), gI_ne (Or.inl (by omega))⟩ (fun _ => rfl) (fun _ => ⟨rfl, rfl⟩)
                    have hpJ : gJ (sI M4 (43 + q) 4 (nI (tI w j))) 123 5 = cPs (sI M4 (43 + q) 4 (nI (tI w j))) np - 0 := by
                      rw [Int64.sub_zero, cPs_c (M := M4) hn2 (fun i k hi => gI_ne (Or.inl (by omega))) (fun k => gI_ne (Or.inl (by omega))) (fun k => gI_ne (Or.inl (by omega)))]
                      exact hp4
                    have eS : stN (fun l => cAll (sI M4 (43 + q) 4 (nI (tI w j))) 28 np nr l - 0) 300 = rSt (tgR R q (tI w j)) np nr := stN_x hmJ hj0 (by omega)
                    refine xG_run 2 rfl (by repeat' (first | exact trivial | assumption | exact xob_b rfl | exact xal_b rfl | (apply And.intro) | decide)) ?_
                    try dsimp only [xsto1, xsto2, xkill, xget, xset, gd_0, gd_s]
                    try rw [sI_sI]
                    try rw [eS]
                    refine xG_brF rfl (show ¬ nI 999 < nI j from nI_nlt (by omega) (by omega)) ?_
                    refine xG_run 2 rfl (by repeat' (first | exact trivial | assumption | exact xob_b rfl | exact xal_b rfl | (apply And.intro) | decide)) ?_
                    try dsimp only [xsto1, xsto2, xkill, xget, xset, gd_0, gd_s]
                    try rw [sI_sI]
                    try rw [eS]
                    refine xG_br rfl (fun h112 => ?_) (fun h112 => ?_)
                    · have etI : (999 : Int32) - nI j = nI (tI w j) := by rw [nI_999 hj]; unfold tI; rw [if_neg h112]
                      refine xG_run 3 rfl (by repeat' (first | exact trivial | assumption | exact xob_b rfl | exact xal_b rfl | (apply And.intro) | decide)) ?_
                      try dsimp only [xsto1, xsto2, xkill, xget, xset, gd_0, gd_s]
                      try rw [sI_sI]
                      try rw [eS]
                      try rw [etI]
                      refine xG_run 1 rfl (by repeat' (first | exact trivial | assumption | exact xob_b rfl | exact xal_b rfl | (apply And.intro) | decide)) ?_
                      try dsimp only [xsto1, xsto2, xkill, xget, xset, gd_0, gd_s]
                      try rw [sI_sI]
                      try rw [eS]
                      try rw [sI_sI]
                      refine xG_run 3 rfl (by repeat' (first | exact trivial | assumption | exact xob_b rfl | exact xal_b rfl | (apply And.intro) | decide)) ?_
                      try dsimp only [xsto1, xsto2, xkill, xget, xset, gd_0, gd_s]
                      try rw [sI_sI]
                      try rw [eS]
                      refine xG_c2 1 rfl (by repeat' (first | exact trivial | assumption | exact xob_b rfl | exact xal_b rfl | (apply And.intro) | decide)) rfl rfl (by decide) cw_X0_lean (d' := d - 1) (e_leanB (mo := 300) hBJ hn2 hr2 hpJ (by omega) (by omega)) (by omega) ?_
                      rintro v M' ⟨rfl, hM⟩
                      subst M'
                      dsimp only [Option.toList, List.cons_append, List.nil_append]
                      refine xG_run 3 rfl (by repeat' (first | exact trivial | assumption | exact xob_b rfl | exact xal_b rfl | (apply And.intro) | decide)) ?_
                      try dsimp only [xsto1, xsto2, xkill, xget, xset, gd_0, gd_s]
                      try rw [sI_sI]
                      try rw [eS]
                      refine xG_br rfl (fun h146 => ?_) (fun h146 => ?_)
                      · refine xG_run 2 rfl (by repeat' (first | exact trivial | assumption | exact xob_b rfl | exact xal_b rfl | (apply And.intro) | decide)) ?_
                        try dsimp only [xsto1, xsto2, xkill, xget, xset, gd_0, gd_s]
                        try rw [sI_sI]
                        try rw [eS]
                        rw [nI_1]
                        (try rw [show nI (tI w j + 1) = nI (j + 1) from by rw [etI]])
                        have hf : rbO R np nr q u b (tI w j) = false := by
                          unfold rbO
                          refine decide_eq_false (fun z => ?_)
                          first
                            | exact z.1 h146
                            | exact z.1 (Decidable.not_not.mp h146)
                            | exact i_nlt z.2 h162
                        refine ih _ ⟨_, _, rfl, fun k hk => ?_⟩
                        by_cases e : k = j
                        · subst e; exact hf
                        · exact hno k (by omega)
                      · have hbi : bi 300 (rSt (tgR R q (tI w j)) np nr) := stN_bi (F := rAll (tgR R q (tI w j)) np nr) (mo := 300) (by omega) h146
                        have ePJ : cP (sI M4 (43 + q) 4 (nI (tI w j))) (43 + q) (rSt (tgR R q (tI w j)) np nr) = rP (tgR R q (tI w j)) q (rSt (tgR R q (tI w j)) np nr) := q_P hmJ hq hbi
                        refine xG_run 2 rfl (by repeat' (first | exact trivial | assumption | exact xob_b rfl | exact xal_b rfl | (apply And.intro) | decide)) ?_
                        try dsimp only [xsto1, xsto2, xkill, xget, xset, gd_0, gd_s]
                        try rw [sI_sI]
                        try rw [eS]
                        refine xG_c2 1 rfl (by repeat' (first | exact trivial | assumption | exact xob_b rfl | exact xal_b rfl | (apply And.intro) | decide)) rfl rfl (by decide) cw_X5_pullAt (d' := d - 1) (e_pullAt hxt) (by omega) ?_
                        rintro v M' ⟨rfl, hM⟩
                        subst M'
                        dsimp only [Option.toList, List.cons_append, List.nil_append]
                        rw [ePJ]
                        refine xG_run 4 rfl (by repeat' (first | exact trivial | assumption | exact xob_b rfl | exact xal_b rfl | (apply And.intro) | decide)) ?_
                        try dsimp only [xsto1, xsto2, xkill, xget, xset, gd_0, gd_s]
                        try rw [sI_sI]
                        try rw [eS]
                        refine xG_br rfl (fun h162 => ?_) (fun h162 => ?_)
                        · refine xG_run 2 rfl (by repeat' (first | exact trivial | assumption | exact xob_b rfl | exact xal_b rfl | (apply And.intro) | decide)) ?_
                          try dsimp only [xsto1, xsto2, xkill, xget, xset, gd_0, gd_s]
                          try rw [sI_sI]
                          try rw [eS]
                          rw [nI_1]
                          (try rw [show nI (tI w j + 1) = nI (j + 1) from by rw [etI]])
                          have hf : rbO R np nr q u b (tI w j) = false := by
                            unfold rbO
                            refine decide_eq_false (fun z => ?_)
                            first
                              | exact z.1 h146
                              | exact z.1 (Decidable.not_not.mp h146)
                              | exact i_nlt z.2 h162
                          refine ih _ ⟨_, _, rfl, fun k hk => ?_⟩
                          by_cases e : k = j
                          · subst e; exact hf
                          · exact hno k (by omega)
                        · refine xG_run 2 rfl (by repeat' (first | exact trivial | assumption | exact xob_b rfl | exact xal_b rfl | (apply And.intro) | decide)) ?_
                          try dsimp only [xsto1, xsto2, xkill, xget, xset, gd_0, gd_s]
                          try rw [sI_sI]
                          try rw [eS]
                          refine r2_i rfl rfl ?_
                          have ht : rbO R np nr q u b (tI w j) = true := by
                            unfold rbO
                            exact decide_eq_true ⟨h146, Int32.not_lt.mp h162⟩
                          refine ⟨Or.inl ⟨q, hq, hiq, hV, ?_⟩, kFr_t hkF (kFr_i (by omega))⟩
                          rw [if_neg (fun z => z hhow), rb_at hno ht hj, gI_self]
                    · have etI : tI w j = j := by unfold tI; rw [if_pos (Decidable.not_not.mp h112)]
                      refine xG_run 2 rfl (by repeat' (first | exact trivial | assumption | exact xob_b rfl | exact xal_b rfl | (apply And.intro) | decide)) ?_
                      try dsimp only [xsto1, xsto2, xkill, xget, xset, gd_0, gd_s]
                      try rw [sI_sI]
                      try rw [eS]
                      rw [show nI j = nI (tI w j) from by rw [etI]]
                      refine xG_run 1 rfl (by repeat' (first | exact trivial | assumption | exact xob_b rfl | exact xal_b rfl | (apply And.intro) | decide)) ?_
                      try dsimp only [xsto1, xsto2, xkill, xget, xset, gd_0, gd_s]
                      try rw [sI_sI]
                      try rw [eS]
                      try rw [sI_sI]
                      refine xG_run 3 rfl (by repeat' (first | exact trivial | assumption | exact xob_b rfl | exact xal_b rfl | (apply And.intro) | decide)) ?_
                      try dsimp only [xsto1, xsto2, xkill, xget, xset, gd_0, gd_s]
                      try rw [sI_sI]
                      try rw [eS]
                      refine xG_c2 1 rfl (by repeat' (first | exact trivial | assumption | exact xob_b rfl | exact xal_b rfl | (apply And.intro) | decide)) rfl rfl (by decide) cw_X0_lean (d' := d - 1) (e_leanB (mo := 300) hBJ hn2 hr2 hpJ (by omega) (by omega)) (by omega) ?_
                      rintro v M' ⟨rfl, hM⟩
                      subst M'
                      dsimp only [Option.toList, List.cons_append, List.nil_append]
                      refine xG_run 3 rfl (by repeat' (first | exact trivial | assumption | exact xob_b rfl | exact xal_b rfl | (apply And.intro) | decide)) ?_
                      try dsimp only [xsto1, xsto2, xkill, xget, xset, gd_0, gd_s]
                      try rw [sI_sI]
                      try rw [eS]
                      refine xG_br rfl (fun h146 => ?_) (fun h146 => ?_)
                      · refine xG_run 2 rfl (by repeat' (first | exact trivial | assumption | exact xob_b rfl | exact xal_b rfl | (apply And.intro) | decide)) ?_
                        try dsimp only [xsto1, xsto2, xkill, xget, xset, gd_0, gd_s]
                        try rw [sI_sI]
                        try rw [eS]
                        rw [nI_1]
                        (try rw [show nI (tI w j + 1) = nI (j + 1) from by rw [etI]])
                        have hf : rbO R np nr q u b (tI w j) = false := by
                          unfold rbO
                          refine decide_eq_false (fun z => ?_)
                          first
                            | exact z.1 h146
                            | exact z.1 (Decidable.not_not.mp h146)
                            | exact i_nlt z.2 h162
                        refine ih _ ⟨_, _, rfl, fun k hk => ?_⟩
                        by_cases e : k = j
                        · subst e; exact hf
                        · exact hno k (by omega)
                      · have hbi : bi 300 (rSt (tgR R q (tI w j)) np nr) := stN_bi (F := rAll (tgR R q (tI w j)) np nr) (mo := 300) (by omega) h146
                        have ePJ : cP (sI M4 (43 + q) 4 (nI (tI w j))) (43 + q) (rSt (tgR R q (tI w j)) np nr) = rP (tgR R q (tI w j)) q (rSt (tgR R q (tI w j)) np nr) := q_P hmJ hq hbi
                        refine xG_run 2 rfl (by repeat' (first | exact trivial | assumption | exact xob_b rfl | exact xal_b rfl | (apply And.intro) | decide)) ?_
                        try dsimp only [xsto1, xsto2, xkill, xget, xset, gd_0, gd_s]
                        try rw [sI_sI]
                        try rw [eS]
                        refine xG_c2 1 rfl (by repeat' (first | exact trivial | assumption | exact xob_b rfl | exact xal_b rfl | (apply And.intro) | decide)) rfl rfl (by decide) cw_X5_pullAt (d' := d - 1) (e_pullAt hxt) (by omega) ?_
                        rintro v M' ⟨rfl, hM⟩
                        subst M'
                        dsimp only [Option.toList, List.cons_append, List.nil_append]
                        rw [ePJ]
                        refine xG_run 4 rfl (by repeat' (first | exact trivial | assumption | exact xob_b rfl | exact xal_b rfl | (apply And.intro) | decide)) ?_
                        try dsimp only [xsto1, xsto2, xkill, xget, xset, gd_0, gd_s]
                        try rw [sI_sI]
                        try rw [eS]
                        refine xG_br rfl (fun h162 => ?_) (fun h162 => ?_)
                        · refine xG_run 2 rfl (by repeat' (first | exact trivial | assumption | exact xob_b rfl | exact xal_b rfl | (apply And.intro) | decide)) ?_
                          try dsimp only [xsto1, xsto2, xkill, xget, xset, gd_0, gd_s]
                          try rw [sI_sI]
                          try rw [eS]
                          rw [nI_1]
                          (try rw [show nI (tI w j + 1) = nI (j + 1) from by rw [etI]])
                          have hf : rbO R np nr q u b (tI w j) = false := by
                            unfold rbO
                            refine decide_eq_false (fun z => ?_)
                            first
                              | exact z.1 h146
                              | exact z.1 (Decidable.not_not.mp h146)
                              | exact i_nlt z.2 h162
                          refine ih _ ⟨_, _, rfl, fun k hk => ?_⟩
                          by_cases e : k = j
                          · subst e; exact hf
                          · exact hno k (by omega)
                        · refine xG_run 2 rfl (by repeat' (first | exact trivial | assumption | exact xob_b rfl | exact xal_b rfl | (apply And.intro) | decide)) ?_
                          try dsimp only [xsto1, xsto2, xkill, xget, xset, gd_0, gd_s]
                          try rw [sI_sI]
                          try rw [eS]
                          refine r2_i rfl rfl ?_
                          have ht : rbO R np nr q u b (tI w j) = true := by
                            unfold rbO
                            exact decide_eq_true ⟨h146, Int32.not_lt.mp h162⟩
                          refine ⟨Or.inl ⟨q, hq, hiq, hV, ?_⟩, kFr_t hkF (kFr_i (by omega))⟩
                          rw [if_neg (fun z => z hhow), rb_at hno ht hj, gI_self]
                  · rintro X ⟨y, x8, rfl, hno⟩
                    refine xG_run 2 rfl (by repeat' (first | exact trivial | assumption | exact xob_b rfl | exact xal_b rfl | (apply And.intro) | decide)) ?_
                    try dsimp only [xsto1, xsto2, xkill, xget, xset, gd_0, gd_s]
                    refine xG_brT rfl (show nI 999 < nI 1000 from nI_lt (by omega) (by omega)) ?_
                    refine xG_run 1 rfl (by repeat' (first | exact trivial | assumption | exact xob_b rfl | exact xal_b rfl | (apply And.intro) | decide)) ?_
                    try dsimp only [xsto1, xsto2, xkill, xget, xset, gd_0, gd_s]
                    refine r2_i rfl rfl ?_
                    refine ⟨Or.inl ⟨q, hq, hiq, hV, ?_⟩, kFr_t hkF (kFr_i (by omega))⟩
                    rw [if_neg (fun z => z hhow), rb_no hno]
                · refine xG_run 1 rfl (by repeat' (first | exact trivial | assumption | exact xob_b rfl | exact xal_b rfl | (apply And.intro) | decide)) ?_
                  try dsimp only [xsto1, xsto2, xkill, xget, xset, gd_0, gd_s]
                  refine r2_i rfl rfl ?_
                  first
                    | (refine ⟨Or.inr ⟨?_, rfl⟩, kFr_r⟩
                       rintro ⟨⟨q9, a1, a2⟩, a3, a4, a5, a6, a7⟩
                       first
                         | exact hnq (by rw [a2]; exact inI a1 (by omega))
                         | exact i_nlt a3 h16
                         | exact i_nlt a4 h23
                         | exact i_nlt a5 h27
                         | exact i_nlt a6 h33
                         | exact a7.elim h38 h44)
                    | (refine ⟨Or.inl ⟨q, hq, hiq, ⟨Int32.not_lt.mp h16, Int32.not_lt.mp h23, Int32.not_lt.mp h27, Int32.not_lt.mp h33, by first | exact Or.inl h38 | exact Or.inr h44⟩, ?_⟩, kFr_r⟩
                       rw [if_pos (by rw [← (r_q hm hq).1 5 (by omega)]; exact h54)]; done)
              · refine xG_run 1 rfl (by repeat' (first | exact trivial | assumption | exact xob_b rfl | exact xal_b rfl | (apply And.intro) | decide)) ?_
                try dsimp only [xsto1, xsto2, xkill, xget, xset, gd_0, gd_s]
                refine r2_i rfl rfl ?_
                first
                  | (refine ⟨Or.inr ⟨?_, rfl⟩, kFr_r⟩
                     rintro ⟨⟨q9, a1, a2⟩, a3, a4, a5, a6, a7⟩
                     first
                       | exact hnq (by rw [a2]; exact inI a1 (by omega))
                       | exact i_nlt a3 h16
                       | exact i_nlt a4 h23
                       | exact i_nlt a5 h27
                       | exact i_nlt a6 h33
                       | exact a7.elim h38 h44)
                  | (refine ⟨Or.inl ⟨q, hq, hiq, ⟨Int32.not_lt.mp h16, Int32.not_lt.mp h23, Int32.not_lt.mp h27, Int32.not_lt.mp h33, by first | exact Or.inl h38 | exact Or.inr h44⟩, ?_⟩, kFr_r⟩
                     rw [if_pos (by rw [← (r_q hm hq).1 5 (by omega)]; exact h54)]; done)
set_option maxRecDepth 4000 in
theorem e_m_readBack {κ : xKK} {d : Nat} {M : xM} {np nr ng : Nat} {C : xM} (hm : mR C 1 M 167 np nr ng) {i u b w : Int32} (hd : 6 ≤ d) : xE2 κ mX12_readBack d [.ref 166, .int i, .int u, .int b, .int w] M (fun v M' => ((∃ q7, q7 < nr ∧ i = nI q7 ∧ (0 ≤ u ∧ u ≤ 9999 ∧ 0 ≤ b ∧ b ≤ 99 ∧ (w = 0 ∨ w = 1)) ∧ v = some (.int (if ¬ rr M q7 5 = 0 then -3 else rbV M np nr q7 u b w))) ∨ (¬ ((∃ q7, q7 < nr ∧ i = nI q7) ∧ 0 ≤ u ∧ u ≤ 9999 ∧ 0 ≤ b ∧ b ≤ 99 ∧ (w = 0 ∨ w = 1)) ∧ v = some (.int (-1)))) ∧ rkF M M') := by
  refine xE2_of ci_X12_readBack cl_X12_readBack cw_X12_readBack rfl (L := [some (.ref 166), some (.int i), some (.int u), some (.int b), some (.int w), none, none, none, none, none]) rfl ?_
  have hn := hm.2.1.2
  have hn2 := hm.1.1
  have hr := hm.2.2.1.2
  have hr2 := hm.1.2.1
  have hw := rPw hm
  have hh := rQh hm
  refine xG_run 2 rfl (by repeat' (first | exact trivial | assumption | exact xob_b rfl | exact xal_b rfl | (apply And.intro) | decide)) ?_
  try dsimp only [xsto1, xsto2, xkill, xget, xset, gd_0, gd_s]
  refine xG_c2 1 rfl (by repeat' (first | exact trivial | assumption | exact xob_b rfl | exact xal_b rfl | (apply And.intro) | decide)) rfl rfl (by decide) cw_X12_isRope (d' := d - 1) (e_isRope hr hr2 (by omega)) (by omega) ?_
  rintro v M' ⟨rfl, hM⟩
  subst M'
  dsimp only [Option.toList, List.cons_append, List.nil_append]
  refine xG_br rfl (fun h5 => ?_) (fun h5 => ?_)
  · have b5 := z0.mp h5
    refine xG_run 1 rfl (by repeat' (first | exact trivial | assumption | exact xob_b rfl | exact xal_b rfl | (apply And.intro) | decide)) ?_
    try dsimp only [xsto1, xsto2, xkill, xget, xset, gd_0, gd_s]
    refine r2_i rfl rfl ?_
    first
      | (refine ⟨Or.inl ⟨q, hq, rfl, ⟨b17.1, b17.2, b29.1, b29.2, ?_⟩, ?_⟩, rkF_r⟩
         · by_cases c : w = 1
           · exact Or.inr c
           · exact Or.inl (w00 b40 c)
         · rw [if_pos h51]; done)
      | (refine ⟨Or.inr ⟨?_, rfl⟩, rkF_r⟩
         rintro ⟨⟨q9, a1, a2⟩, a3, a4, a5, a6, a7⟩
         first
           | exact b5 (by rw [a2]; exact inI a1 (by omega))
           | exact b17 ⟨a3, a4⟩
           | exact b29 ⟨a5, a6⟩
           | (refine b40 ?_; rcases a7 with a7 | a7 <;> (rw [a7]; decide)))
  · have b5 := z1.mp h5
    obtain ⟨q, hq, rfl⟩ := inI_of b5 (by omega)
    have e1 : (70 : Int32) + 6 * nI q + 4 = nI (70 + 6 * q + 4) := ix6 q 4
    have e2 : ((70 : Int32) + 6 * nI q + 4).toNatClampNeg = 70 + 6 * q + 4 := by rw [e1]; exact nI_cl (by omega)
    have hs : xar 167 0 182 ((70 : Int32) + 6 * nI q + 4) := by rw [e1]; exact xar_n rfl 1651 rfl (by omega) (by omega)
    refine xG_run 4 rfl (by repeat' (first | exact trivial | assumption | exact xob_b rfl | exact xal_b rfl | (apply And.intro) | decide)) ?_
    try dsimp only [xsto1, xsto2, xkill, xget, xset, gd_0, gd_s]
    refine xG_c2 3 rfl (by repeat' (first | exact trivial | assumption | exact xob_b rfl | exact xal_b rfl | (apply And.intro) | decide)) rfl rfl (by decide) cw_X12_isIn (d' := d - 1) (e_isIn (c := 0 ≤ u ∧ u ≤ 9999) (in32 rfl rfl)) (by omega) ?_
    rintro v M' ⟨rfl, hM⟩
    subst M'
    dsimp only [Option.toList, List.cons_append, List.nil_append]
    refine xG_br rfl (fun h17 => ?_) (fun h17 => ?_)
    · have b17 := z0.mp h17
      refine xG_run 1 rfl (by repeat' (first | exact trivial | assumption | exact xob_b rfl | exact xal_b rfl | (apply And.intro) | decide)) ?_
      try dsimp only [xsto1, xsto2, xkill, xget, xset, gd_0, gd_s]
      refine r2_i rfl rfl ?_
      first
        | (refine ⟨Or.inl ⟨q, hq, rfl, ⟨b17.1, b17.2, b29.1, b29.2, ?_⟩, ?_⟩, rkF_r⟩
           · by_cases c : w = 1
             · exact Or.inr c
             · exact Or.inl (w00 b40 c)
           · rw [if_pos h51]; done)
        | (refine ⟨Or.inr ⟨?_, rfl⟩, rkF_r⟩
           rintro ⟨⟨q9, a1, a2⟩, a3, a4, a5, a6, a7⟩
           first
             | exact b5 (by rw [a2]; exact inI a1 (by omega))
             | exact b17 ⟨a3, a4⟩
             | exact b29 ⟨a5, a6⟩
             | (refine b40 ?_; rcases a7 with a7 | a7 <;> (rw [a7]; decide)))
    · have b17 := z1.mp h17
      refine xG_run 4 rfl (by repeat' (first | exact trivial | assumption | exact xob_b rfl | exact xal_b rfl | (apply And.intro) | decide)) ?_
      try dsimp only [xsto1, xsto2, xkill, xget, xset, gd_0, gd_s]
      refine xG_c2 3 rfl (by repeat' (first | exact trivial | assumption | exact xob_b rfl | exact xal_b rfl | (apply And.intro) | decide)) rfl rfl (by decide) cw_X12_isIn (d' := d - 1) (e_isIn (c := 0 ≤ b ∧ b ≤ 99) (in32 rfl rfl)) (by omega) ?_
      rintro v M' ⟨rfl, hM⟩
      subst M'
      dsimp only [Option.toList, List.cons_append, List.nil_append]
      refine xG_br rfl (fun h29 => ?_) (fun h29 => ?_)
      · have b29 := z0.mp h29
        refine xG_run 1 rfl (by repeat' (first | exact trivial | assumption | exact xob_b rfl | exact xal_b rfl | (apply And.intro) | decide)) ?_
        try dsimp only [xsto1, xsto2, xkill, xget, xset, gd_0, gd_s]
        refine r2_i rfl rfl ?_
        first
          | (refine ⟨Or.inl ⟨q, hq, rfl, ⟨b17.1, b17.2, b29.1, b29.2, ?_⟩, ?_⟩, rkF_r⟩
             · by_cases c : w = 1
               · exact Or.inr c
               · exact Or.inl (w00 b40 c)
             · rw [if_pos h51]; done)
          | (refine ⟨Or.inr ⟨?_, rfl⟩, rkF_r⟩
             rintro ⟨⟨q9, a1, a2⟩, a3, a4, a5, a6, a7⟩
             first
               | exact b5 (by rw [a2]; exact inI a1 (by omega))
               | exact b17 ⟨a3, a4⟩
               | exact b29 ⟨a5, a6⟩
               | (refine b40 ?_; rcases a7 with a7 | a7 <;> (rw [a7]; decide)))
      · have b29 := z1.mp h29
        refine xG_run 4 rfl (by repeat' (first | exact trivial | assumption | exact xob_b rfl | exact xal_b rfl | (apply And.intro) | decide)) ?_
        try dsimp only [xsto1, xsto2, xkill, xget, xset, gd_0, gd_s]
        refine xG_c2 3 rfl (by repeat' (first | exact trivial | assumption | exact xob_b rfl | exact xal_b rfl | (apply And.intro) | decide)) rfl rfl (by decide) cw_X12_isIn (d' := d - 1) (e_isIn (c := 0 ≤ w ∧ w ≤ 1) (in32 rfl rfl)) (by omega) ?_
        rintro v M' ⟨rfl, hM⟩
        subst M'
        dsimp only [Option.toList, List.cons_append, List.nil_append]
        refine xG_br rfl (fun h40 => ?_) (fun h40 => ?_)
        · have b40 := z1.mp h40
          refine xG_run 3 rfl (by repeat' (first | exact trivial | assumption | exact xob_b rfl | exact xal_b rfl | (apply And.intro) | decide)) ?_
          try dsimp only [xsto1, xsto2, xkill, xget, xset, gd_0, gd_s]
          refine xG_c2 2 rfl (by repeat' (first | exact trivial | assumption | exact xob_b rfl | exact xal_b rfl | (apply And.intro) | decide)) rfl rfl (by decide) cw_X12_rope0 (d' := d - 1) (e_rope0 (p := q) (k := 5) rfl rfl (by omega)) (by omega) ?_
          rintro v M' ⟨rfl, hM⟩
          subst M'
          dsimp only [Option.toList, List.cons_append, List.nil_append]
          refine xG_br rfl (fun h51 => ?_) (fun h51 => ?_)
          · have hhow : rr M q 5 = 0 := h51
            refine xG_run 3 rfl (by repeat' (first | exact trivial | assumption | exact xob_b rfl | exact xal_b rfl | (apply And.intro) | decide)) ?_
            try dsimp only [xsto1, xsto2, xkill, xget, xset, gd_0, gd_s]
            refine xG_c2 2 rfl (by repeat' (first | exact trivial | assumption | exact xob_b rfl | exact xal_b rfl | (apply And.intro) | decide)) rfl rfl (by decide) cw_X12_rope0 (d' := d - 1) (e_rope0 (p := q) (k := 4) rfl rfl (by omega)) (by omega) ?_
            rintro v M' ⟨rfl, hM⟩
            subst M'
            dsimp only [Option.toList, List.cons_append, List.nil_append]
            refine xG_run 7 rfl (by repeat' (first | exact trivial | assumption | exact xob_b rfl | exact xal_b rfl | (apply And.intro) | decide)) ?_
            try dsimp only [xsto1, xsto2, xkill, xget, xset, gd_0, gd_s]
            have hV : 0 ≤ u ∧ u ≤ 9999 ∧ 0 ≤ b ∧ b ≤ 99 ∧ (w = 0 ∨ w = 1) := ⟨b17.1, b17.2, b29.1, b29.2, (Decidable.em (w = 1)).elim Or.inr (fun c => Or.inl (w00 b40 c))⟩
            have lp := xG_upP (κ := κ) (m := mX12_readBack) (r := (d, 0, 0)) (YS := xRet mX12_readBack false (fun v M' n' => n' = 182 ∧ (((∃ q7, q7 < nr ∧ nI q = nI q7 ∧ (0 ≤ u ∧ u ≤ 9999 ∧ 0 ≤ b ∧ b ≤ 99 ∧ (w = 0 ∨ w = 1)) ∧ v = some (.int (if ¬ rr M q7 5 = 0 then -3 else rbV M np nr q7 u b w))) ∨ (¬ ((∃ q7, q7 < nr ∧ nI q = nI q7) ∧ 0 ≤ u ∧ u ≤ 9999 ∧ 0 ≤ b ∧ b ≤ 99 ∧ (w = 0 ∨ w = 1)) ∧ v = some (.int (-1)))) ∧ rkF M M'))) (fun t X => ∃ (y : Int32) (x9 : Option Value), X = (76, [some (.ref 166), some (.int (nI q)), some (.int u), some (.int b), some (.int w), some (.int (rr M q 4)), some (.int (rbF (rbO M np nr q u b) t)), some (.int (rbL (rbO M np nr q u b) t)), some (.int (nI t)), x9], [], sI M 167 (70 + 6 * q + 4) y, z2)) 1000 ?_ ?_ 0 (by omega)
            · exact lp _ ⟨gI M 167 (70 + 6 * q + 4), none, by rw [sI_same]; rfl⟩
            · rintro t X ht9 ⟨y, x9, rfl⟩ ih
              have hmT : mR (sI C (1 + 15 + q) 4 (nI t)) 1 (tgR M q t) 167 np nr ng := mR_rope (k := 4) (w := nI t) hm hq (Or.inr (Or.inl ⟨rfl, by rw [nI_ti (by omega)]; omega, by rw [nI_ti (by omega)]; omega⟩))
              refine xG_run 2 rfl (by repeat' (first | exact trivial | assumption | exact xob_b rfl | exact xal_b rfl | (apply And.intro) | decide)) ?_
              try dsimp only [xsto1, xsto2, xkill, xget, xset, gd_0, gd_s]
              try rw [e2]
              try rw [sI_sI]
              refine xG_brF rfl (show ¬ nI 1000 ≤ nI t from nI_ge ht9 (by omega)) ?_
              refine xG_run 8 rfl (by repeat' (first | exact trivial | assumption | exact xob_b rfl | exact xal_b rfl | (apply And.intro) | decide)) ?_
              try dsimp only [xsto1, xsto2, xkill, xget, xset, gd_0, gd_s]
              try rw [e2]
              try rw [sI_sI]
              refine xG_run 3 rfl (by repeat' (first | exact trivial | assumption | exact xob_b rfl | exact xal_b rfl | (apply And.intro) | decide)) ?_
              try dsimp only [xsto1, xsto2, xkill, xget, xset, gd_0, gd_s]
              try rw [e2]
              try rw [sI_sI]
              show xG κ mX12_readBack _ (100, _, _, tgR M q t, z2) _
              refine xG_run 1 rfl (by repeat' (first | exact trivial | assumption | exact xob_b rfl | exact xal_b rfl | (apply And.intro) | decide)) ?_
              try dsimp only [xsto1, xsto2, xkill, xget, xset, gd_0, gd_s]
              try rw [e2]
              try rw [sI_sI]
              refine xG_c2 0 rfl (by repeat' (first | exact trivial | assumption | exact xob_b rfl | exact xal_b rfl | (apply And.intro) | decide)) rfl rfl (by decide) cw_X12_standing (d' := d - 1) (e_rstanding hmT.2.1.2 hmT.1.1 hmT.2.2.1.2 hmT.1.2.1 (rPw hmT) (rQh hmT) (by omega)) (by omega) ?_
              rintro v M' ⟨rfl, hM⟩
              subst M'
              dsimp only [Option.toList, List.cons_append, List.nil_append]
              refine xG_run 3 rfl (by repeat' (first | exact trivial | assumption | exact xob_b rfl | exact xal_b rfl | (apply And.intro) | decide)) ?_
              try dsimp only [xsto1, xsto2, xkill, xget, xset, gd_0, gd_s]
              try rw [e2]
              try rw [sI_sI]
              refine xG_br rfl (fun h111 => ?_) (fun h111 => ?_)
              · refine xG_run 2 rfl (by repeat' (first | exact trivial | assumption | exact xob_b rfl | exact xal_b rfl | (apply And.intro) | decide)) ?_
                try dsimp only [xsto1, xsto2, xkill, xget, xset, gd_0, gd_s]
                try rw [e2]
                try rw [sI_sI]
                rw [nI_1]
                first
                  | (have hp9 : rbO M np nr q u b t = false := by
                       unfold rbO
                       refine decide_eq_false (fun z => ?_)
                       first
                         | exact z.1 h111
                         | exact b133 z.2
                     exact ih _ ⟨nI t, _, by rw [rbF, rbL, hp9, if_neg (by decide), if_neg (by decide)]; rfl⟩)
                  | (have hp9 : rbO M np nr q u b t = true := by
                       unfold rbO
                       exact decide_eq_true ⟨h111, b133⟩
                     first
                       | exact ih _ ⟨nI t, _, by rw [rbF, rbL, hp9, if_pos rfl, if_pos rfl, if_neg (i_nlt h145)]; rfl⟩
                       | exact ih _ ⟨nI t, _, by rw [rbF, rbL, hp9, if_pos rfl, if_pos rfl, if_pos (Int32.not_le.mp h145)]; rfl⟩)
              · have hbi : bi 300 (rSt (tgR M q t) np nr) := stN_bi (F := rAll (tgR M q t) np nr) (mo := 300) (by omega) h111
                refine xG_run 3 rfl (by repeat' (first | exact trivial | assumption | exact xob_b rfl | exact xal_b rfl | (apply And.intro) | decide)) ?_
                try dsimp only [xsto1, xsto2, xkill, xget, xset, gd_0, gd_s]
                try rw [e2]
                try rw [sI_sI]
                refine xG_c2 2 rfl (by repeat' (first | exact trivial | assumption | exact xob_b rfl | exact xal_b rfl | (apply And.intro) | decide)) rfl rfl (by decide) cw_X12_pullAt (d' := d - 1) (e_rpull (q := q) (by omega) (rQh hmT q hq).1.1 (rQh hmT q hq).1.2 (rQh hmT q hq).2 (by omega)) (by omega) ?_
                rintro v M' ⟨rfl, hM⟩
                subst M'
                dsimp only [Option.toList, List.cons_append, List.nil_append]
                refine xG_run 8 rfl (by repeat' (first | exact trivial | assumption | exact xob_b rfl | exact xal_b rfl | (apply And.intro) | decide)) ?_
                try dsimp only [xsto1, xsto2, xkill, xget, xset, gd_0, gd_s]
                try rw [e2]
                try rw [sI_sI]
                refine xG_run 1 rfl (by repeat' (first | exact trivial | assumption | exact xob_b rfl | exact xal_b rfl | (apply And.intro) | decide)) ?_
                try dsimp only [xsto1, xsto2, xkill, xget, xset, gd_0, gd_s]
                try rw [e2]
                try rw [sI_sI]
                refine xG_c2 3 rfl (by repeat' (first | exact trivial | assumption | exact xob_b rfl | exact xal_b rfl | (apply And.intro) | decide)) rfl rfl (by decide) cw_X12_isIn (d' := d - 1) (e_isIn (c := (if 0 ≤ rP (tgR M q t) q (rSt (tgR M q t) np nr) - u then rP (tgR M q t) q (rSt (tgR M q t) np nr) - u else 0 - (rP (tgR M q t) q (rSt (tgR M q t) np nr) - u)) ≤ b) (rb_rg (bP hmT hq hbi) b17 b29)) (by omega) ?_
                rintro v M' ⟨rfl, hM⟩
                subst M'
                dsimp only [Option.toList, List.cons_append, List.nil_append]
                refine xG_br rfl (fun h133 => ?_) (fun h133 => ?_)
                · have b133 := z1.mp h133
                  refine xG_run 3 rfl (by repeat' (first | exact trivial | assumption | exact xob_b rfl | exact xal_b rfl | (apply And.intro) | decide)) ?_
                  try dsimp only [xsto1, xsto2, xkill, xget, xset, gd_0, gd_s]
                  try rw [e2]
                  try rw [sI_sI]
                  refine xG_br rfl (fun h145 => ?_) (fun h145 => ?_)
                  · refine xG_run 4 rfl (by repeat' (first | exact trivial | assumption | exact xob_b rfl | exact xal_b rfl | (apply And.intro) | decide)) ?_
                    try dsimp only [xsto1, xsto2, xkill, xget, xset, gd_0, gd_s]
                    try rw [e2]
                    try rw [sI_sI]
                    rw [nI_1]
                    first
                      | (have hp9 : rbO M np nr q u b t = false := by
                           unfold rbO
                           refine decide_eq_false (fun z => ?_)
                           first
                             | exact z.1 h111
                             | exact b133 z.2
                         exact ih _ ⟨nI t, _, by rw [rbF, rbL, hp9, if_neg (by decide), if_neg (by decide)]; rfl⟩)
                      | (have hp9 : rbO M np nr q u b t = true := by
                           unfold rbO
                           exact decide_eq_true ⟨h111, b133⟩
                         first
                           | exact ih _ ⟨nI t, _, by rw [rbF, rbL, hp9, if_pos rfl, if_pos rfl, if_neg (i_nlt h145)]; rfl⟩
                           | exact ih _ ⟨nI t, _, by rw [rbF, rbL, hp9, if_pos rfl, if_pos rfl, if_pos (Int32.not_le.mp h145)]; rfl⟩)
                  · refine xG_run 5 rfl (by repeat' (first | exact trivial | assumption | exact xob_b rfl | exact xal_b rfl | (apply And.intro) | decide)) ?_
                    try dsimp only [xsto1, xsto2, xkill, xget, xset, gd_0, gd_s]
                    try rw [e2]
                    try rw [sI_sI]
                    rw [nI_1]
                    first
                      | (have hp9 : rbO M np nr q u b t = false := by
                           unfold rbO
                           refine decide_eq_false (fun z => ?_)
                           first
                             | exact z.1 h111
                             | exact b133 z.2
                         exact ih _ ⟨nI t, _, by rw [rbF, rbL, hp9, if_neg (by decide), if_neg (by decide)]; rfl⟩)
                      | (have hp9 : rbO M np nr q u b t = true := by
                           unfold rbO
                           exact decide_eq_true ⟨h111, b133⟩
                         first
                           | exact ih _ ⟨nI t, _, by rw [rbF, rbL, hp9, if_pos rfl, if_pos rfl, if_neg (i_nlt h145)]; rfl⟩
                           | exact ih _ ⟨nI t, _, by rw [rbF, rbL, hp9, if_pos rfl, if_pos rfl, if_pos (Int32.not_le.mp h145)]; rfl⟩)
                · have b133 := z0.mp (Decidable.not_not.mp h133)
                  refine xG_run 3 rfl (by repeat' (first | exact trivial | assumption | exact xob_b rfl | exact xal_b rfl | (apply And.intro) | decide)) ?_
                  try dsimp only [xsto1, xsto2, xkill, xget, xset, gd_0, gd_s]
                  try rw [e2]
                  try rw [sI_sI]
                  rw [nI_1]
                  first
                    | (have hp9 : rbO M np nr q u b t = false := by
                         unfold rbO
                         refine decide_eq_false (fun z => ?_)
                         first
                           | exact z.1 h111
                           | exact b133 z.2
                       exact ih _ ⟨nI t, _, by rw [rbF, rbL, hp9, if_neg (by decide), if_neg (by decide)]; rfl⟩)
                    | (have hp9 : rbO M np nr q u b t = true := by
                         unfold rbO
                         exact decide_eq_true ⟨h111, b133⟩
                       first
                         | exact ih _ ⟨nI t, _, by rw [rbF, rbL, hp9, if_pos rfl, if_pos rfl, if_neg (i_nlt h145)]; rfl⟩
                         | exact ih _ ⟨nI t, _, by rw [rbF, rbL, hp9, if_pos rfl, if_pos rfl, if_pos (Int32.not_le.mp h145)]; rfl⟩)
            · rintro X ⟨y, x9, rfl⟩
              refine xG_run 2 rfl (by repeat' (first | exact trivial | assumption | exact xob_b rfl | exact xal_b rfl | (apply And.intro) | decide)) ?_
              try dsimp only [xsto1, xsto2, xkill, xget, xset, gd_0, gd_s]
              try rw [e2]
              refine xG_brT rfl (show nI 1000 ≤ nI 1000 from Int32.le_refl _) ?_
              refine xG_run 8 rfl (by repeat' (first | exact trivial | assumption | exact xob_b rfl | exact xal_b rfl | (apply And.intro) | decide)) ?_
              try dsimp only [xsto1, xsto2, xkill, xget, xset, gd_0, gd_s]
              try rw [e2]
              refine xG_run 4 rfl (by repeat' (first | exact trivial | assumption | exact xob_b rfl | exact xal_b rfl | (apply And.intro) | decide)) ?_
              try dsimp only [xsto1, xsto2, xkill, xget, xset, gd_0, gd_s]
              try rw [e2]
              refine xG_br rfl (fun h181 => ?_) (fun h181 => ?_)
              · refine xG_run 1 rfl (by repeat' (first | exact trivial | assumption | exact xob_b rfl | exact xal_b rfl | (apply And.intro) | decide)) ?_
                try dsimp only [xsto1, xsto2, xkill, xget, xset, gd_0, gd_s]
                try rw [e2]
                refine r2_i rfl rfl ?_
                refine ⟨Or.inl ⟨q, hq, rfl, hV, ?_⟩, rkF_s rfl⟩
                rw [if_neg (fun z => z hhow)]
                unfold rbV
                first
                  | (rw [if_pos (Decidable.not_not.mp h181)]; done)
                  | (rw [if_neg h181]; done)
              · refine xG_run 2 rfl (by repeat' (first | exact trivial | assumption | exact xob_b rfl | exact xal_b rfl | (apply And.intro) | decide)) ?_
                try dsimp only [xsto1, xsto2, xkill, xget, xset, gd_0, gd_s]
                try rw [e2]
                refine r2_i rfl rfl ?_
                refine ⟨Or.inl ⟨q, hq, rfl, hV, ?_⟩, rkF_s rfl⟩
                rw [if_neg (fun z => z hhow)]
                unfold rbV
                first
                  | (rw [if_pos (Decidable.not_not.mp h181)]; done)
                  | (rw [if_neg h181]; done)
          · refine xG_run 1 rfl (by repeat' (first | exact trivial | assumption | exact xob_b rfl | exact xal_b rfl | (apply And.intro) | decide)) ?_
            try dsimp only [xsto1, xsto2, xkill, xget, xset, gd_0, gd_s]
            refine r2_i rfl rfl ?_
            first
              | (refine ⟨Or.inl ⟨q, hq, rfl, ⟨b17.1, b17.2, b29.1, b29.2, ?_⟩, ?_⟩, rkF_r⟩
                 · by_cases c : w = 1
                   · exact Or.inr c
                   · exact Or.inl (w00 b40 c)
                 · rw [if_pos h51]; done)
              | (refine ⟨Or.inr ⟨?_, rfl⟩, rkF_r⟩
                 rintro ⟨⟨q9, a1, a2⟩, a3, a4, a5, a6, a7⟩
                 first
                   | exact b5 (by rw [a2]; exact inI a1 (by omega))
                   | exact b17 ⟨a3, a4⟩
                   | exact b29 ⟨a5, a6⟩
                   | (refine b40 ?_; rcases a7 with a7 | a7 <;> (rw [a7]; decide)))
        · have b40 := z0.mp (Decidable.not_not.mp h40)
          refine xG_run 1 rfl (by repeat' (first | exact trivial | assumption | exact xob_b rfl | exact xal_b rfl | (apply And.intro) | decide)) ?_
          try dsimp only [xsto1, xsto2, xkill, xget, xset, gd_0, gd_s]
          refine r2_i rfl rfl ?_
          first
            | (refine ⟨Or.inl ⟨q, hq, rfl, ⟨b17.1, b17.2, b29.1, b29.2, ?_⟩, ?_⟩, rkF_r⟩
               · by_cases c : w = 1
                 · exact Or.inr c
                 · exact Or.inl (w00 b40 c)
               · rw [if_pos h51]; done)
            | (refine ⟨Or.inr ⟨?_, rfl⟩, rkF_r⟩
               rintro ⟨⟨q9, a1, a2⟩, a3, a4, a5, a6, a7⟩
               first
                 | exact b5 (by rw [a2]; exact inI a1 (by omega))
                 | exact b17 ⟨a3, a4⟩
                 | exact b29 ⟨a5, a6⟩
                 | (refine b40 ?_; rcases a7 with a7 | a7 <;> (rw [a7]; decide)))
