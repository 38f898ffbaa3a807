/-! what calls that only ask may change -/
def kFr (M M' : xM) : Prop := (∀ x k, (x < 28 ∨ (55 ≤ x ∧ x ≤ 122) ∨ 142 ≤ x) → gI M' x k = gI M x k) ∧ (∀ x k, 142 ≤ x → gJ M' x k = gJ M x k) ∧ ∀ x k, 142 ≤ x → gP M' x k = gP M x k
theorem kFr_r {M : xM} : kFr M M := ⟨fun _ _ _ => rfl, fun _ _ _ => rfl, fun _ _ _ => rfl⟩
theorem kFr_t {M M' M2 : xM} (h : kFr M M') (h2 : kFr M' M2) : kFr M M2 := ⟨fun x k q => (h2.1 x k q).trans (h.1 x k q), fun x k q => (h2.2.1 x k q).trans (h.2.1 x k q), fun x k q => (h2.2.2 x k q).trans (h.2.2 x k q)⟩
theorem kFr_b {M M' : xM} (h : bFr M M') : kFr M M' := ⟨fun x k q => h.1 x k (by omega), fun x k q => h.2.1 x k (by omega) (by omega), fun x k q => h.2.2 x k (by omega) (by omega)⟩
theorem kFr_tk {M : xM} : kFr M (tkM M 28 1) := ⟨fun x k q => tk_out (by omega) (by omega), fun x k _ => (tkM_R (M := M) (a := 28) (b := 1) (by omega)).2.2.2.2.2.2.1 x k, fun x k _ => (tkM_R (M := M) (a := 28) (b := 1) (by omega)).2.2.2.2.2.2.2 x k⟩
theorem kFr_i {M : xM} {a k : Nat} {v : Int32} (h : ¬ (a < 28 ∨ (55 ≤ a ∧ a ≤ 122) ∨ 142 ≤ a)) : kFr M (sI M a k v) := ⟨fun x y q => gI_ne (Or.inl (fun e => h (e ▸ q))), fun _ _ _ => rfl, fun _ _ _ => rfl⟩
theorem kFr_j {M : xM} {a k : Nat} {v : Int64} (h : a < 142) : kFr M (sJ M a k v) := ⟨fun _ _ _ => rfl, fun x y q => gJ_ne (Or.inl (by omega)), fun _ _ _ => rfl⟩
theorem kFr_p {M : xM} {a k : Nat} {v : Option Nat} (h : a < 142) : kFr M (sP M a k v) := ⟨fun _ _ _ => rfl, fun _ _ _ => rfl, fun x y q => gP_ne (Or.inl (by omega))⟩
theorem stN_bi {F : Int32 → Int64} {mo : Nat} (hm : mo ≤ 300) (h : ¬ stN F mo = 1000) : bi 300 (stN F mo) := by
  unfold stN at h ⊢
  by_cases c : 0 ≤ F 0
  · rw [if_pos c] at h ⊢
    by_cases c2 : fF (fun k => decide (F (nI (k + 1)) < 0)) (min (mo + 1) 300) < min (mo + 1) 300
    · rw [if_pos c2] at h ⊢
      have e := nI_ti (j := fF (fun k => decide (F (nI (k + 1)) < 0)) (min (mo + 1) 300)) (by omega)
      exact ⟨by rw [e]; omega, by rw [e]; omega⟩
    · rw [if_neg c2] at h; exact absurd rfl h
  · rw [if_neg c] at h ⊢
    by_cases c2 : fF (fun k => decide (0 ≤ F (-(nI (k + 1))))) mo < mo
    · rw [if_pos c2] at h ⊢
      have e : (-(nI (fF (fun k => decide (0 ≤ F (-(nI (k + 1))))) mo + 1))).toInt = -((fF (fun k => decide (0 ≤ F (-(nI (k + 1))))) mo + 1 : Nat) : Int) := sb_negT (by omega)
      exact ⟨by rw [e]; omega, by rw [e]; omega⟩
    · rw [if_neg c2] at h; exact absurd rfl h
/-- the jerk of a rope that is cut at L -/
def jkV (R : xM) (q : Nat) (L : Int32) : Int64 := (rr R q 1).toInt64 * (rP R q L / 2).toInt64 * (rA R q (rH R q)).toInt64
def afR (R : xM) (q : Nat) (J : Int64) : xM := sJ (sI R 167 (70 + 6 * q + 5) 1) 166 18 J
def afV (R : xM) (np nr q : Nat) : Int32 := if ¬ rr R q 5 = 0 ∨ rSt R np nr = 1000 then -1000000003 else if rSt (afR R q (jkV R q (rSt R np nr))) np nr = 1000 then -1000000003 else rSt (afR R q (jkV R q (rSt R np nr))) np nr
set_option maxRecDepth 4000 in
theorem e_x_after {κ : xKK} {d : Nat} {M : xM} {np nr ng : Nat} {R : xM} (hm : mR M 1 R 167 np nr ng) (hj0 : gJ R 166 18 = 0) {i : Int32} (hd : 6 ≤ d) : xE2 κ mX11_after d [.ref 0, .int i] M (fun v M' => ((∃ q, q < nr ∧ i = nI q ∧ v = some (.int (afV R np nr q))) ∨ (¬ (∃ q, q < nr ∧ i = nI q) ∧ v = some (.int (-1000000001)))) ∧ kFr M M') := by
  refine xE2_of ci_X11_after cl_X11_after cw_X11_after rfl (L := [some (.ref 0), some (.int i), none, none, none, none, none]) rfl ?_
  have hn := hm.2.1.1
  have hn2 := hm.1.1
  have hr := hm.2.2.1.1
  have hr2 := hm.1.2.1
  have hsh : ∀ i, i < np → 0 ≤ (cSh M 1 (6 + i)).toInt ∧ (cSh M 1 (6 + i)).toInt < 5 := fun i hi => r_sh hm hi
  have hL : stN (cAll M 1 np nr) 300 = rSt R np nr := q_St hm hj0 (by omega)
  refine xG_run 3 rfl (by repeat' (first | exact trivial | assumption | exact xob_b rfl | exact xal_b rfl | (apply And.intro) | decide)) ?_
  try dsimp only [xsto1, xsto2, xkill, xget, xset, gd_0, gd_s]
  refine xG_c2 1 rfl (by repeat' (first | exact trivial | assumption | exact xob_b rfl | exact xal_b rfl | (apply And.intro) | decide)) rfl rfl (by decide) cw_X1_ropeAt (d' := d - 1) (e_ropeAt hr hr2) (by omega) ?_
  rintro v M' ⟨hv, hM⟩
  subst M'
  rcases hv with ⟨rfl, hnq⟩ | ⟨q, hq, hiq, rfl⟩
  · dsimp only [Option.toList, List.cons_append, List.nil_append]
    refine xG_run 4 rfl (by repeat' (first | exact trivial | assumption | exact xob_b rfl | exact xal_b rfl | (apply And.intro) | decide)) ?_
    try dsimp only [xsto1, xsto2, xkill, xget, xset, gd_0, gd_s]
    refine r2_i rfl rfl ?_
    first
      | exact ⟨Or.inr ⟨fun ⟨q9, a1, a2⟩ => hnq (by rw [a2]; exact inI a1 (by omega)), rfl⟩, kFr_r⟩
      | (refine ⟨Or.inl ⟨q, hq, hiq, ?_⟩, kFr_r⟩
         unfold afV
         rw [if_pos (Or.inl (by rw [← (r_q hm hq).1 5 (by omega)]; exact h20))]; done)
      | (refine ⟨Or.inl ⟨q, hq, hiq, ?_⟩, kFr_b hB1⟩
         unfold afV
         rw [if_pos (Or.inr (Decidable.not_not.mp h38))]; done)
      | (refine ⟨Or.inl ⟨q, hq, rfl, ?_⟩, hkF⟩
         unfold afV
         rw [if_neg (fun z => z.elim (fun y => y hhow) h38)]
         first
           | (rw [if_neg h134]; done)
           | (rw [if_pos (Decidable.not_not.mp h134)]; done))
  · dsimp only [Option.toList, List.cons_append, List.nil_append]
    have hxq : xob (16 + q) 5 182 := xob_r1 (by omega)
    refine xG_run 5 rfl (by repeat' (first | exact trivial | assumption | exact xob_b rfl | exact xal_b rfl | (apply And.intro) | decide)) ?_
    try dsimp only [xsto1, xsto2, xkill, xget, xset, gd_0, gd_s]
    refine xG_br rfl (fun h20 => ?_) (fun h20 => ?_)
    · refine xG_run 4 rfl (by repeat' (first | exact trivial | assumption | exact xob_b rfl | exact xal_b rfl | (apply And.intro) | decide)) ?_
      try dsimp only [xsto1, xsto2, xkill, xget, xset, gd_0, gd_s]
      refine xG_br rfl (fun h38 => ?_) (fun h38 => ?_)
      · first
          | (exfalso; exact h38 rfl)
          | (refine xG_run 2 rfl (by repeat' (first | exact trivial | assumption | exact xob_b rfl | exact xal_b rfl | (apply And.intro) | decide)) ?_
             try dsimp only [xsto1, xsto2, xkill, xget, xset, gd_0, gd_s]
             refine xG_c2 1 rfl (by repeat' (first | exact trivial | assumption | exact xob_b rfl | exact xal_b rfl | (apply And.intro) | decide)) rfl rfl (by decide) cw_X5_pullAt (d' := d - 1) (e_pullAt hxq) (by omega) ?_
             rintro v M9 ⟨rfl, hM9⟩
             subst M9
             dsimp only [Option.toList, List.cons_append, List.nil_append]
             refine xG_run 8 rfl (by repeat' (first | exact trivial | assumption | exact xob_b rfl | exact xal_b rfl | (apply And.intro) | decide)) ?_
             try dsimp only [xsto1, xsto2, xkill, xget, xset, gd_0, gd_s]
             refine xG_run 4 rfl (by repeat' (first | exact trivial | assumption | exact xob_b rfl | exact xal_b rfl | (apply And.intro) | decide)) ?_
             try dsimp only [xsto1, xsto2, xkill, xget, xset, gd_0, gd_s]
             refine xG_c2 1 rfl (by repeat' (first | exact trivial | assumption | exact xob_b rfl | exact xal_b rfl | (apply And.intro) | decide)) rfl rfl (by decide) cw_X1_takeFrom (d' := d - 1) (e_take28_1 (by omega)) (by omega) ?_
             rintro v M9 ⟨rfl, hM9⟩
             subst M9
             dsimp only [Option.toList, List.cons_append, List.nil_append]
             refine xG_run 4 rfl (by repeat' (first | exact trivial | assumption | exact xob_b rfl | exact xal_b rfl | (apply And.intro) | decide)) ?_
             try dsimp only [xsto1, xsto2, xkill, xget, xset, gd_0, gd_s]
             have hq9 : (nI q).toNatClampNeg = q := nI_cl (by omega)
             have hxr : xqr 30 182 (nI q) := xqr_n rfl 12 rfl (by omega) (by omega)
             subst hiq
             refine xG_run 1 rfl (by repeat' (first | exact trivial | assumption | exact xob_b rfl | exact xal_b rfl | (apply And.intro) | decide)) ?_
             try dsimp only [xsto1, xsto2, xkill, xget, xset, gd_0, gd_s]
             rw [hq9]
             have hxt : xob (43 + q) 5 182 := xob_r28 (by omega)
             refine xG_run 8 rfl (by repeat' (first | exact trivial | assumption | exact xob_b rfl | exact xal_b rfl | (apply And.intro) | decide)) ?_
             try dsimp only [xsto1, xsto2, xkill, xget, xset, gd_0, gd_s]
             have hmT : mR M1 1 R 167 np nr ng := mR_o hm (fun x k q1 q2 => hB1.1 x k (by omega))
             have hm3 : mR (sI (tkM M1 28 1) (28 + 15 + q) 5 1) 28 (afR R q 0) 167 np nr ng := mR_R (mR_rope (k := 5) (w := 1) (mR_tk (by omega) hmT) hq (Or.inr (Or.inr ⟨rfl, by decide, by decide⟩))) (fun _ => rfl)
             have hm3 : mR (sI (tkM M1 28 1) (43 + q) 5 1) 28 (afR R q 0) 167 np nr ng := by rw [show 43 + q = 28 + 15 + q by omega]; exact hm3
             refine xG_c2 3 rfl (by repeat' (first | exact trivial | assumption | exact xob_b rfl | exact xal_b rfl | (apply And.intro) | decide)) rfl rfl (by decide) cw_X0_load (d' := d - 1) (e_load28 (np := np) (nr := nr) hm3.2.1.1 hn2 hm3.2.2.1.1 hr2 (fun i hi => r_sh hm3 hi) (by omega)) (by omega) ?_
             rintro v M4 ⟨pl, rl, c, e, rfl, hg, -, -, hs, ht, hB4, hp4, hB5⟩
             have hBL := BL_ld hn2 hr2 hg hs ht hB4 hB5
             dsimp only [Option.toList, List.cons_append, List.nil_append]
             refine xG_run 8 rfl (by repeat' (first | exact trivial | assumption | exact xob_b rfl | exact xal_b rfl | (apply And.intro) | decide)) ?_
             try dsimp only [xsto1, xsto2, xkill, xget, xset, gd_0, gd_s]
             refine xG_run 2 rfl (by repeat' (first | exact trivial | assumption | exact xob_b rfl | exact xal_b rfl | (apply And.intro) | decide)) ?_
             try dsimp only [xsto1, xsto2, xkill, xget, xset, gd_0, gd_s]
             have hk4 : ∀ x k, x < 28 ∧ 1 ≤ x → gI M4 x k = gI M x k := fun x k q1 => (hB4.1 x k (by omega)).trans ((gI_ne (by omega)).trans ((tk_out (by omega) (by omega)).trans (hB1.1 x k (by omega))))
             have hbi := stN_bi (F := rAll R np nr) (mo := 300) (by omega) (show ¬ rSt R np nr = 1000 from h38)
             have hbi : bi 300 (rSt R np nr) := hbi
             have hmT : mR M1 1 R 167 np nr ng := mR_o hm (fun x k q1 q2 => hB1.1 x k (by omega))
             have ePl : cP M1 (16 + q) (rSt R np nr) = rP R q (rSt R np nr) := q_P hmT hq hbi
             have eAr : gI M1 (16 + q) 6 = rA R q (rH R q) := (r_q hmT hq).2
             have eSd : gI M4 (16 + q) 1 = rr R q 1 := (hk4 _ _ (by omega)).trans ((r_q hm hq).1 1 (by omega))
             rw [ePl, eAr, eSd]
             have eJ : (rr R q 1).toInt64 * ((rP R q (rSt R np nr) / 2).toInt64 * (rA R q (rH R q)).toInt64) = jkV R q (rSt R np nr) := by unfold jkV; rw [Int64.mul_assoc]
             rw [eJ]
             refine xG_run 4 rfl (by repeat' (first | exact trivial | assumption | exact xob_b rfl | exact xal_b rfl | (apply And.intro) | decide)) ?_
             try dsimp only [xsto1, xsto2, xkill, xget, xset, gd_0, gd_s]
             have hBL5 : BL (sJ M4 123 5 (gJ M4 123 5 - jkV R q (rSt R np nr))) (-1) (-1) np nr := BL_u hBL hn2 hr2 (fun _ _ _ _ => rfl) (fun _ _ _ _ => rfl) rfl ⟨rfl, rfl⟩ (fun t => gJ_ne (Or.inl (by decide))) (fun _ => ⟨rfl, rfl⟩)
             have hp5 : gJ (sJ M4 123 5 (gJ M4 123 5 - jkV R q (rSt R np nr))) 123 5 = cPs (sJ M4 123 5 (gJ M4 123 5 - jkV R q (rSt R np nr))) np - jkV R q (rSt R np nr) := by
               rw [gJ_self, hp4]
               congr 1
               exact (cPs_c (M := sI (tkM M1 28 1) (43 + q) 5 1) (M' := sJ M4 123 5 (gJ M4 123 5 - jkV R q (rSt R np nr))) hn2 (fun i k hi => hB4.1 _ _ (by omega)) (fun k => hB4.1 _ _ (by omega)) (fun k => hB4.1 _ _ (by omega))).symm
             have hm5 : mR (sJ M4 123 5 (gJ M4 123 5 - jkV R q (rSt R np nr))) 28 (afR R q (jkV R q (rSt R np nr))) 167 np nr ng := mR_R (mR_C hm3 (fun k hk => hB4.1 _ _ (by omega)) (fun k => hB4.1 _ _ (by omega)) (fun k => hB4.1 _ _ (by omega)) (fun p k hp => hB4.1 _ _ (by omega)) (fun r k hr => hB4.1 _ _ (by omega))) (fun _ => rfl)
             have eS := stN_x hm5 (gJ_self _ _ _ _) (mo := 300) (by omega)
             have eS : stN (fun l => cAll (sJ M4 123 5 (gJ M4 123 5 - jkV R q (rSt R np nr))) 28 np nr l - jkV R q (rSt R np nr)) 300 = rSt (afR R q (jkV R q (rSt R np nr))) np nr := eS
             have hkF : kFr M (sJ M4 123 5 (gJ M4 123 5 - jkV R q (rSt R np nr))) := kFr_t (kFr_b hB1) (kFr_t kFr_tk (kFr_t (kFr_i (by omega)) (kFr_t (kFr_b hB4) (kFr_j (by omega)))))
             refine xG_c2 1 rfl (by repeat' (first | exact trivial | assumption | exact xob_b rfl | exact xal_b rfl | (apply And.intro) | decide)) rfl rfl (by decide) cw_X0_lean (d' := d - 1) (e_leanB (mo := 300) hBL5 hn2 hr2 hp5 (by omega) (by omega)) (by omega) ?_
             rintro v M' ⟨rfl, hM⟩
             subst M'
             dsimp only [Option.toList, List.cons_append, List.nil_append]
             refine xG_run 1 rfl (by repeat' (first | exact trivial | assumption | exact xob_b rfl | exact xal_b rfl | (apply And.intro) | decide)) ?_
             try dsimp only [xsto1, xsto2, xkill, xget, xset, gd_0, gd_s]
             rw [eS]
             refine xG_run 2 rfl (by repeat' (first | exact trivial | assumption | exact xob_b rfl | exact xal_b rfl | (apply And.intro) | decide)) ?_
             try dsimp only [xsto1, xsto2, xkill, xget, xset, gd_0, gd_s]
             refine xG_br rfl (fun h134 => ?_) (fun h134 => ?_)
             · refine xG_run 1 rfl (by repeat' (first | exact trivial | assumption | exact xob_b rfl | exact xal_b rfl | (apply And.intro) | decide)) ?_
               try dsimp only [xsto1, xsto2, xkill, xget, xset, gd_0, gd_s]
               refine r2_i rfl rfl ?_
               first
                 | exact ⟨Or.inr ⟨fun ⟨q9, a1, a2⟩ => hnq (by rw [a2]; exact inI a1 (by omega)), rfl⟩, kFr_r⟩
                 | (refine ⟨Or.inl ⟨q, hq, hiq, ?_⟩, kFr_r⟩
                    unfold afV
                    rw [if_pos (Or.inl (by rw [← (r_q hm hq).1 5 (by omega)]; exact h20))]; done)
                 | (refine ⟨Or.inl ⟨q, hq, hiq, ?_⟩, kFr_b hB1⟩
                    unfold afV
                    rw [if_pos (Or.inr (Decidable.not_not.mp h38))]; done)
                 | (refine ⟨Or.inl ⟨q, hq, rfl, ?_⟩, hkF⟩
                    unfold afV
                    rw [if_neg (fun z => z.elim (fun y => y hhow) h38)]
                    first
                      | (rw [if_neg h134]; done)
                      | (rw [if_pos (Decidable.not_not.mp h134)]; done))
             · refine xG_run 2 rfl (by repeat' (first | exact trivial | assumption | exact xob_b rfl | exact xal_b rfl | (apply And.intro) | decide)) ?_
               try dsimp only [xsto1, xsto2, xkill, xget, xset, gd_0, gd_s]
               refine r2_i rfl rfl ?_
               first
                 | exact ⟨Or.inr ⟨fun ⟨q9, a1, a2⟩ => hnq (by rw [a2]; exact inI a1 (by omega)), rfl⟩, kFr_r⟩
                 | (refine ⟨Or.inl ⟨q, hq, hiq, ?_⟩, kFr_r⟩
                    unfold afV
                    rw [if_pos (Or.inl (by rw [← (r_q hm hq).1 5 (by omega)]; exact h20))]; done)
                 | (refine ⟨Or.inl ⟨q, hq, hiq, ?_⟩, kFr_b hB1⟩
                    unfold afV
                    rw [if_pos (Or.inr (Decidable.not_not.mp h38))]; done)
                 | (refine ⟨Or.inl ⟨q, hq, rfl, ?_⟩, hkF⟩
                    unfold afV
                    rw [if_neg (fun z => z.elim (fun y => y hhow) h38)]
                    first
                      | (rw [if_neg h134]; done)
                      | (rw [if_pos (Decidable.not_not.mp h134)]; done)))
      · first
          | (exfalso; exact h38 rfl)
          | (refine xG_run 1 rfl (by repeat' (first | exact trivial | assumption | exact xob_b rfl | exact xal_b rfl | (apply And.intro) | decide)) ?_
             try dsimp only [xsto1, xsto2, xkill, xget, xset, gd_0, gd_s]
             refine r2_i rfl rfl ?_
             first
               | exact ⟨Or.inr ⟨fun ⟨q9, a1, a2⟩ => hnq (by rw [a2]; exact inI a1 (by omega)), rfl⟩, kFr_r⟩
               | (refine ⟨Or.inl ⟨q, hq, hiq, ?_⟩, kFr_r⟩
                  unfold afV
                  rw [if_pos (Or.inl (by rw [← (r_q hm hq).1 5 (by omega)]; exact h20))]; done)
               | (refine ⟨Or.inl ⟨q, hq, hiq, ?_⟩, kFr_b hB1⟩
                  unfold afV
                  rw [if_pos (Or.inr (Decidable.not_not.mp h38))]; done)
               | (refine ⟨Or.inl ⟨q, hq, rfl, ?_⟩, hkF⟩
                  unfold afV
                  rw [if_neg (fun z => z.elim (fun y => y hhow) h38)]
                  first
                    | (rw [if_neg h134]; done)
                    | (rw [if_pos (Decidable.not_not.mp h134)]; done)))
    · have hhow : rr R q 5 = 0 := by rw [← (r_q hm hq).1 5 (by omega)]; exact Decidable.not_not.mp h20
      refine xG_run 1 rfl (by repeat' (first | exact trivial | assumption | exact xob_b rfl | exact xal_b rfl | (apply And.intro) | decide)) ?_
      try dsimp only [xsto1, xsto2, xkill, xget, xset, gd_0, gd_s]
      refine xG_c2 0 rfl (by repeat' (first | exact trivial | assumption | exact xob_b rfl | exact xal_b rfl | (apply And.intro) | decide)) rfl rfl (by decide) cw_X11_leanNow (d' := d - 1) (e_leanNow hn hn2 hr hr2 hsh (by omega)) (by omega) ?_
      rintro v M1 ⟨rfl, hB1⟩
      rw [hL]
      dsimp only [Option.toList, List.cons_append, List.nil_append]
      refine xG_run 4 rfl (by repeat' (first | exact trivial | assumption | exact xob_b rfl | exact xal_b rfl | (apply And.intro) | decide)) ?_
      try dsimp only [xsto1, xsto2, xkill, xget, xset, gd_0, gd_s]
      refine xG_br rfl (fun h38 => ?_) (fun h38 => ?_)
      · first
          | (exfalso; exact h38 rfl)
          | (refine xG_run 2 rfl (by repeat' (first | exact trivial | assumption | exact xob_b rfl | exact xal_b rfl | (apply And.intro) | decide)) ?_
             try dsimp only [xsto1, xsto2, xkill, xget, xset, gd_0, gd_s]
             refine xG_c2 1 rfl (by repeat' (first | exact trivial | assumption | exact xob_b rfl | exact xal_b rfl | (apply And.intro) | decide)) rfl rfl (by decide) cw_X5_pullAt (d' := d - 1) (e_pullAt hxq) (by omega) ?_
             rintro v M9 ⟨rfl, hM9⟩
             subst M9
             dsimp only [Option.toList, List.cons_append, List.nil_append]
             refine xG_run 8 rfl (by repeat' (first | exact trivial | assumption | exact xob_b rfl | exact xal_b rfl | (apply And.intro) | decide)) ?_
             try dsimp only [xsto1, xsto2, xkill, xget, xset, gd_0, gd_s]
             refine xG_run 4 rfl (by repeat' (first | exact trivial | assumption | exact xob_b rfl | exact xal_b rfl | (apply And.intro) | decide)) ?_
             try dsimp only [xsto1, xsto2, xkill, xget, xset, gd_0, gd_s]
             refine xG_c2 1 rfl (by repeat' (first | exact trivial | assumption | exact xob_b rfl | exact xal_b rfl | (apply And.intro) | decide)) rfl rfl (by decide) cw_X1_takeFrom (d' := d - 1) (e_take28_1 (by omega)) (by omega) ?_
             rintro v M9 ⟨rfl, hM9⟩
             subst M9
             dsimp only [Option.toList, List.cons_append, List.nil_append]
             refine xG_run 4 rfl (by repeat' (first | exact trivial | assumption | exact xob_b rfl | exact xal_b rfl | (apply And.intro) | decide)) ?_
             try dsimp only [xsto1, xsto2, xkill, xget, xset, gd_0, gd_s]
             have hq9 : (nI q).toNatClampNeg = q := nI_cl (by omega)
             have hxr : xqr 30 182 (nI q) := xqr_n rfl 12 rfl (by omega) (by omega)
             subst hiq
             refine xG_run 1 rfl (by repeat' (first | exact trivial | assumption | exact xob_b rfl | exact xal_b rfl | (apply And.intro) | decide)) ?_
             try dsimp only [xsto1, xsto2, xkill, xget, xset, gd_0, gd_s]
             rw [hq9]
             have hxt : xob (43 + q) 5 182 := xob_r28 (by omega)
             refine xG_run 8 rfl (by repeat' (first | exact trivial | assumption | exact xob_b rfl | exact xal_b rfl | (apply And.intro) | decide)) ?_
             try dsimp only [xsto1, xsto2, xkill, xget, xset, gd_0, gd_s]
             have hmT : mR M1 1 R 167 np nr ng := mR_o hm (fun x k q1 q2 => hB1.1 x k (by omega))
             have hm3 : mR (sI (tkM M1 28 1) (28 + 15 + q) 5 1) 28 (afR R q 0) 167 np nr ng := mR_R (mR_rope (k := 5) (w := 1) (mR_tk (by omega) hmT) hq (Or.inr (Or.inr ⟨rfl, by decide, by decide⟩))) (fun _ => rfl)
             have hm3 : mR (sI (tkM M1 28 1) (43 + q) 5 1) 28 (afR R q 0) 167 np nr ng := by rw [show 43 + q = 28 + 15 + q by omega]; exact hm3
             refine xG_c2 3 rfl (by repeat' (first | exact trivial | assumption | exact xob_b rfl | exact xal_b rfl | (apply And.intro) | decide)) rfl rfl (by decide) cw_X0_load (d' := d - 1) (e_load28 (np := np) (nr := nr) hm3.2.1.1 hn2 hm3.2.2.1.1 hr2 (fun i hi => r_sh hm3 hi) (by omega)) (by omega) ?_
             rintro v M4 ⟨pl, rl, c, e, rfl, hg, -, -, hs, ht, hB4, hp4, hB5⟩
             have hBL := BL_ld hn2 hr2 hg hs ht hB4 hB5
             dsimp only [Option.toList, List.cons_append, List.nil_append]
             refine xG_run 8 rfl (by repeat' (first | exact trivial | assumption | exact xob_b rfl | exact xal_b rfl | (apply And.intro) | decide)) ?_
             try dsimp only [xsto1, xsto2, xkill, xget, xset, gd_0, gd_s]
             refine xG_run 2 rfl (by repeat' (first | exact trivial | assumption | exact xob_b rfl | exact xal_b rfl | (apply And.intro) | decide)) ?_
             try dsimp only [xsto1, xsto2, xkill, xget, xset, gd_0, gd_s]
             have hk4 : ∀ x k, x < 28 ∧ 1 ≤ x → gI M4 x k = gI M x k := fun x k q1 => (hB4.1 x k (by omega)).trans ((gI_ne (by omega)).trans ((tk_out (by omega) (by omega)).trans (hB1.1 x k (by omega))))
             have hbi := stN_bi (F := rAll R np nr) (mo := 300) (by omega) (show ¬ rSt R np nr = 1000 from h38)
             have hbi : bi 300 (rSt R np nr) := hbi
             have hmT : mR M1 1 R 167 np nr ng := mR_o hm (fun x k q1 q2 => hB1.1 x k (by omega))
             have ePl : cP M1 (16 + q) (rSt R np nr) = rP R q (rSt R np nr) := q_P hmT hq hbi
             have eAr : gI M1 (16 + q) 6 = rA R q (rH R q) := (r_q hmT hq).2
             have eSd : gI M4 (16 + q) 1 = rr R q 1 := (hk4 _ _ (by omega)).trans ((r_q hm hq).1 1 (by omega))
             rw [ePl, eAr, eSd]
             have eJ : (rr R q 1).toInt64 * ((rP R q (rSt R np nr) / 2).toInt64 * (rA R q (rH R q)).toInt64) = jkV R q (rSt R np nr) := by unfold jkV; rw [Int64.mul_assoc]
             rw [eJ]
             refine xG_run 4 rfl (by repeat' (first | exact trivial | assumption | exact xob_b rfl | exact xal_b rfl | (apply And.intro) | decide)) ?_
             try dsimp only [xsto1, xsto2, xkill, xget, xset, gd_0, gd_s]
             have hBL5 : BL (sJ M4 123 5 (gJ M4 123 5 - jkV R q (rSt R np nr))) (-1) (-1) np nr := BL_u hBL hn2 hr2 (fun _ _ _ _ => rfl) (fun _ _ _ _ => rfl) rfl ⟨rfl, rfl⟩ (fun t => gJ_ne (Or.inl (by decide))) (fun _ => ⟨rfl, rfl⟩)
             have hp5 : gJ (sJ M4 123 5 (gJ M4 123 5 - jkV R q (rSt R np nr))) 123 5 = cPs (sJ M4 123 5 (gJ M4 123 5 - jkV R q (rSt R np nr))) np - jkV R q (rSt R np nr) := by
               rw [gJ_self, hp4]
               congr 1
               exact (cPs_c (M := sI (tkM M1 28 1) (43 + q) 5 1) (M' := sJ M4 123 5 (gJ M4 123 5 - jkV R q (rSt R np nr))) hn2 (fun i k hi => hB4.1 _ _ (by omega)) (fun k => hB4.1 _ _ (by omega)) (fun k => hB4.1 _ _ (by omega))).symm
             have hm5 : mR (sJ M4 123 5 (gJ M4 123 5 - jkV R q (rSt R np nr))) 28 (afR R q (jkV R q (rSt R np nr))) 167 np nr ng := mR_R (mR_C hm3 (fun k hk => hB4.1 _ _ (by omega)) (fun k => hB4.1 _ _ (by omega)) (fun k => hB4.1 _ _ (by omega)) (fun p k hp => hB4.1 _ _ (by omega)) (fun r k hr => hB4.1 _ _ (by omega))) (fun _ => rfl)
             have eS := stN_x hm5 (gJ_self _ _ _ _) (mo := 300) (by omega)
             have eS : stN (fun l => cAll (sJ M4 123 5 (gJ M4 123 5 - jkV R q (rSt R np nr))) 28 np nr l - jkV R q (rSt R np nr)) 300 = rSt (afR R q (jkV R q (rSt R np nr))) np nr := eS
             have hkF : kFr M (sJ M4 123 5 (gJ M4 123 5 - jkV R q (rSt R np nr))) := kFr_t (kFr_b hB1) (kFr_t kFr_tk (kFr_t (kFr_i (by omega)) (kFr_t (kFr_b hB4) (kFr_j (by omega)))))
             refine xG_c2 1 rfl (by repeat' (first | exact trivial | assumption | exact xob_b rfl | exact xal_b rfl | (apply And.intro) | decide)) rfl rfl (by decide) cw_X0_lean (d' := d - 1) (e_leanB (mo := 300) hBL5 hn2 hr2 hp5 (by omega) (by omega)) (by omega) ?_
             rintro v M' ⟨rfl, hM⟩
             subst M'
             dsimp only [Option.toList, List.cons_append, List.nil_append]
             refine xG_run 1 rfl (by repeat' (first | exact trivial | assumption | exact xob_b rfl | exact xal_b rfl | (apply And.intro) | decide)) ?_
             try dsimp only [xsto1, xsto2, xkill, xget, xset, gd_0, gd_s]
             rw [eS]
             refine xG_run 2 rfl (by repeat' (first | exact trivial | assumption | exact xob_b rfl | exact xal_b rfl | (apply And.intro) | decide)) ?_
             try dsimp only [xsto1, xsto2, xkill, xget, xset, gd_0, gd_s]
             refine xG_br rfl (fun h134 => ?_) (fun h134 => ?_)
             · refine xG_run 1 rfl (by repeat' (first | exact trivial | assumption | exact xob_b rfl | exact xal_b rfl | (apply And.intro) | decide)) ?_
               try dsimp only [xsto1, xsto2, xkill, xget, xset, gd_0, gd_s]
               refine r2_i rfl rfl ?_
               first
                 | exact ⟨Or.inr ⟨fun ⟨q9, a1, a2⟩ => hnq (by rw [a2]; exact inI a1 (by omega)), rfl⟩, kFr_r⟩
                 | (refine ⟨Or.inl ⟨q, hq, hiq, ?_⟩, kFr_r⟩
                    unfold afV
                    rw [if_pos (Or.inl (by rw [← (r_q hm hq).1 5 (by omega)]; exact h20))]; done)
                 | (refine ⟨Or.inl ⟨q, hq, hiq, ?_⟩, kFr_b hB1⟩
                    unfold afV
                    rw [if_pos (Or.inr (Decidable.not_not.mp h38))]; done)
                 | (refine ⟨Or.inl ⟨q, hq, rfl, ?_⟩, hkF⟩
                    unfold afV
                    rw [if_neg (fun z => z.elim (fun y => y hhow) h38)]
                    first
                      | (rw [if_neg h134]; done)
                      | (rw [if_pos (Decidable.not_not.mp h134)]; done))
             · refine xG_run 2 rfl (by repeat' (first | exact trivial | assumption | exact xob_b rfl | exact xal_b rfl | (apply And.intro) | decide)) ?_
               try dsimp only [xsto1, xsto2, xkill, xget, xset, gd_0, gd_s]
               refine r2_i rfl rfl ?_
               first
                 | exact ⟨Or.inr ⟨fun ⟨q9, a1, a2⟩ => hnq (by rw [a2]; exact inI a1 (by omega)), rfl⟩, kFr_r⟩
                 | (refine ⟨Or.inl ⟨q, hq, hiq, ?_⟩, kFr_r⟩
                    unfold afV
                    rw [if_pos (Or.inl (by rw [← (r_q hm hq).1 5 (by omega)]; exact h20))]; done)
                 | (refine ⟨Or.inl ⟨q, hq, hiq, ?_⟩, kFr_b hB1⟩
                    unfold afV
                    rw [if_pos (Or.inr (Decidable.not_not.mp h38))]; done)
                 | (refine ⟨Or.inl ⟨q, hq, rfl, ?_⟩, hkF⟩
                    unfold afV
                    rw [if_neg (fun z => z.elim (fun y => y hhow) h38)]
                    first
                      | (rw [if_neg h134]; done)
                      | (rw [if_pos (Decidable.not_not.mp h134)]; done)))
      · first
          | (exfalso; exact h38 rfl)
          | (refine xG_run 1 rfl (by repeat' (first | exact trivial | assumption | exact xob_b rfl | exact xal_b rfl | (apply And.intro) | decide)) ?_
             try dsimp only [xsto1, xsto2, xkill, xget, xset, gd_0, gd_s]
             refine r2_i rfl rfl ?_
             first
               | exact ⟨Or.inr ⟨fun ⟨q9, a1, a2⟩ => hnq (by rw [a2]; exact inI a1 (by omega)), rfl⟩, kFr_r⟩
               | (refine ⟨Or.inl ⟨q, hq, hiq, ?_⟩, kFr_r⟩
                  unfold afV
                  rw [if_pos (Or.inl (by rw [← (r_q hm hq).1 5 (by omega)]; exact h20))]; done)
               | (refine ⟨Or.inl ⟨q, hq, hiq, ?_⟩, kFr_b hB1⟩
                  unfold afV
                  rw [if_pos (Or.inr (Decidable.not_not.mp h38))]; done)
               | (refine ⟨Or.inl ⟨q, hq, rfl, ?_⟩, hkF⟩
                  unfold afV
                  rw [if_neg (fun z => z.elim (fun y => y hhow) h38)]
                  first
                    | (rw [if_neg h134]; done)
                    | (rw [if_pos (Decidable.not_not.mp h134)]; done)))
