/-! ===== what-if calls of the reference ===== -/
section RH
variable {C R : xM} {m np nr ng : Nat}
theorem rPw (h : mR C m R 167 np nr ng) : ∀ p, p < np → ∃ k, k < 5 ∧ rs R p 1 / 20 = nI k := fun _ hp => r_hw h hp
theorem rQh (h : mR C m R 167 np nr ng) : ∀ q, q < nr → (rr R q 0 = nI (rH R q) ∧ rH R q < 10) ∧ ¬ rs R (rH R q) 1 + rr R q 2 = 0 := fun q hq => ⟨⟨(r_h h hq).1, by have := (r_h h hq).2; have := h.1.1; omega⟩, (r_h0 h hq).1⟩
end RH
/-- what calls that only ask may change of the reference -/
def rkF (M M' : xM) : Prop := (∀ x k, x < 166 ∨ x = 167 ∨ x = 168 ∨ (170 ≤ x ∧ x ≤ 176) → gI M' x k = gI M x k) ∧ gI M' 166 10 = gI M 166 10 ∧ gJ M' 166 18 = gJ M 166 18 ∧ ∀ x k, x < 166 → gJ M' x k = gJ M x k ∧ gP M' x k = gP M x k
theorem rkF_r {M : xM} : rkF M M := ⟨fun _ _ _ => rfl, rfl, rfl, fun _ _ _ => ⟨rfl, rfl⟩⟩
theorem rkF_t {M M' M2 : xM} (h : rkF M M') (h2 : rkF M' M2) : rkF M M2 := ⟨fun x k q => (h2.1 x k q).trans (h.1 x k q), h2.2.1.trans h.2.1, h2.2.2.1.trans h.2.2.1, fun x k q => ⟨(h2.2.2.2 x k q).1.trans (h.2.2.2 x k q).1, (h2.2.2.2 x k q).2.trans (h.2.2.2 x k q).2⟩⟩
theorem rkF_s {M : xM} {k : Nat} {w v : Int32} (h : gI M 167 k = v) : rkF M (sI (sI M 167 k w) 167 k v) := ⟨fun x y _ => by
  rw [sI_sI, gIsI]
  by_cases c : x = 167 ∧ y = k
  · rw [if_pos c, c.1, c.2, h]
  · rw [if_neg c], rfl, rfl, fun _ _ _ => ⟨rfl, rfl⟩⟩
theorem rkF_i {M : xM} {a k : Nat} {v : Int32} (h : (a = 166 ∧ k ≠ 10) ∨ a = 169 ∨ 177 ≤ a) : rkF M (sI M a k v) := ⟨fun x y _ => gI_ne (by omega), gI_ne (by omega), rfl, fun _ _ _ => ⟨rfl, rfl⟩⟩
set_option maxRecDepth 4000 in
theorem e_m_after {κ : xKK} {d : Nat} {M : xM} {np nr ng : Nat} {C : xM} (hm : mR C 1 M 167 np nr ng) (hj0 : gJ M 166 18 = 0) {i : Int32} (hd : 6 ≤ d) : xE2 κ mX12_after d [.ref 166, .int i] M (fun v M' => ((∃ q, q < nr ∧ i = nI q ∧ v = some (.int (afV M np nr q))) ∨ (¬ (∃ q, q < nr ∧ i = nI q) ∧ v = some (.int (-1000000001)))) ∧ rkF M M') := by
  refine xE2_of ci_X12_after cl_X12_after cw_X12_after rfl (L := [some (.ref 166), some (.int i), none, none]) rfl ?_
  have hn := hm.2.1.2
  have hn2 := hm.1.1
  have hr := hm.2.2.1.2
  have hr2 := hm.1.2.1
  have hw := rPw hm
  have hh := rQh hm
  refine xG_run 2 rfl (by repeat' (first | exact trivial | assumption | exact xob_b rfl | exact xal_b rfl | (apply And.intro) | decide)) ?_
  try dsimp only [xsto1, xsto2, xkill, xget, xset, gd_0, gd_s]
  try rw [eJ]
  try rw [e2]
  refine xG_c2 1 rfl (by repeat' (first | exact trivial | assumption | exact xob_b rfl | exact xal_b rfl | (apply And.intro) | decide)) rfl rfl (by decide) cw_X12_isRope (d' := d - 1) (e_isRope hr hr2 (by omega)) (by omega) ?_
  rintro v M' ⟨rfl, hM⟩
  subst M'
  dsimp only [Option.toList, List.cons_append, List.nil_append]
  refine xG_br rfl (fun h5 => ?_) (fun h5 => ?_)
  · have b5 := z1.mp h5
    obtain ⟨q, hq, rfl⟩ := inI_of b5 (by omega)
    have e1 : (70 : Int32) + 6 * nI q + 5 = nI (70 + 6 * q + 5) := ix6 q 5
    have e2 : ((70 : Int32) + 6 * nI q + 5).toNatClampNeg = 70 + 6 * q + 5 := by rw [e1]; exact nI_cl (by omega)
    have hs : xar 167 0 182 ((70 : Int32) + 6 * nI q + 5) := by rw [e1]; exact xar_n rfl 1651 rfl (by omega) (by omega)
    have eJ : (rr M q 1).toInt64 * (rP M q (stN (rAll M np nr) 300) / 2).toInt64 * (rA M q (rH M q)).toInt64 = jkV M q (rSt M np nr) := rfl
    refine xG_run 1 rfl (by repeat' (first | exact trivial | assumption | exact xob_b rfl | exact xal_b rfl | (apply And.intro) | decide)) ?_
    try dsimp only [xsto1, xsto2, xkill, xget, xset, gd_0, gd_s]
    try rw [eJ]
    try rw [e2]
    refine xG_c2 0 rfl (by repeat' (first | exact trivial | assumption | exact xob_b rfl | exact xal_b rfl | (apply And.intro) | decide)) rfl rfl (by decide) cw_X12_standing (d' := d - 1) (e_rstanding hm.2.1.2 hm.1.1 hm.2.2.1.2 hm.1.2.1 (rPw hm) (rQh hm) (by omega)) (by omega) ?_
    rintro v M' ⟨rfl, hM⟩
    subst M'
    dsimp only [Option.toList, List.cons_append, List.nil_append]
    refine xG_run 4 rfl (by repeat' (first | exact trivial | assumption | exact xob_b rfl | exact xal_b rfl | (apply And.intro) | decide)) ?_
    try dsimp only [xsto1, xsto2, xkill, xget, xset, gd_0, gd_s]
    try rw [eJ]
    try rw [e2]
    refine xG_c2 2 rfl (by repeat' (first | exact trivial | assumption | exact xob_b rfl | exact xal_b rfl | (apply And.intro) | decide)) rfl rfl (by decide) cw_X12_rope0 (d' := d - 1) (e_rope0 (p := q) (k := 5) rfl rfl (by omega)) (by omega) ?_
    rintro v M' ⟨rfl, hM⟩
    subst M'
    dsimp only [Option.toList, List.cons_append, List.nil_append]
    refine xG_br rfl (fun h22 => ?_) (fun h22 => ?_)
    · refine xG_run 1 rfl (by repeat' (first | exact trivial | assumption | exact xob_b rfl | exact xal_b rfl | (apply And.intro) | decide)) ?_
      try dsimp only [xsto1, xsto2, xkill, xget, xset, gd_0, gd_s]
      try rw [eJ]
      try rw [e2]
      refine r2_i rfl rfl ?_
      first
        | exact ⟨Or.inr ⟨fun ⟨q9, a1, a2⟩ => b5 (by rw [a2]; exact inI a1 (by omega)), rfl⟩, rkF_r⟩
        | (refine ⟨Or.inl ⟨q, hq, rfl, ?_⟩, rkF_r⟩
           unfold afV
           rw [if_pos (by first | exact Or.inl h22 | exact Or.inr (Decidable.not_not.mp h29))]; done)
        | (have h5 : gI M 167 (70 + 6 * q + 5) = 0 := Decidable.not_not.mp h22
           refine ⟨Or.inl ⟨q, hq, rfl, ?_⟩, ⟨fun x k _ => ?_, ?_, ?_, fun x k hx => ⟨?_, rfl⟩⟩⟩
           · unfold afV
             rw [if_neg (fun z => z.elim h22 h29)]
             first
               | (rw [if_neg (show ¬ rSt (afR M q (jkV M q (rSt M np nr))) np nr = 1000 from h107)]; rfl)
               | (rw [if_pos (show rSt (afR M q (jkV M q (rSt M np nr))) np nr = 1000 from Decidable.not_not.mp h107)]; done)
           · show gI (sI (sI M 167 (70 + 6 * q + 5) 1) 167 (70 + 6 * q + 5) 0) x k = _
             exact (rkF_s (w := 1) h5).1 x k (by assumption)
           · rfl
           · rw [gJ_self, hj0]
           · exact (gJ_ne (Or.inl (by omega))).trans (gJ_ne (Or.inl (by omega))))
    · refine xG_run 2 rfl (by repeat' (first | exact trivial | assumption | exact xob_b rfl | exact xal_b rfl | (apply And.intro) | decide)) ?_
      try dsimp only [xsto1, xsto2, xkill, xget, xset, gd_0, gd_s]
      try rw [eJ]
      try rw [e2]
      refine xG_br rfl (fun h29 => ?_) (fun h29 => ?_)
      · have hm1 : mR (sI C (1 + 15 + q) 5 1) 1 (afR M q (jkV M q (rSt M np nr))) 167 np nr ng := mR_R (mR_rope (k := 5) (w := 1) hm hq (Or.inr (Or.inr ⟨rfl, by decide, by decide⟩))) (fun _ => rfl)
        refine xG_run 4 rfl (by repeat' (first | exact trivial | assumption | exact xob_b rfl | exact xal_b rfl | (apply And.intro) | decide)) ?_
        try dsimp only [xsto1, xsto2, xkill, xget, xset, gd_0, gd_s]
        try rw [eJ]
        try rw [e2]
        refine xG_c2 2 rfl (by repeat' (first | exact trivial | assumption | exact xob_b rfl | exact xal_b rfl | (apply And.intro) | decide)) rfl rfl (by decide) cw_X12_rope0 (d' := d - 1) (e_rope0 (p := q) (k := 1) rfl rfl (by omega)) (by omega) ?_
        rintro v M' ⟨rfl, hM⟩
        subst M'
        dsimp only [Option.toList, List.cons_append, List.nil_append]
        refine xG_run 4 rfl (by repeat' (first | exact trivial | assumption | exact xob_b rfl | exact xal_b rfl | (apply And.intro) | decide)) ?_
        try dsimp only [xsto1, xsto2, xkill, xget, xset, gd_0, gd_s]
        try rw [eJ]
        try rw [e2]
        refine xG_c2 2 rfl (by repeat' (first | exact trivial | assumption | exact xob_b rfl | exact xal_b rfl | (apply And.intro) | decide)) rfl rfl (by decide) cw_X12_pullAt (d' := d - 1) (e_rpull (q := q) (by omega) (hh q hq).1.1 (hh q hq).1.2 (hh q hq).2 (by omega)) (by omega) ?_
        rintro v M' ⟨rfl, hM⟩
        subst M'
        dsimp only [Option.toList, List.cons_append, List.nil_append]
        refine xG_run 6 rfl (by repeat' (first | exact trivial | assumption | exact xob_b rfl | exact xal_b rfl | (apply And.intro) | decide)) ?_
        try dsimp only [xsto1, xsto2, xkill, xget, xset, gd_0, gd_s]
        try rw [eJ]
        try rw [e2]
        refine xG_c2 1 rfl (by repeat' (first | exact trivial | assumption | exact xob_b rfl | exact xal_b rfl | (apply And.intro) | decide)) rfl rfl (by decide) cw_X12_arm (d' := d - 1) (e_rarm (q := q) (h := rH M q) (by omega) (hh q hq).1.1 (hh q hq).1.2 (hh q hq).2 (by omega)) (by omega) ?_
        rintro v M' ⟨rfl, hM⟩
        subst M'
        dsimp only [Option.toList, List.cons_append, List.nil_append]
        refine xG_run 8 rfl (by repeat' (first | exact trivial | assumption | exact xob_b rfl | exact xal_b rfl | (apply And.intro) | decide)) ?_
        try dsimp only [xsto1, xsto2, xkill, xget, xset, gd_0, gd_s]
        try rw [eJ]
        try rw [e2]
        refine xG_run 6 rfl (by repeat' (first | exact trivial | assumption | exact xob_b rfl | exact xal_b rfl | (apply And.intro) | decide)) ?_
        try dsimp only [xsto1, xsto2, xkill, xget, xset, gd_0, gd_s]
        try rw [eJ]
        try rw [e2]
        show xG κ mX12_after _ (78, _, _, afR M q (jkV M q (rSt M np nr)), z2) _
        refine xG_run 1 rfl (by repeat' (first | exact trivial | assumption | exact xob_b rfl | exact xal_b rfl | (apply And.intro) | decide)) ?_
        try dsimp only [xsto1, xsto2, xkill, xget, xset, gd_0, gd_s]
        try rw [eJ]
        try rw [e2]
        refine xG_c2 0 rfl (by repeat' (first | exact trivial | assumption | exact xob_b rfl | exact xal_b rfl | (apply And.intro) | decide)) rfl rfl (by decide) cw_X12_standing (d' := d - 1) (e_rstanding hm1.2.1.2 hm1.1.1 hm1.2.2.1.2 hm1.1.2.1 (rPw hm1) (rQh hm1) (by omega)) (by omega) ?_
        rintro v M' ⟨rfl, hM⟩
        subst M'
        dsimp only [Option.toList, List.cons_append, List.nil_append]
        refine xG_run 8 rfl (by repeat' (first | exact trivial | assumption | exact xob_b rfl | exact xal_b rfl | (apply And.intro) | decide)) ?_
        try dsimp only [xsto1, xsto2, xkill, xget, xset, gd_0, gd_s]
        try rw [eJ]
        try rw [e2]
        refine xG_run 8 rfl (by repeat' (first | exact trivial | assumption | exact xob_b rfl | exact xal_b rfl | (apply And.intro) | decide)) ?_
        try dsimp only [xsto1, xsto2, xkill, xget, xset, gd_0, gd_s]
        try rw [eJ]
        try rw [e2]
        refine xG_run 1 rfl (by repeat' (first | exact trivial | assumption | exact xob_b rfl | exact xal_b rfl | (apply And.intro) | decide)) ?_
        try dsimp only [xsto1, xsto2, xkill, xget, xset, gd_0, gd_s]
        try rw [eJ]
        try rw [e2]
        refine xG_br rfl (fun h107 => ?_) (fun h107 => ?_)
        · refine xG_run 1 rfl (by repeat' (first | exact trivial | assumption | exact xob_b rfl | exact xal_b rfl | (apply And.intro) | decide)) ?_
          try dsimp only [xsto1, xsto2, xkill, xget, xset, gd_0, gd_s]
          try rw [eJ]
          try rw [e2]
          refine r2_i rfl rfl ?_
          first
            | exact ⟨Or.inr ⟨fun ⟨q9, a1, a2⟩ => b5 (by rw [a2]; exact inI a1 (by omega)), rfl⟩, rkF_r⟩
            | (refine ⟨Or.inl ⟨q, hq, rfl, ?_⟩, rkF_r⟩
               unfold afV
               rw [if_pos (by first | exact Or.inl h22 | exact Or.inr (Decidable.not_not.mp h29))]; done)
            | (have h5 : gI M 167 (70 + 6 * q + 5) = 0 := Decidable.not_not.mp h22
               refine ⟨Or.inl ⟨q, hq, rfl, ?_⟩, ⟨fun x k _ => ?_, ?_, ?_, fun x k hx => ⟨?_, rfl⟩⟩⟩
               · unfold afV
                 rw [if_neg (fun z => z.elim h22 h29)]
                 first
                   | (rw [if_neg (show ¬ rSt (afR M q (jkV M q (rSt M np nr))) np nr = 1000 from h107)]; rfl)
                   | (rw [if_pos (show rSt (afR M q (jkV M q (rSt M np nr))) np nr = 1000 from Decidable.not_not.mp h107)]; done)
               · show gI (sI (sI M 167 (70 + 6 * q + 5) 1) 167 (70 + 6 * q + 5) 0) x k = _
                 exact (rkF_s (w := 1) h5).1 x k (by assumption)
               · rfl
               · rw [gJ_self, hj0]
               · exact (gJ_ne (Or.inl (by omega))).trans (gJ_ne (Or.inl (by omega))))
        · refine xG_run 2 rfl (by repeat' (first | exact trivial | assumption | exact xob_b rfl | exact xal_b rfl | (apply And.intro) | decide)) ?_
          try dsimp only [xsto1, xsto2, xkill, xget, xset, gd_0, gd_s]
          try rw [eJ]
          try rw [e2]
          refine r2_i rfl rfl ?_
          first
            | exact ⟨Or.inr ⟨fun ⟨q9, a1, a2⟩ => b5 (by rw [a2]; exact inI a1 (by omega)), rfl⟩, rkF_r⟩
            | (refine ⟨Or.inl ⟨q, hq, rfl, ?_⟩, rkF_r⟩
               unfold afV
               rw [if_pos (by first | exact Or.inl h22 | exact Or.inr (Decidable.not_not.mp h29))]; done)
            | (have h5 : gI M 167 (70 + 6 * q + 5) = 0 := Decidable.not_not.mp h22
               refine ⟨Or.inl ⟨q, hq, rfl, ?_⟩, ⟨fun x k _ => ?_, ?_, ?_, fun x k hx => ⟨?_, rfl⟩⟩⟩
               · unfold afV
                 rw [if_neg (fun z => z.elim h22 h29)]
                 first
                   | (rw [if_neg (show ¬ rSt (afR M q (jkV M q (rSt M np nr))) np nr = 1000 from h107)]; rfl)
                   | (rw [if_pos (show rSt (afR M q (jkV M q (rSt M np nr))) np nr = 1000 from Decidable.not_not.mp h107)]; done)
               · show gI (sI (sI M 167 (70 + 6 * q + 5) 1) 167 (70 + 6 * q + 5) 0) x k = _
                 exact (rkF_s (w := 1) h5).1 x k (by assumption)
               · rfl
               · rw [gJ_self, hj0]
               · exact (gJ_ne (Or.inl (by omega))).trans (gJ_ne (Or.inl (by omega))))
      · refine xG_run 1 rfl (by repeat' (first | exact trivial | assumption | exact xob_b rfl | exact xal_b rfl | (apply And.intro) | decide)) ?_
        try dsimp only [xsto1, xsto2, xkill, xget, xset, gd_0, gd_s]
        try rw [eJ]
        try rw [e2]
        refine r2_i rfl rfl ?_
        first
          | exact ⟨Or.inr ⟨fun ⟨q9, a1, a2⟩ => b5 (by rw [a2]; exact inI a1 (by omega)), rfl⟩, rkF_r⟩
          | (refine ⟨Or.inl ⟨q, hq, rfl, ?_⟩, rkF_r⟩
             unfold afV
             rw [if_pos (by first | exact Or.inl h22 | exact Or.inr (Decidable.not_not.mp h29))]; done)
          | (have h5 : gI M 167 (70 + 6 * q + 5) = 0 := Decidable.not_not.mp h22
             refine ⟨Or.inl ⟨q, hq, rfl, ?_⟩, ⟨fun x k _ => ?_, ?_, ?_, fun x k hx => ⟨?_, rfl⟩⟩⟩
             · unfold afV
               rw [if_neg (fun z => z.elim h22 h29)]
               first
                 | (rw [if_neg (show ¬ rSt (afR M q (jkV M q (rSt M np nr))) np nr = 1000 from h107)]; rfl)
                 | (rw [if_pos (show rSt (afR M q (jkV M q (rSt M np nr))) np nr = 1000 from Decidable.not_not.mp h107)]; done)
             · show gI (sI (sI M 167 (70 + 6 * q + 5) 1) 167 (70 + 6 * q + 5) 0) x k = _
               exact (rkF_s (w := 1) h5).1 x k (by assumption)
             · rfl
             · rw [gJ_self, hj0]
             · exact (gJ_ne (Or.inl (by omega))).trans (gJ_ne (Or.inl (by omega))))
  · have b5 := z0.mp (Decidable.not_not.mp h5)
    refine xG_run 1 rfl (by repeat' (first | exact trivial | assumption | exact xob_b rfl | exact xal_b rfl | (apply And.intro) | decide)) ?_
    try dsimp only [xsto1, xsto2, xkill, xget, xset, gd_0, gd_s]
    try rw [eJ]
    try rw [e2]
    refine r2_i rfl rfl ?_
    first
      | exact ⟨Or.inr ⟨fun ⟨q9, a1, a2⟩ => b5 (by rw [a2]; exact inI a1 (by omega)), rfl⟩, rkF_r⟩
      | (refine ⟨Or.inl ⟨q, hq, rfl, ?_⟩, rkF_r⟩
         unfold afV
         rw [if_pos (by first | exact Or.inl h22 | exact Or.inr (Decidable.not_not.mp h29))]; done)
      | (have h5 : gI M 167 (70 + 6 * q + 5) = 0 := Decidable.not_not.mp h22
         refine ⟨Or.inl ⟨q, hq, rfl, ?_⟩, ⟨fun x k _ => ?_, ?_, ?_, fun x k hx => ⟨?_, rfl⟩⟩⟩
         · unfold afV
           rw [if_neg (fun z => z.elim h22 h29)]
           first
             | (rw [if_neg (show ¬ rSt (afR M q (jkV M q (rSt M np nr))) np nr = 1000 from h107)]; rfl)
             | (rw [if_pos (show rSt (afR M q (jkV M q (rSt M np nr))) np nr = 1000 from Decidable.not_not.mp h107)]; done)
         · show gI (sI (sI M 167 (70 + 6 * q + 5) 1) 167 (70 + 6 * q + 5) 0) x k = _
           exact (rkF_s (w := 1) h5).1 x k (by assumption)
         · rfl
         · rw [gJ_self, hj0]
         · exact (gJ_ne (Or.inl (by omega))).trans (gJ_ne (Or.inl (by omega))))
