/-! what holds while the class looks for an order -/
def lnF (M M' : xM) : Prop := (∀ x k, ¬ (k = 4 ∧ 43 ≤ x ∧ x < 55) → gI M' x k = gI M x k) ∧ (∀ x k, gJ M' x k = gJ M x k) ∧ ∀ x k, gP M' x k = gP M x k
theorem lnF_r {M : xM} : lnF M M := ⟨fun _ _ _ => rfl, fun _ _ => rfl, fun _ _ => rfl⟩
theorem lnF_t {M M' M2 : xM} (h : lnF M M') (h2 : lnF M' M2) : lnF M M2 := ⟨fun x k q => (h2.1 x k q).trans (h.1 x k q), fun x k => (h2.2.1 x k).trans (h.2.1 x k), fun x k => (h2.2.2 x k).trans (h.2.2 x k)⟩
theorem lnF_i {M : xM} {r : Nat} {v : Int32} (h : r < 12) : lnF M (sI M (43 + r) 4 v) := ⟨fun x y z => gI_ne (by omega), fun _ _ => rfl, fun _ _ => rfl⟩
def LN (R : xM) (np nr ng U mo : Nat) (t mp : Int32) (M : xM) : Prop := (∃ Mx, mR Mx 28 R 167 np nr ng ∧ ∀ x k, ¬ (k = 4 ∧ 43 ≤ x ∧ x < 55) → gI M x k = gI Mx x k) ∧ (gI M 136 3 = nI (bK U nr) ∧ gI M 136 4 = t ∧ gI M 136 5 = nI mo ∧ gI M 136 6 = mp) ∧ (∀ r, r < nr → U.testBit r = true → gP M 137 (bK U r) = some (43 + r) ∧ gI M 138 (bK U r) = nI r ∧ gI M 139 (bK U r) = rr R r 4) ∧ BL M 0 (nI U) np nr ∧ gJ M 123 5 = cPs M np ∧ ∀ r, r < nr → ¬ U.testBit r = true → gI M (43 + r) 4 = rr R r 4
theorem LN_w {R M M' : xM} {np nr ng U mo : Nat} {t mp : Int32} (h : LN R np nr ng U mo t mp M) (f : lnF M M') (hu : ∀ r, r < nr → ¬ U.testBit r = true → gI M' (43 + r) 4 = rr R r 4) : LN R np nr ng U mo t mp M' := by
  obtain ⟨⟨Mx, hx, hx2⟩, ⟨a1, a2, a3, a4⟩, a5, a6, a7, a8⟩ := h
  have hn2 := hx.1.1
  have hr2 := hx.1.2.1
  refine ⟨⟨Mx, hx, fun x k q => (f.1 x k q).trans (hx2 x k q)⟩, ⟨(f.1 _ _ (by omega)).trans a1, (f.1 _ _ (by omega)).trans a2, (f.1 _ _ (by omega)).trans a3, (f.1 _ _ (by omega)).trans a4⟩, fun r hr hb => ?_, ?_, ?_, hu⟩
  · obtain ⟨b1, b2, b3⟩ := a5 r hr hb
    exact ⟨(f.2.2 _ _).trans b1, (f.1 _ _ (by omega)).trans b2, (f.1 _ _ (by omega)).trans b3⟩
  · refine BL_u a6 hn2 hr2 (fun i k hi _ => f.1 _ _ (by omega)) (fun i k hi hb => ?_) (f.1 _ _ (by omega)) ⟨f.1 _ _ (by omega), f.1 _ _ (by omega)⟩ (fun t => f.2.1 _ _) (fun k => ⟨f.2.2 _ _, f.2.2 _ _⟩)
    by_cases c : k = 4
    · subst c
      have hb2 : ¬ U.testBit i = true := fun q => by
        have := (xbd_nI (S := U) (i := i) (by omega)).mpr q
        unfold xbd at hb
        exact absurd this (of_decide_eq_false hb)
      rw [hu i hi hb2, a8 i hi hb2]
    · exact f.1 _ _ (by omega)
  · rw [f.2.1, a7]
    exact (cPs_c hn2 (fun i k hi => f.1 _ _ (by omega)) (fun k => f.1 _ _ (by omega)) (fun k => f.1 _ _ (by omega))).symm
theorem LN_m {R M : xM} {np nr ng U mo d : Nat} {t mp : Int32} (h : LN R np nr ng U mo t mp M) (ht9 : nr3 0 999 t) (hv : ∀ r, r < nr → U.testBit r = true → gI M (43 + r) 4 = if d.testBit (bK U r) = true then t else rr R r 4) : mR M 28 (tgU R nr U (lmS U d nr) t) 167 np nr ng := by
  obtain ⟨⟨Mx, hx, hx2⟩, a0, a5, a6, a7, a8⟩ := h
  have hr2 := hx.1.2.1
  refine mR_tt hx (f := fun q => if U.testBit q = true ∧ (lmS U d nr).testBit q = false then t else rr R q 4) (fun q hq => ?_) (fun x k q => hx2 x k (fun z => q ⟨z.1, z.2.1, z.2.2⟩)) (fun q hq => ?_) (fun k q => tu_o q) (fun q hq => tu_i hq)
  · by_cases c : U.testBit q = true ∧ (lmS U d nr).testBit q = false
    · show nr3 0 999 (if _ then _ else _)
      rw [if_pos c]; exact ht9
    · show nr3 0 999 (if _ then _ else _)
      rw [if_neg c]; exact (r_qB hx hq).2.2.2.2.1
  · show gI M (28 + 15 + q) 4 = if _ then _ else _
    rw [show 28 + 15 + q = 43 + q by omega]
    by_cases hb : U.testBit q = true
    · rw [hv q hq hb, lm_b nr q hq, hb]
      cases h1 : d.testBit (bK U q) with
      | true => rw [if_pos rfl, if_pos ⟨rfl, rfl⟩]
      | false => rw [if_neg (by decide), if_neg (by decide)]
    · rw [a8 q hq hb, if_neg (fun z => hb z.1)]
