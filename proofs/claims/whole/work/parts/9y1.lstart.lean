/-! ===== the law's start: from the machine to the claim ===== -/
theorem gw_tbl {w : Cond} (h : w ∈ GW) : w ∈ lw_tbl := (List.mem_filter.mp h).1
theorem g_inst : ∀ (k : Nat) (q : vw_C), vwCl[k]? = some q → Cond.instantiable q.1 q.2.2 ∈ GW
  | 0, q, h => by cases h; exact xw1 (by decide +kernel)
  | 1, q, h => by cases h; exact xw1 (by decide +kernel)
  | 2, q, h => by cases h; exact xw1 (by decide +kernel)
  | 3, q, h => by cases h; exact xw1 (by decide +kernel)
  | 4, q, h => by cases h; exact xw1 (by decide +kernel)
  | 5, q, h => by cases h; exact xw1 (by decide +kernel)
  | 6, q, h => by cases h; exact xw1 (by decide +kernel)
  | 7, q, h => by cases h; exact xw1 (by decide +kernel)
  | 8, q, h => by cases h; exact xw1 (by decide +kernel)
  | 9, q, h => by cases h; exact xw1 (by decide +kernel)
  | 10, q, h => by cases h; exact xw1 (by decide +kernel)
  | 11, q, h => by cases h; exact xw1 (by decide +kernel)
  | 12, q, h => by cases h; exact xw1 (by decide +kernel)
  | k + 13, q, h => by simp [vwCl] at h
/-- the classes and the kinds of arrays, as the tables have them -/
theorem K_start {s : State} {args : Array Value} (hts : ∀ w ∈ lw_tbl, w.before args s = true) : ∃ (D : va_G) (dA : Nat → ClassId), va_K D vwCl (xtys dA) s := by
  have h1 : ∀ k : Nat, ∃ (q : ClassId × (Nat → Nat)), ∀ r : vw_C, vwCl[k]? = some r → u_Kn s r.1 r.2.1 r.2.2 q.1 q.2 := fun k => by
    cases hk : vwCl[k]? with
    | none => exact ⟨(0, fun _ => 0), fun r hr => by cases hr⟩
    | some r =>
      obtain ⟨cC, iS, hK⟩ := u_known (C := r.1) (T := r.2.1) (N := r.2.2) (n := r.2.2) (ws := lw_tbl) hts (fun w hw => gw_tbl ((xgood (c := k) (C := r.1) (T := r.2.1) (n := r.2.2) hk).1 w hw)) (hts _ (gw_tbl (g_inst k r hk)))
      exact ⟨(cC, iS), fun r' hr => by cases hr; exact hK⟩
  obtain ⟨f, hf⟩ := Classical.axiomOfChoice h1
  have hp : ∀ ty : FieldType, Cond.arrayClass ty ∈ lw_tbl → (∀ C, ty ≠ .object C) → ∃ cA, ArrOfT s cA ty ∧ va_RA s cA ty := fun ty hm hn => by
    obtain ⟨cA, kA, comp, f1, f2, f3⟩ := Cond.arrayClass_spec (hts _ hm)
    refine ⟨cA, fun n z => ⟨fun k h => (by cases h), kA, f2, comp, f3⟩, ?_⟩
    cases ty with
    | object C => exact absurd rfl (hn C)
    | _ => exact f1
  have ho : ∀ C : String, Cond.arrayOver (.object C) ∈ lw_tbl → ∃ cA, ArrOfT s cA (.object C) ∧ va_RA s cA (.object C) := fun C hm => by
    obtain ⟨comp, cA, kA, f1, -, f3, f4, f5⟩ := Cond.arrayOver_spec (hts _ hm)
    exact ⟨cA, fun n z => ⟨fun k h => (by cases h), kA, f3, comp, f4⟩, kA, comp, f3, f4, f1, f5⟩
  obtain ⟨c0, p0⟩ := hp .int (gw_tbl gw_aci) (fun C h => by cases h)
  obtain ⟨c1, p1⟩ := hp .long (gw_tbl gw_acl) (fun C h => by cases h)
  obtain ⟨c2, p2⟩ := hp .boolean (gw_tbl gw_acz) (fun C h => by cases h)
  obtain ⟨c3, p3⟩ := ho "MastWind$Piece" (List.contains_iff_mem.mp (by decide +kernel))
  obtain ⟨c4, p4⟩ := ho "MastWind$Rope" (List.contains_iff_mem.mp (by decide +kernel))
  obtain ⟨c5, p5⟩ := ho "MastWind$Shelf" (List.contains_iff_mem.mp (by decide +kernel))
  obtain ⟨c6, p6⟩ : ∃ cA, ArrOfT s cA (.array .int) ∧ va_RA s cA (.array .int) := by
    obtain ⟨comp, cA, kA, f1, f2, f3, f4⟩ := Cond.arrayOver_specA (hts (.arrayOver (.array .int)) (List.contains_iff_mem.mp (by decide +kernel)))
    exact ⟨cA, fun n z => ⟨fun k h => (by cases h), kA, f2, comp, f3⟩, f4⟩
  refine ⟨(fun k => (f k).1, fun k => (f k).2), fun k => match k with
    | 0 => c0
    | 1 => c1
    | 2 => c2
    | 3 => c3
    | 4 => c4
    | 5 => c5
    | _ => c6, fun k r hr => hf k r hr, fun k q hq => ?_⟩
  match k, hq with
  | 0, hq => cases hq; exact p0
  | 1, hq => cases hq; exact p1
  | 2, hq => cases hq; exact p2
  | 3, hq => cases hq; exact p3
  | 4, hq => cases hq; exact p4
  | 5, hq => cases hq; exact p5
  | 6, hq => cases hq; exact p6
  | k + 7, hq => simp [xtys] at hq
theorem str_of {own tx : String} {k : Nat} {s : State} {args : Array Value} (h : (Cond.stringRef own k tx).before args s = true) : ∃ a, vk_R own k tx a s := by
  have hcur : ∃ cur, s.vm.findClass own = some cur := by
    have h1 := h
    simp only [Cond.before, Cond.holds, Cond.value] at h1
    cases hc : s.vm.findClass own with
    | none => simp [hc] at h1
    | some cur => exact ⟨cur, rfl⟩
  obtain ⟨cur, hcur⟩ := hcur
  obtain ⟨-, -, -, a, -, -, -, -, -, hev⟩ := Cond.stringRef_spec hcur h
  exact ⟨a, vk_R.of h (hev)⟩
theorem dcl_in : ∀ y ∈ xDw, Cond.declares y ∈ lw_tbl := fun y hy => List.contains_iff_mem.mp (List.all_eq_true.mp (show xDw.all (fun y => lw_tbl.contains (Cond.declares y)) = true by decide +kernel) y hy)
theorem th_start {κ : xKK} {s : State} {args : Array Value} (hb : κ.2.1 = s.heap.size) (hts : ∀ w ∈ lw_tbl, w.before args s = true) (hgv : (Jvm.Cond.and given_1 narrow_1).before args s = true) : xTh κ s := by
  have hg := flat_of_before _ hgv
  have hA : ∀ a : Nat, a < s.heap.size → ¬ (fun q => κ.2.1 ≤ q) a := fun a ha q => by
    have q2 : κ.2.1 ≤ a := q
    omega
  exact ⟨vx_Zqof (hts _ (List.contains_iff_mem.mp (by decide +kernel))) (hts _ (List.contains_iff_mem.mp (by decide +kernel))) (hg _ (by decide +kernel)) hA, vx_Zqof (hts _ (List.contains_iff_mem.mp (by decide +kernel))) (hts _ (List.contains_iff_mem.mp (by decide +kernel))) (hg _ (by decide +kernel)) hA,
    ⟨va_Nw.of rfl (hts _ (List.contains_iff_mem.mp (by decide +kernel))), va_Nw.of rfl (hts _ (List.contains_iff_mem.mp (by decide +kernel))), va_Nc.of (hg (.not (.castable xISE xIAE)) (by decide +kernel)), fun y hy => va_Nw.of rfl (hts _ (dcl_in y hy))⟩,
    ⟨str_of (hts _ (List.contains_iff_mem.mp (by decide +kernel))), str_of (hts _ (List.contains_iff_mem.mp (by decide +kernel))), str_of (hts _ (List.contains_iff_mem.mp (by decide +kernel))), str_of (hts _ (List.contains_iff_mem.mp (by decide +kernel)))⟩⟩
theorem nest_in : ∀ w ∈ nestW, Cond.methodLinkNest w.1 w.2.1 w.2.2 "MastWind" ∈ lw_tbl := fun w hw => List.contains_iff_mem.mp (List.all_eq_true.mp (show nestW.all (fun w => lw_tbl.contains (Cond.methodLinkNest w.1 w.2.1 w.2.2 "MastWind")) = true by decide +kernel) w hw)
theorem ao_arg {s : State} {args : Array Value} (h : (Cond.arrayOver (.array .int)).before args s = true) : (Cond.arrayOver (.array .int)).before #[] s = true := h
theorem ao_start {s : State} {args : Array Value} (hts : ∀ w ∈ lw_tbl, w.before args s = true) : xAO s :=
  ⟨va_AO.of (hts _ (List.contains_iff_mem.mp (by decide +kernel))), va_AO.of (hts _ (List.contains_iff_mem.mp (by decide +kernel))), va_AO.of (hts _ (List.contains_iff_mem.mp (by decide +kernel))), ao_arg (hts _ (List.contains_iff_mem.mp (by decide +kernel))), fun w hw => va_Nw.of rfl (hts _ (nest_in w hw))⟩
theorem d_l1848 : decode code 1848 = .ok (.ireturn, 1) := by decide +kernel
theorem tr_off {l : Launch} (h : l.flags = flags0) : l.stackTraces = false := by
  unfold Launch.stackTraces
  rw [h]
  decide +kernel
