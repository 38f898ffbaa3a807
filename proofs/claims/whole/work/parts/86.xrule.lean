/-! ===== fault, rule of the class ===== -/
def tx (f : Nat → Int32) (n : Nat) : Nat → Int32 := fun k => if k < n then f k else 0
theorem tx_k {f : Nat → Int32} {n k : Nat} (h : k < n) : tx f n k = f k := if_pos h
theorem tx_c {f g : Nat → Int32} {n : Nat} (h : ∀ k, k < n → f k = g k) : tx f n = tx g n := funext (fun k => by
  unfold tx
  by_cases c : k < n
  · rw [if_pos c, if_pos c, h k c]
  · rw [if_neg c, if_neg c])
abbrev ph0 : Nat → Int32 := fun _ => 0
/-- no fault -/
abbrev okR (T : Nat → Int32) (n : Nat) : Prop := (RX T n ph0 2 0 0).1 = true ∧ (RX T n ph0 2 0 0).2.1 = n
def flV (T : Nat → Int32) (n : Nat) : Int32 := if okR T n then -4 else nI (RX T n ph0 2 0 0).2.1
theorem flV_f (T : Nat → Int32) (n : Nat) (φ : Nat → Int32) : (if (RX T n φ 2 0 0).1 = true ∧ (RX T n φ 2 0 0).2.1 = n then -4 else nI (RX T n φ 2 0 0).2.1) = flV T n := by
  obtain ⟨e1, e2⟩ := RX_f (T := T) (n := n) (φ := φ) (ψ := ph0) (m := 2) (k := 0) (p := 0)
  unfold flV okR
  rw [e1, e2]
theorem okR_f {T : Nat → Int32} {n : Nat} (φ : Nat → Int32) (h : okR T n) : (RX T n φ 2 0 0).1 = true ∧ (RX T n φ 2 0 0).2.1 = n := by
  obtain ⟨e1, e2⟩ := RX_f (T := T) (n := n) (φ := φ) (ψ := ph0) (m := 2) (k := 0) (p := 0)
  exact ⟨e1.trans h.1, e2.trans h.2⟩
theorem fl_ok {T : Nat → Int32} {n : Nat} (hn : n ≤ 120) : flV T n = -4 ↔ okR T n := by
  unfold flV
  by_cases c : okR T n
  · rw [if_pos c]; exact ⟨fun _ => c, fun _ => rfl⟩
  · rw [if_neg c]
    have := (RX_b (T := T) (n := n) (φ := ph0) (m := 2) (k := 0) (p := 0) (Nat.zero_le n)).2.1
    exact ⟨fun q => absurd q (nI_n4 (by omega)), fun q => absurd q c⟩
theorem kFr_u {M M' : xM} (h : uR M M') : kFr M M' := ⟨fun x k q => h.1 x k (by omega) (by omega), fun x k _ => h.2.1 x k, fun x k q => h.2.2 x k (by omega)⟩
def cFl (M : xM) (j : Nat) : Int32 := if cRR M j 0 = 0 then flV (tx (fun k => gI M (144 + 3 * j) k) (gI M (142 + 3 * j) 3).toNatClampNeg) (gI M (142 + 3 * j) 3).toNatClampNeg else cRR M j 0
set_option maxRecDepth 4000 in
theorem e_x_fault {κ : xKK} {d : Nat} {M : xM} (hz : ∀ j, j < 8 → ∃ z, z ≤ 120 ∧ gI M (142 + 3 * j) 3 = nI z) {i : Int32} (hd : 7 ≤ d) : xE2 κ mX11_fault d [.ref 0, .int i] M (fun v M' => ((∃ j, j < 8 ∧ i = nI j ∧ v = some (.int (cFl M j))) ∨ (¬ (∃ j, j < 8 ∧ i = nI j) ∧ v = some (.int (-1)))) ∧ kFr M M') := by
  refine xE2_of ci_X11_fault cl_X11_fault cw_X11_fault rfl (L := [some (.ref 0), some (.int i), none, none]) rfl ?_
  refine xG_run 2 rfl (by repeat' (first | exact trivial | assumption | exact xob_b rfl | exact xal_b rfl | (apply And.intro) | decide)) ?_
  try dsimp only [xsto1, xsto2, xkill, xget, xset, gd_0, gd_s]
  refine xG_c2 1 rfl (by repeat' (first | exact trivial | assumption | exact xob_b rfl | exact xal_b rfl | (apply And.intro) | decide)) rfl rfl (by decide) cw_X11_shelfAt (d' := d - 1) e_shelfAt (by omega) ?_
  rintro v M' ⟨hv, hM⟩
  subst M'
  rcases hv with ⟨rfl, hno⟩ | ⟨j, hj, hij, rfl⟩
  · dsimp only [Option.toList, List.cons_append, List.nil_append]
    refine xG_run 4 rfl (by repeat' (first | exact trivial | assumption | exact xob_b rfl | exact xal_b rfl | (apply And.intro) | decide)) ?_
    try dsimp only [xsto1, xsto2, xkill, xget, xset, gd_0, gd_s]
    refine xG_c2 2 rfl (by repeat' (first | exact trivial | assumption | exact xob_b rfl | exact xal_b rfl | (apply And.intro) | decide)) rfl rfl (by decide) cw_X11_rowRefusal (d' := d - 1) e_rowRef0 (by omega) ?_
    rintro v M' ⟨rfl, hM⟩
    subst M'
    dsimp only [Option.toList, List.cons_append, List.nil_append]
    refine xG_run 4 rfl (by repeat' (first | exact trivial | assumption | exact xob_b rfl | exact xal_b rfl | (apply And.intro) | decide)) ?_
    try dsimp only [xsto1, xsto2, xkill, xget, xset, gd_0, gd_s]
    refine r2_i rfl rfl ?_
    exact ⟨Or.inr ⟨fun q => by obtain ⟨j9, a1, a2⟩ := q; exact hno (by rw [a2]; exact inI a1 (by omega)), rfl⟩, kFr_r⟩
  · dsimp only [Option.toList, List.cons_append, List.nil_append]
    have hxj : xob (142 + 3 * j) 8 182 := xob_sh hj
    have hspj : xob (143 + 3 * j) 3 182 := xob_sp hj
    refine xG_run 4 rfl (by repeat' (first | exact trivial | assumption | exact xob_b rfl | exact xal_b rfl | (apply And.intro) | decide)) ?_
    try dsimp only [xsto1, xsto2, xkill, xget, xset, gd_0, gd_s]
    refine xG_c2 2 rfl (by repeat' (first | exact trivial | assumption | exact xob_b rfl | exact xal_b rfl | (apply And.intro) | decide)) rfl rfl (by decide) cw_X11_rowRefusal (d' := d - 1) (e_rowRef1 hj) (by omega) ?_
    rintro v M' ⟨rfl, hM⟩
    subst M'
    dsimp only [Option.toList, List.cons_append, List.nil_append]
    refine xG_run 4 rfl (by repeat' (first | exact trivial | assumption | exact xob_b rfl | exact xal_b rfl | (apply And.intro) | decide)) ?_
    try dsimp only [xsto1, xsto2, xkill, xget, xset, gd_0, gd_s]
    refine xG_br rfl (fun h18 => ?_) (fun h18 => ?_)
    · obtain ⟨z, hz1, hz2⟩ := hz j hj
      have hrr0 : cRR M j 0 = 0 := h18
      have hsh : shp[144 + 3 * j]? = some (.inr (0, 120)) := sh_sp j hj
      have hzc : (gI M (142 + 3 * j) 3).toNatClampNeg = z := by rw [hz2]; exact nI_cl (by omega)
      
      refine xG_run 4 rfl (by repeat' (first | exact trivial | assumption | exact xob_b rfl | exact xal_b rfl | (apply And.intro) | decide)) ?_
      try dsimp only [xsto1, xsto2, xkill, xget, xset, gd_0, gd_s]
      rw [sh_el hj]
      refine xG_run 2 rfl (by repeat' (first | exact trivial | assumption | exact xob_b rfl | exact xal_b rfl | (apply And.intro) | decide)) ?_
      try dsimp only [xsto1, xsto2, xkill, xget, xset, gd_0, gd_s]
      rw [hz2]
      refine xG_c2 2 rfl (by repeat' (first | exact trivial | assumption | exact xob_b rfl | exact xal_b rfl | (apply And.intro) | decide)) rfl rfl (by decide) cw_X6_read (d' := d - 1) (e_uread (n := z) (T := tx (fun k => gI M (144 + 3 * j) k) z) hsh (by omega) (by omega) hz1 (fun k hk => (tx_k hk).symm) (by omega)) (by omega) ?_
      rintro v M2 ⟨rfl, -, hu⟩
      rw [flV_f]
      have hz3 : gI M2 (142 + 3 * j) 3 = nI z := ((kFr_u hu).1 _ _ (by omega)).trans hz2
      have hu3 : gI M2 55 3 = gI M 55 3 := (kFr_u hu).1 _ _ (by omega)
      dsimp only [Option.toList, List.cons_append, List.nil_append]
      refine r2_i rfl rfl ?_
      refine ⟨Or.inl ⟨j, hj, hij, ?_⟩, kFr_u hu⟩
      unfold cFl
      rw [if_pos hrr0, hzc]
    · refine xG_run 1 rfl (by repeat' (first | exact trivial | assumption | exact xob_b rfl | exact xal_b rfl | (apply And.intro) | decide)) ?_
      try dsimp only [xsto1, xsto2, xkill, xget, xset, gd_0, gd_s]
      refine r2_i rfl rfl ?_
      refine ⟨Or.inl ⟨j, hj, hij, ?_⟩, kFr_r⟩
      unfold cFl
      rw [if_neg h18]
set_option maxRecDepth 4000 in
theorem e_x_rule {κ : xKK} {d : Nat} {M : xM} (hz : ∀ j, j < 8 → ∃ z, z ≤ 120 ∧ gI M (142 + 3 * j) 3 = nI z) {nu : Nat} (hu9 : gI M 55 3 = nI nu) (hu2 : nu ≤ 12) {i : Int32} (hd : 7 ≤ d) : xE2 κ mX11_rule d [.ref 0, .int i] M (fun v M' => (¬ (∃ j, j < 8 ∧ i = nI j) ∧ v = some (.int (-1)) ∧ kFr M M') ∨ ∃ j, j < 8 ∧ i = nI j ∧ ((nu = 12 ∧ v = some (.int (-2)) ∧ kFr M M') ∨ (nu < 12 ∧ ((¬ cRR M j 0 = 0 ∧ v = some (.int (cRR M j 0)) ∧ kFr M M') ∨ (cRR M j 0 = 0 ∧ ¬ okR (tx (fun k => gI M (144 + 3 * j) k) (gI M (142 + 3 * j) 3).toNatClampNeg) (gI M (142 + 3 * j) 3).toNatClampNeg ∧ v = some (.int (-100 - flV (tx (fun k => gI M (144 + 3 * j) k) (gI M (142 + 3 * j) 3).toNatClampNeg) (gI M (142 + 3 * j) 3).toNatClampNeg)) ∧ kFr M M') ∨ (cRR M j 0 = 0 ∧ okR (tx (fun k => gI M (144 + 3 * j) k) (gI M (142 + 3 * j) 3).toNatClampNeg) (gI M (142 + 3 * j) 3).toNatClampNeg ∧ v = some (.int (nI nu)) ∧ ∃ M2, kFr M M2 ∧ M' = sI (sI (sI (sC M2 (144 + 3 * j) 0 (57 + nu) 0 (gI M (142 + 3 * j) 3).toNatClampNeg) 69 nu (nI (gI M (142 + 3 * j) 3).toNatClampNeg)) 70 nu 1) 55 3 (nI (nu + 1))))))) := by
  refine xE2_of ci_X11_rule cl_X11_rule cw_X11_rule rfl (L := [some (.ref 0), some (.int i), none, none, none]) rfl ?_
  refine xG_run 2 rfl (by repeat' (first | exact trivial | assumption | exact xob_b rfl | exact xal_b rfl | (apply And.intro) | decide)) ?_
  try dsimp only [xsto1, xsto2, xkill, xget, xset, gd_0, gd_s]
  refine xG_c2 1 rfl (by repeat' (first | exact trivial | assumption | exact xob_b rfl | exact xal_b rfl | (apply And.intro) | decide)) rfl rfl (by decide) cw_X11_shelfAt (d' := d - 1) e_shelfAt (by omega) ?_
  rintro v M' ⟨hv, hM⟩
  subst M'
  rcases hv with ⟨rfl, hno⟩ | ⟨j, hj, hij, rfl⟩
  · dsimp only [Option.toList, List.cons_append, List.nil_append]
    refine xG_run 4 rfl (by repeat' (first | exact trivial | assumption | exact xob_b rfl | exact xal_b rfl | (apply And.intro) | decide)) ?_
    try dsimp only [xsto1, xsto2, xkill, xget, xset, gd_0, gd_s]
    refine r2_i rfl rfl ?_
    exact Or.inl ⟨fun q => by obtain ⟨j9, a1, a2⟩ := q; exact hno (by rw [a2]; exact inI a1 (by omega)), rfl, kFr_r⟩
  · dsimp only [Option.toList, List.cons_append, List.nil_append]
    have hxj : xob (142 + 3 * j) 8 182 := xob_sh hj
    have hspj : xob (143 + 3 * j) 3 182 := xob_sp hj
    refine xG_run 7 rfl (by repeat' (first | exact trivial | assumption | exact xob_b rfl | exact xal_b rfl | (apply And.intro) | decide)) ?_
    try dsimp only [xsto1, xsto2, xkill, xget, xset, gd_0, gd_s]
    refine xG_br rfl (fun h21 => ?_) (fun h21 => ?_)
    · have hnu : nu < 12 := by
        rw [hu9] at h21
        have : ¬ 12 ≤ nu := fun q => absurd h21 (Int32.not_lt.mpr (nI_le (a := 12) q (by omega)))
        omega
      refine xG_run 3 rfl (by repeat' (first | exact trivial | assumption | exact xob_b rfl | exact xal_b rfl | (apply And.intro) | decide)) ?_
      try dsimp only [xsto1, xsto2, xkill, xget, xset, gd_0, gd_s]
      refine xG_c2 2 rfl (by repeat' (first | exact trivial | assumption | exact xob_b rfl | exact xal_b rfl | (apply And.intro) | decide)) rfl rfl (by decide) cw_X11_rowRefusal (d' := d - 1) (e_rowRef1 hj) (by omega) ?_
      rintro v M' ⟨rfl, hM⟩
      subst M'
      dsimp only [Option.toList, List.cons_append, List.nil_append]
      refine xG_run 2 rfl (by repeat' (first | exact trivial | assumption | exact xob_b rfl | exact xal_b rfl | (apply And.intro) | decide)) ?_
      try dsimp only [xsto1, xsto2, xkill, xget, xset, gd_0, gd_s]
      refine xG_br rfl (fun h35 => ?_) (fun h35 => ?_)
      · obtain ⟨z, hz1, hz2⟩ := hz j hj
        have hrr0 : cRR M j 0 = 0 := h35
        have hsh : shp[144 + 3 * j]? = some (.inr (0, 120)) := sh_sp j hj
        have hzc : (gI M (142 + 3 * j) 3).toNatClampNeg = z := by rw [hz2]; exact nI_cl (by omega)
        
        refine xG_run 4 rfl (by repeat' (first | exact trivial | assumption | exact xob_b rfl | exact xal_b rfl | (apply And.intro) | decide)) ?_
        try dsimp only [xsto1, xsto2, xkill, xget, xset, gd_0, gd_s]
        rw [sh_el hj]
        refine xG_run 2 rfl (by repeat' (first | exact trivial | assumption | exact xob_b rfl | exact xal_b rfl | (apply And.intro) | decide)) ?_
        try dsimp only [xsto1, xsto2, xkill, xget, xset, gd_0, gd_s]
        rw [hz2]
        refine xG_c2 2 rfl (by repeat' (first | exact trivial | assumption | exact xob_b rfl | exact xal_b rfl | (apply And.intro) | decide)) rfl rfl (by decide) cw_X6_read (d' := d - 1) (e_uread (n := z) (T := tx (fun k => gI M (144 + 3 * j) k) z) hsh (by omega) (by omega) hz1 (fun k hk => (tx_k hk).symm) (by omega)) (by omega) ?_
        rintro v M2 ⟨rfl, -, hu⟩
        rw [flV_f]
        have hz3 : gI M2 (142 + 3 * j) 3 = nI z := ((kFr_u hu).1 _ _ (by omega)).trans hz2
        have hu3 : gI M2 55 3 = gI M 55 3 := (kFr_u hu).1 _ _ (by omega)
        dsimp only [Option.toList, List.cons_append, List.nil_append]
        refine xG_run 3 rfl (by repeat' (first | exact trivial | assumption | exact xob_b rfl | exact xal_b rfl | (apply And.intro) | decide)) ?_
        try dsimp only [xsto1, xsto2, xkill, xget, xset, gd_0, gd_s]
        refine xG_br rfl (fun h61 => ?_) (fun h61 => ?_)
        · refine xG_run 3 rfl (by repeat' (first | exact trivial | assumption | exact xob_b rfl | exact xal_b rfl | (apply And.intro) | decide)) ?_
          try dsimp only [xsto1, xsto2, xkill, xget, xset, gd_0, gd_s]
          refine r2_i rfl rfl ?_
          exact Or.inr ⟨j, hj, hij, Or.inr ⟨hnu, Or.inr (Or.inl ⟨hrr0, by rw [hzc]; exact fun q => h61 ((fl_ok hz1).mpr q), by rw [hzc], kFr_u hu⟩)⟩⟩
        · refine xG_run 4 rfl (by repeat' (first | exact trivial | assumption | exact xob_b rfl | exact xal_b rfl | (apply And.intro) | decide)) ?_
          try dsimp only [xsto1, xsto2, xkill, xget, xset, gd_0, gd_s]
          rw [sh_el hj]
          refine xG_run 2 rfl (by repeat' (first | exact trivial | assumption | exact xob_b rfl | exact xal_b rfl | (apply And.intro) | decide)) ?_
          try dsimp only [xsto1, xsto2, xkill, xget, xset, gd_0, gd_s]
          rw [hz3]
          refine xG_c2 2 rfl (by repeat' (first | exact trivial | assumption | exact xob_b rfl | exact xal_b rfl | (apply And.intro) | decide)) rfl rfl (by decide) cw_X7_add (d' := d - 1) (e_radd (z := z) (hu3.trans hu9) hu2 hnu hsh (by omega) hz1) (by omega) ?_
          rintro v M' ⟨rfl, hM⟩
          subst M'
          dsimp only [Option.toList, List.cons_append, List.nil_append]
          refine xG_run 1 rfl (by repeat' (first | exact trivial | assumption | exact xob_b rfl | exact xal_b rfl | (apply And.intro) | decide)) ?_
          try dsimp only [xsto1, xsto2, xkill, xget, xset, gd_0, gd_s]
          refine r2_i rfl rfl ?_
          exact Or.inr ⟨j, hj, hij, Or.inr ⟨hnu, Or.inr (Or.inr ⟨hrr0, by rw [hzc]; exact (fl_ok hz1).mp (Decidable.not_not.mp h61), rfl, M2, kFr_u hu, by rw [hzc]⟩)⟩⟩
      · refine xG_run 1 rfl (by repeat' (first | exact trivial | assumption | exact xob_b rfl | exact xal_b rfl | (apply And.intro) | decide)) ?_
        try dsimp only [xsto1, xsto2, xkill, xget, xset, gd_0, gd_s]
        refine r2_i rfl rfl ?_
        exact Or.inr ⟨j, hj, hij, Or.inr ⟨hnu, Or.inl ⟨h35, rfl, kFr_r⟩⟩⟩
    · have hnu : nu = 12 := by
        rw [hu9] at h21
        have : ¬ nu < 12 := fun q => h21 (nI_lt (b := 12) q (by omega))
        omega
      refine xG_run 1 rfl (by repeat' (first | exact trivial | assumption | exact xob_b rfl | exact xal_b rfl | (apply And.intro) | decide)) ?_
      try dsimp only [xsto1, xsto2, xkill, xget, xset, gd_0, gd_s]
      refine r2_i rfl rfl ?_
      exact Or.inr ⟨j, hj, hij, Or.inl ⟨hnu, rfl, kFr_r⟩⟩
