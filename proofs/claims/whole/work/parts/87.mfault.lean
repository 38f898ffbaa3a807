/-! ===== fault, rule of the reference ===== -/
theorem rkF_p {M : xM} {k : Nat} {v : Option Nat} : rkF M (sP M 166 k v) := ⟨fun _ _ _ => rfl, rfl, rfl, fun x y q => ⟨rfl, gP_ne (Or.inl (by omega))⟩⟩
theorem rkF_P {M M' : xM} (h : rdP M M') : rkF M M' := ⟨fun x k q => h.1 x k (by omega), h.1 _ _ (by omega), h.2.1 _ _, fun x k _ => ⟨h.2.1 x k, h.2.2 x k⟩⟩
theorem rkF_O {M : xM} {j : Nat} : rkF M (rpO M j) := rkF_t rkF_p (rkF_t (rkF_i (Or.inl ⟨rfl, by decide⟩)) (rkF_t (rkF_i (Or.inl ⟨rfl, by decide⟩)) (rkF_i (Or.inl ⟨rfl, by decide⟩))))
def rFl (M : xM) (j : Nat) : Int32 := if rWR M j 0 = 0 then flV (tx (fun k => gI M 173 (120 * j + k)) (gI M 172 j).toNatClampNeg) (gI M 172 j).toNatClampNeg else rWR M j 0
set_option maxRecDepth 4000 in
theorem e_faultOf {κ : xKK} {d : Nat} {M : xM} {j z : Nat} (hj : j < 8) (hz1 : z ≤ 120) (hz2 : gI M 172 j = nI z) (hd : 180 ≤ d) : xE2 κ mX12_faultOf d [.ref 166, .int (nI j)] M (fun v M' => v = some (.int (flV (tx (fun k => gI M 173 (120 * j + k)) z) z)) ∧ rkF M M') := by
  refine xE2_of ci_X12_faultOf cl_X12_faultOf cw_X12_faultOf rfl (L := [some (.ref 166), some (.int (nI j)), none]) rfl ?_
  have hM2 : rkF M (sI (rpO M j) 166 24 0) := rkF_t rkF_O (rkF_i (Or.inl ⟨rfl, by decide⟩))
  have hT : rT (sI (rpO M j) 166 24 0) 173 (120 * j) z (tx (fun k => gI M 173 (120 * j + k)) z) := ⟨(gI_ne (by omega)).trans ((gI_ne (by omega)).trans ((gI_ne (by omega)).trans (gI_self _ _ _ _))), (gI_ne (by omega)).trans ((gI_ne (by omega)).trans ((gI_self _ _ _ _).trans hz2)), rfl, fun k hk => (hM2.1 _ _ (by omega)).trans (tx_k (f := fun k => gI M 173 (120 * j + k)) hk).symm, hz1, Or.inl ⟨rfl, by omega⟩⟩
  have hp0 : gI (sI (rpO M j) 166 24 0) 166 12 = nI 0 := (gI_ne (by omega)).trans (gI_self _ _ _ _)
  refine xG_run 2 rfl (by repeat' (first | exact trivial | assumption | exact xob_b rfl | exact xal_b rfl | (apply And.intro) | decide)) ?_
  try dsimp only [xsto1, xsto2, xkill, xget, xset, gd_0, gd_s]
  refine xG_c2 1 rfl (by repeat' (first | exact trivial | assumption | exact xob_b rfl | exact xal_b rfl | (apply And.intro) | decide)) rfl rfl (by decide) cw_X12_opens (d' := d - 1) (e_opens hj) (by omega) ?_
  rintro v M' ⟨rfl, hM⟩
  subst M'
  dsimp only [Option.toList, List.cons_append, List.nil_append]
  refine xG_run 4 rfl (by repeat' (first | exact trivial | assumption | exact xob_b rfl | exact xal_b rfl | (apply And.intro) | decide)) ?_
  try dsimp only [xsto1, xsto2, xkill, xget, xset, gd_0, gd_s]
  refine xG_c2 0 rfl (by repeat' (first | exact trivial | assumption | exact xob_b rfl | exact xal_b rfl | (apply And.intro) | decide)) rfl rfl (by decide) cw_X12_readsOr (d' := d - 1) (e_reads (φ := ph0) (3 * (z - 0) + 2) 2 0 0 (d - 1) _ rfl (by omega) (Nat.zero_le z) (by omega) hT hp0 (gI_self _ _ _ _) (by omega)) (by omega) ?_
  rintro v M3 ⟨rfl, k3, -, hF3⟩
  have hn3 : gI M3 166 14 = nI z := (hF3.1 _ _ (by omega)).trans hT.2.1
  obtain ⟨y1, y2, y3⟩ := RX_b (T := (tx (fun k => gI M 173 (120 * j + k)) z)) (n := z) (φ := ph0) (m := 2) (k := 0) (p := 0) (Nat.zero_le z)
  have hk9 := rkF_t hM2 (rkF_P hF3)
  rcases Bool.eq_false_or_eq_true (RX (tx (fun k => gI M 173 (120 * j + k)) z) z ph0 2 0 0).1 with hok | hok
  all_goals rw [hok]
  · dsimp only [Option.toList, List.cons_append, List.nil_append]
    refine xG_run 2 rfl (by repeat' (first | exact trivial | assumption | exact xob_b rfl | exact xal_b rfl | (apply And.intro) | decide)) ?_
    try dsimp only [xsto1, xsto2, xkill, xget, xset, gd_0, gd_s]
    refine xG_brF rfl (by decide) ?_
    refine xG_run 2 rfl (by repeat' (first | exact trivial | assumption | exact xob_b rfl | exact xal_b rfl | (apply And.intro) | decide)) ?_
    try dsimp only [xsto1, xsto2, xkill, xget, xset, gd_0, gd_s]
    rw [k3]
    refine xG_run 2 rfl (by repeat' (first | exact trivial | assumption | exact xob_b rfl | exact xal_b rfl | (apply And.intro) | decide)) ?_
    try dsimp only [xsto1, xsto2, xkill, xget, xset, gd_0, gd_s]
    rw [hn3]
    refine xG_br rfl (fun h27 => ?_) (fun h27 => ?_)
    · refine xG_run 2 rfl (by repeat' (first | exact trivial | assumption | exact xob_b rfl | exact xal_b rfl | (apply And.intro) | decide)) ?_
      try dsimp only [xsto1, xsto2, xkill, xget, xset, gd_0, gd_s]
      try rw [k3]
      refine r2_i rfl rfl ?_
      refine ⟨?_, hk9⟩
      unfold flV
      rw [if_neg (fun q => h27 (by rw [q.2]))]
    · refine xG_run 2 rfl (by repeat' (first | exact trivial | assumption | exact xob_b rfl | exact xal_b rfl | (apply And.intro) | decide)) ?_
      try dsimp only [xsto1, xsto2, xkill, xget, xset, gd_0, gd_s]
      try rw [k3]
      refine r2_i rfl rfl ?_
      refine ⟨?_, hk9⟩
      unfold flV
      rw [if_pos ⟨hok, nI_injb (by omega) (by omega) (Decidable.not_not.mp h27).symm⟩]
  · dsimp only [Option.toList, List.cons_append, List.nil_append]
    refine xG_run 2 rfl (by repeat' (first | exact trivial | assumption | exact xob_b rfl | exact xal_b rfl | (apply And.intro) | decide)) ?_
    try dsimp only [xsto1, xsto2, xkill, xget, xset, gd_0, gd_s]
    refine xG_brT rfl (rfl) ?_
    refine xG_run 2 rfl (by repeat' (first | exact trivial | assumption | exact xob_b rfl | exact xal_b rfl | (apply And.intro) | decide)) ?_
    try dsimp only [xsto1, xsto2, xkill, xget, xset, gd_0, gd_s]
    try rw [k3]
    refine r2_i rfl rfl ?_
    refine ⟨?_, hk9⟩
    unfold flV
    rw [if_neg (fun q => by have := hok.symm.trans q.1; cases this)]
set_option maxRecDepth 4000 in
theorem e_m_fault {κ : xKK} {d : Nat} {M : xM} (hz : ∀ j, j < 8 → ∃ z, z ≤ 120 ∧ gI M 172 j = nI z) {i : Int32} (hd : 182 ≤ d) : xE2 κ mX12_fault d [.ref 166, .int i] M (fun v M' => ((∃ j, j < 8 ∧ i = nI j ∧ v = some (.int (rFl M j))) ∨ (¬ (∃ j, j < 8 ∧ i = nI j) ∧ v = some (.int (-1)))) ∧ rkF M M') := by
  refine xE2_of ci_X12_fault cl_X12_fault cw_X12_fault rfl (L := [some (.ref 166), some (.int i), none]) rfl ?_
  refine xG_run 3 rfl (by repeat' (first | exact trivial | assumption | exact xob_b rfl | exact xal_b rfl | (apply And.intro) | decide)) ?_
  try dsimp only [xsto1, xsto2, xkill, xget, xset, gd_0, gd_s]
  refine xG_c2 2 rfl (by repeat' (first | exact trivial | assumption | exact xob_b rfl | exact xal_b rfl | (apply And.intro) | decide)) rfl rfl (by decide) cw_X12_wrongRow (d' := d - 1) (e_wrongRow (s := 0) (by omega)) (by omega) ?_
  rintro v M' ⟨hv, hM⟩
  subst M'
  rcases hv with ⟨j, hj, rfl, rfl⟩ | ⟨hno, rfl⟩
  · dsimp only [Option.toList, List.cons_append, List.nil_append]
    have hs170 : xar 170 0 182 (nI j) := xar_n rfl 8 rfl hj (by omega)
    have hs171 : xar 171 0 182 (nI j) := xar_n rfl 8 rfl hj (by omega)
    have hs172 : xar 172 0 182 (nI j) := xar_n rfl 8 rfl hj (by omega)
    have hs175 : xar 175 0 182 (nI j) := xar_n rfl 8 rfl hj (by omega)
    have hs176 : xar 176 0 182 (nI j) := xar_n rfl 8 rfl hj (by omega)
    have hj1 : (nI j).toNatClampNeg = j := nI_cl (by omega)
    obtain ⟨z, hz1, hz2⟩ := hz j hj
    have hzc : (gI M 172 j).toNatClampNeg = z := by rw [hz2]; exact nI_cl (by omega)
    refine xG_run 2 rfl (by repeat' (first | exact trivial | assumption | exact xob_b rfl | exact xal_b rfl | (apply And.intro) | decide)) ?_
    try dsimp only [xsto1, xsto2, xkill, xget, xset, gd_0, gd_s]
    refine xG_br rfl (fun h8 => ?_) (fun h8 => ?_)
    · refine xG_run 2 rfl (by repeat' (first | exact trivial | assumption | exact xob_b rfl | exact xal_b rfl | (apply And.intro) | decide)) ?_
      try dsimp only [xsto1, xsto2, xkill, xget, xset, gd_0, gd_s]
      refine xG_c2 1 rfl (by repeat' (first | exact trivial | assumption | exact xob_b rfl | exact xal_b rfl | (apply And.intro) | decide)) rfl rfl (by decide) cw_X12_faultOf (d' := d - 1) (e_faultOf hj hz1 hz2 (by omega)) (by omega) ?_
      rintro v M2 ⟨rfl, hk2⟩
      dsimp only [Option.toList, List.cons_append, List.nil_append]
      refine r2_i rfl rfl ?_
      refine ⟨Or.inl ⟨j, hj, rfl, ?_⟩, hk2⟩
      unfold rFl
      rw [if_pos h8, hzc]
    · refine xG_run 2 rfl (by repeat' (first | exact trivial | assumption | exact xob_b rfl | exact xal_b rfl | (apply And.intro) | decide)) ?_
      try dsimp only [xsto1, xsto2, xkill, xget, xset, gd_0, gd_s]
      refine r2_i rfl rfl ?_
      refine ⟨Or.inl ⟨j, hj, rfl, ?_⟩, rkF_r⟩
      unfold rFl
      rw [if_neg h8]
  · dsimp only [Option.toList, List.cons_append, List.nil_append]
    refine xG_run 2 rfl (by repeat' (first | exact trivial | assumption | exact xob_b rfl | exact xal_b rfl | (apply And.intro) | decide)) ?_
    try dsimp only [xsto1, xsto2, xkill, xget, xset, gd_0, gd_s]
    refine xG_brF rfl (by decide) ?_
    refine xG_run 2 rfl (by repeat' (first | exact trivial | assumption | exact xob_b rfl | exact xal_b rfl | (apply And.intro) | decide)) ?_
    try dsimp only [xsto1, xsto2, xkill, xget, xset, gd_0, gd_s]
    refine r2_i rfl rfl ?_
    exact ⟨Or.inr ⟨hno, rfl⟩, rkF_r⟩
def rlJ (M : xM) (n j z k : Nat) : xM := (fun x i => if x = 167 ∧ i = 1646 then nI (n + 1) else if x = 167 ∧ i = 179 + 122 * n then 1 else if x = 167 ∧ i = 180 + 122 * n then nI z else if x = 167 ∧ 181 + 122 * n ≤ i ∧ i < 181 + 122 * n + k then gI M 173 (120 * j + (i - (181 + 122 * n))) else gI M x i, M.2.1, M.2.2)
theorem rlJ_g {M : xM} {n j z k x i : Nat} : gI (rlJ M n j z k) x i = if x = 167 ∧ i = 1646 then nI (n + 1) else if x = 167 ∧ i = 179 + 122 * n then 1 else if x = 167 ∧ i = 180 + 122 * n then nI z else if x = 167 ∧ 181 + 122 * n ≤ i ∧ i < 181 + 122 * n + k then gI M 173 (120 * j + (i - (181 + 122 * n))) else gI M x i := rfl
theorem rlJ_0 {M : xM} {n j z : Nat} (hn : n < 12) : sI (sI (sI M 167 1646 (nI (n + 1))) 167 (179 + 122 * n) 1) 167 (180 + 122 * n) (nI z) = rlJ M n j z 0 := by
  refine xM_ext (fun x i => ?_) (fun _ _ => rfl) (fun _ _ => rfl)
  rw [gIsI, gIsI, gIsI, rlJ_g]
  by_cases c1 : x = 167 ∧ i = 1646
  · rw [if_neg (by omega), if_neg (by omega), if_pos c1, if_pos c1]
  · rw [if_neg c1, if_neg c1]
    by_cases c2 : x = 167 ∧ i = 180 + 122 * n
    · rw [if_pos c2, if_neg (by omega), if_pos c2]
    · rw [if_neg c2, if_neg c2, if_neg (show ¬ (x = 167 ∧ 181 + 122 * n ≤ i ∧ i < 181 + 122 * n + 0) by omega)]
theorem rlJ_s {M : xM} {n j z k : Nat} (hn : n < 12) (hk : k < 120) : sI (rlJ M n j z k) 167 (179 + 122 * n + 2 + k) (gI M 173 (120 * j + k)) = rlJ M n j z (k + 1) := by
  refine xM_ext (fun x i => ?_) (fun _ _ => rfl) (fun _ _ => rfl)
  rw [gIsI, rlJ_g, rlJ_g]
  by_cases c : x = 167 ∧ i = 179 + 122 * n + 2 + k
  · rw [if_pos c, if_neg (by omega), if_neg (by omega), if_neg (by omega), if_pos (by omega), show i - (181 + 122 * n) = k by omega]
  · rw [if_neg c]
    by_cases c2 : x = 167 ∧ 181 + 122 * n ≤ i ∧ i < 181 + 122 * n + k
    · rw [if_pos c2, if_pos (show x = 167 ∧ 181 + 122 * n ≤ i ∧ i < 181 + 122 * n + (k + 1) by omega)]
    · rw [if_neg c2, if_neg (show ¬ (x = 167 ∧ 181 + 122 * n ≤ i ∧ i < 181 + 122 * n + (k + 1)) by omega)]
theorem ix179 (n : Nat) : (179 : Int32) + 122 * nI n = nI (179 + 122 * n) := by show nI 179 + nI 122 * nI n = _; rw [pk_mul, nI_add]
set_option maxRecDepth 4000 in
theorem e_m_rule {κ : xKK} {d : Nat} {M : xM} (hz : ∀ j, j < 8 → ∃ z, z ≤ 120 ∧ gI M 172 j = nI z) {nu : Nat} (hu9 : gI M 167 1646 = nI nu) (hu2 : nu ≤ 12) {i : Int32} (hd : 182 ≤ d) : xE2 κ mX12_rule d [.ref 166, .int i] M (fun v M' => (¬ (∃ j, j < 8 ∧ i = nI j) ∧ v = some (.int (-1)) ∧ rkF M M') ∨ ∃ j, j < 8 ∧ i = nI j ∧ ((nu = 12 ∧ v = some (.int (-2)) ∧ rkF M M') ∨ (nu < 12 ∧ ((¬ rWR M j 0 = 0 ∧ v = some (.int (rWR M j 0)) ∧ rkF M M') ∨ (rWR M j 0 = 0 ∧ ¬ okR (tx (fun k => gI M 173 (120 * j + k)) (gI M 172 j).toNatClampNeg) (gI M 172 j).toNatClampNeg ∧ v = some (.int (-100 - flV (tx (fun k => gI M 173 (120 * j + k)) (gI M 172 j).toNatClampNeg) (gI M 172 j).toNatClampNeg)) ∧ rkF M M') ∨ (rWR M j 0 = 0 ∧ okR (tx (fun k => gI M 173 (120 * j + k)) (gI M 172 j).toNatClampNeg) (gI M 172 j).toNatClampNeg ∧ v = some (.int (nI nu)) ∧ ∃ M2, rkF M M2 ∧ M' = rlJ M2 nu j (gI M 172 j).toNatClampNeg (gI M 172 j).toNatClampNeg))))) := by
  refine xE2_of ci_X12_rule cl_X12_rule cw_X12_rule rfl (L := [some (.ref 166), some (.int i), none, none, none, none]) rfl ?_
  have hc46 : (1646 : Int32).toNatClampNeg = 1646 := rfl
  have hs46 : xar 167 0 182 1646 := xar_n (j := 1646) rfl 1651 rfl (by omega) (by omega)
  refine xG_run 1 rfl (by repeat' (first | exact trivial | assumption | exact xob_b rfl | exact xal_b rfl | (apply And.intro) | decide)) ?_
  try dsimp only [xsto1, xsto2, xkill, xget, xset, gd_0, gd_s]
  try rw [hc46]
  refine xG_c2 1 rfl (by repeat' (first | exact trivial | assumption | exact xob_b rfl | exact xal_b rfl | (apply And.intro) | decide)) rfl rfl (by decide) cw_X12_isShelf (d' := d - 1) (e_isShelf (by omega)) (by omega) ?_
  rintro v M' ⟨rfl, hM⟩
  subst M'
  dsimp only [Option.toList, List.cons_append, List.nil_append]
  refine xG_br rfl (fun h4 => ?_) (fun h4 => ?_)
  · have b4 := z1.mp h4
    obtain ⟨j, hj, rfl⟩ := inI_of (n := 8) (show _ ∧ _ < nI 8 from b4) (by omega)
    have hs170 : xar 170 0 182 (nI j) := xar_n rfl 8 rfl hj (by omega)
    have hs171 : xar 171 0 182 (nI j) := xar_n rfl 8 rfl hj (by omega)
    have hs172 : xar 172 0 182 (nI j) := xar_n rfl 8 rfl hj (by omega)
    have hs175 : xar 175 0 182 (nI j) := xar_n rfl 8 rfl hj (by omega)
    have hs176 : xar 176 0 182 (nI j) := xar_n rfl 8 rfl hj (by omega)
    have hj1 : (nI j).toNatClampNeg = j := nI_cl (by omega)
    obtain ⟨z, hz1, hz2⟩ := hz j hj
    have hzc : (gI M 172 j).toNatClampNeg = z := by rw [hz2]; exact nI_cl (by omega)
    refine xG_run 4 rfl (by repeat' (first | exact trivial | assumption | exact xob_b rfl | exact xal_b rfl | (apply And.intro) | decide)) ?_
    try dsimp only [xsto1, xsto2, xkill, xget, xset, gd_0, gd_s]
    try rw [hc46]
    try rw [hc46]
    rw [hu9]
    refine xG_run 1 rfl (by repeat' (first | exact trivial | assumption | exact xob_b rfl | exact xal_b rfl | (apply And.intro) | decide)) ?_
    try dsimp only [xsto1, xsto2, xkill, xget, xset, gd_0, gd_s]
    try rw [hc46]
    refine xG_br rfl (fun h19 => ?_) (fun h19 => ?_)
    · have hnu : nu < 12 := by
        have : ¬ nu = 12 := fun q => h19 (by rw [q]; rfl)
        omega
      refine xG_run 3 rfl (by repeat' (first | exact trivial | assumption | exact xob_b rfl | exact xal_b rfl | (apply And.intro) | decide)) ?_
      try dsimp only [xsto1, xsto2, xkill, xget, xset, gd_0, gd_s]
      try rw [hc46]
      refine xG_c2 2 rfl (by repeat' (first | exact trivial | assumption | exact xob_b rfl | exact xal_b rfl | (apply And.intro) | decide)) rfl rfl (by decide) cw_X12_wrongRow (d' := d - 1) (e_wrongRow (s := 0) (by omega)) (by omega) ?_
      rintro v M' ⟨hv, hM⟩
      subst M'
      obtain rfl : v = some (.int (rWR M j 0)) := by
        rcases hv with ⟨j9, hj9, e9, rfl⟩ | ⟨hno, _⟩
        · rw [show j = j9 from nI_injb (by omega) (by omega) e9.symm]
        · exact absurd ⟨j, hj, rfl⟩ hno
      dsimp only [Option.toList, List.cons_append, List.nil_append]
      refine xG_run 2 rfl (by repeat' (first | exact trivial | assumption | exact xob_b rfl | exact xal_b rfl | (apply And.intro) | decide)) ?_
      try dsimp only [xsto1, xsto2, xkill, xget, xset, gd_0, gd_s]
      try rw [hc46]
      refine xG_br rfl (fun h33 => ?_) (fun h33 => ?_)
      · refine xG_run 2 rfl (by repeat' (first | exact trivial | assumption | exact xob_b rfl | exact xal_b rfl | (apply And.intro) | decide)) ?_
        try dsimp only [xsto1, xsto2, xkill, xget, xset, gd_0, gd_s]
        try rw [hc46]
        refine xG_c2 1 rfl (by repeat' (first | exact trivial | assumption | exact xob_b rfl | exact xal_b rfl | (apply And.intro) | decide)) rfl rfl (by decide) cw_X12_faultOf (d' := d - 1) (e_faultOf hj hz1 hz2 (by omega)) (by omega) ?_
        rintro v M2 ⟨rfl, hk2⟩
        dsimp only [Option.toList, List.cons_append, List.nil_append]
        refine xG_run 3 rfl (by repeat' (first | exact trivial | assumption | exact xob_b rfl | exact xal_b rfl | (apply And.intro) | decide)) ?_
        try dsimp only [xsto1, xsto2, xkill, xget, xset, gd_0, gd_s]
        try rw [hc46]
        refine xG_br rfl (fun h47 => ?_) (fun h47 => ?_)
        · have hk46 : gI M2 167 1646 = nI nu := (hk2.1 _ _ (by omega)).trans hu9
          have hz8 : gI M2 172 j = nI z := (hk2.1 _ _ (by omega)).trans hz2
          have hxa : xar 167 0 182 (nI (179 + 122 * nu)) := xar_n rfl 1651 rfl (by omega) (by omega)
          have hxb : xar 167 0 182 (nI (179 + 122 * nu + 1)) := xar_n rfl 1651 rfl (by omega) (by omega)
          have hcb : (nI (179 + 122 * nu + 1)).toNatClampNeg = 180 + 122 * nu := by rw [nI_cl (by omega)]; omega
          have hca : (nI (179 + 122 * nu)).toNatClampNeg = 179 + 122 * nu := nI_cl (by omega)
          have hz7 : ∀ a b c e, gI (sI (sI M2 167 a b) 167 c e) 172 j = nI z := fun a b c e => (gI_ne (by omega)).trans ((gI_ne (by omega)).trans hz8)
          refine xG_run 4 rfl (by repeat' (first | exact trivial | assumption | exact xob_b rfl | exact xal_b rfl | (apply And.intro) | decide)) ?_
          try dsimp only [xsto1, xsto2, xkill, xget, xset, gd_0, gd_s]
          try rw [hc46]
          try rw [hc46]
          rw [hk46]
          refine xG_run 6 rfl (by repeat' (first | exact trivial | assumption | exact xob_b rfl | exact xal_b rfl | (apply And.intro) | decide)) ?_
          try dsimp only [xsto1, xsto2, xkill, xget, xset, gd_0, gd_s]
          try rw [hc46]
          try rw [hc46]
          rw [hk46]
          refine xG_run 2 rfl (by repeat' (first | exact trivial | assumption | exact xob_b rfl | exact xal_b rfl | (apply And.intro) | decide)) ?_
          try dsimp only [xsto1, xsto2, xkill, xget, xset, gd_0, gd_s]
          try rw [hc46]
          rw [nI_1]
          refine xG_run 8 rfl (by repeat' (first | exact trivial | assumption | exact xob_b rfl | exact xal_b rfl | (apply And.intro) | decide)) ?_
          try dsimp only [xsto1, xsto2, xkill, xget, xset, gd_0, gd_s]
          try rw [hc46]
          rw [ix179]
          refine xG_run 8 rfl (by repeat' (first | exact trivial | assumption | exact xob_b rfl | exact xal_b rfl | (apply And.intro) | decide)) ?_
          try dsimp only [xsto1, xsto2, xkill, xget, xset, gd_0, gd_s]
          try rw [hc46]
          refine xG_run 3 rfl (by repeat' (first | exact trivial | assumption | exact xob_b rfl | exact xal_b rfl | (apply And.intro) | decide)) ?_
          try dsimp only [xsto1, xsto2, xkill, xget, xset, gd_0, gd_s]
          try rw [hc46]
          rw [ix179, nI_1]
          refine xG_run 4 rfl (by repeat' (first | exact trivial | assumption | exact xob_b rfl | exact xal_b rfl | (apply And.intro) | decide)) ?_
          try dsimp only [xsto1, xsto2, xkill, xget, xset, gd_0, gd_s]
          try rw [hc46]
          try rw [hj1]
          try rw [hca]
          rw [hz7]
          refine xG_run 3 rfl (by repeat' (first | exact trivial | assumption | exact xob_b rfl | exact xal_b rfl | (apply And.intro) | decide)) ?_
          try dsimp only [xsto1, xsto2, xkill, xget, xset, gd_0, gd_s]
          try rw [hc46]
          try rw [hca]
          try rw [hcb]
          rw [rlJ_0 (j := j) hnu]
          have hc179 : (nI (179 + 122 * nu)).toNatClampNeg = 179 + 122 * nu := nI_cl (by omega)
          have lp := xG_upP (κ := κ) (m := mX12_rule) (r := (d, 0, 0)) (YS := xRet mX12_rule false (fun v M' n' => n' = 182 ∧ ((¬ (∃ j', j' < 8 ∧ nI j = nI j') ∧ v = some (.int (-1)) ∧ rkF M M') ∨ ∃ j', j' < 8 ∧ nI j = nI j' ∧ ((nu = 12 ∧ v = some (.int (-2)) ∧ rkF M M') ∨ (nu < 12 ∧ ((¬ rWR M j' 0 = 0 ∧ v = some (.int (rWR M j' 0)) ∧ rkF M M') ∨ (rWR M j' 0 = 0 ∧ ¬ okR (tx (fun k => gI M 173 (120 * j' + k)) (gI M 172 j').toNatClampNeg) (gI M 172 j').toNatClampNeg ∧ v = some (.int (-100 - flV (tx (fun k => gI M 173 (120 * j' + k)) (gI M 172 j').toNatClampNeg) (gI M 172 j').toNatClampNeg)) ∧ rkF M M') ∨ (rWR M j' 0 = 0 ∧ okR (tx (fun k => gI M 173 (120 * j' + k)) (gI M 172 j').toNatClampNeg) (gI M 172 j').toNatClampNeg ∧ v = some (.int (nI nu)) ∧ ∃ M2, rkF M M2 ∧ M' = rlJ M2 nu j' (gI M 172 j').toNatClampNeg (gI M 172 j').toNatClampNeg))))))) (fun k X => X = (117, [some (.ref 166), some (.int (nI j)), some (.int (rWR M j 0)), some (.int (flV (tx (fun k => gI M 173 (120 * j + k)) z) z)), some (.int (nI nu)), some (.int (nI k))], [], rlJ M2 nu j z k, z2)) z ?_ ?_ 0 (Nat.zero_le _)
          · exact lp _ rfl
          · rintro k X hk rfl ih
            have hz9 : gI (rlJ M2 nu j z k) 172 j = nI z := by
              rw [rlJ_g, if_neg (by omega), if_neg (by omega), if_neg (by omega), if_neg (by omega)]
              exact (hk2.1 _ _ (by omega)).trans hz2
            have hix : nI (179 + 122 * nu) + 2 + nI k = nI (179 + 122 * nu + 2 + k) := by show nI (179 + 122 * nu) + nI 2 + nI k = _; rw [nI_add, nI_add]
            have hxe : xar 173 0 182 (nI (120 * j + k)) := el_ar (by omega)
            have hxs : xar 167 0 182 (nI (179 + 122 * nu + 2 + k)) := xar_n rfl 1651 rfl (by omega) (by omega)
            have hge : gI (rlJ M2 nu j z k) 173 (nI (120 * j + k)).toNatClampNeg = gI M2 173 (120 * j + k) := by
              rw [nI_cl (by omega), rlJ_g, if_neg (by omega), if_neg (by omega), if_neg (by omega), if_neg (by omega)]
            have hcs : (nI (179 + 122 * nu + 2 + k)).toNatClampNeg = 179 + 122 * nu + 2 + k := nI_cl (by omega)
            refine xG_run 5 rfl (by repeat' (first | exact trivial | assumption | exact xob_b rfl | exact xal_b rfl | (apply And.intro) | decide)) ?_
            try dsimp only [xsto1, xsto2, xkill, xget, xset, gd_0, gd_s]
            try rw [hc46]
            try rw [hj1]
            try rw [hj1]
            rw [hz9]
            refine xG_brF rfl (nI_ge hk (by omega)) ?_
            refine xG_run 8 rfl (by repeat' (first | exact trivial | assumption | exact xob_b rfl | exact xal_b rfl | (apply And.intro) | decide)) ?_
            try dsimp only [xsto1, xsto2, xkill, xget, xset, gd_0, gd_s]
            try rw [hc46]
            try rw [hj1]
            refine xG_run 3 rfl (by repeat' (first | exact trivial | assumption | exact xob_b rfl | exact xal_b rfl | (apply And.intro) | decide)) ?_
            try dsimp only [xsto1, xsto2, xkill, xget, xset, gd_0, gd_s]
            try rw [hc46]
            try rw [hj1]
            rw [ix179, hix]
            refine xG_run 7 rfl (by repeat' (first | exact trivial | assumption | exact xob_b rfl | exact xal_b rfl | (apply And.intro) | decide)) ?_
            try dsimp only [xsto1, xsto2, xkill, xget, xset, gd_0, gd_s]
            try rw [hc46]
            try rw [hj1]
            rw [ix120]
            refine xG_run 1 rfl (by repeat' (first | exact trivial | assumption | exact xob_b rfl | exact xal_b rfl | (apply And.intro) | decide)) ?_
            try dsimp only [xsto1, xsto2, xkill, xget, xset, gd_0, gd_s]
            try rw [hc46]
            try rw [hj1]
            rw [hge]
            refine xG_run 3 rfl (by repeat' (first | exact trivial | assumption | exact xob_b rfl | exact xal_b rfl | (apply And.intro) | decide)) ?_
            try dsimp only [xsto1, xsto2, xkill, xget, xset, gd_0, gd_s]
            try rw [hc46]
            try rw [hj1]
            rw [hcs, nI_1, rlJ_s hnu (by omega)]
            exact ih _ rfl
          · rintro X rfl
            have hz9 : gI (rlJ M2 nu j z z) 172 j = nI z := by
              rw [rlJ_g, if_neg (by omega), if_neg (by omega), if_neg (by omega), if_neg (by omega)]
              exact (hk2.1 _ _ (by omega)).trans hz2
            refine xG_run 5 rfl (by repeat' (first | exact trivial | assumption | exact xob_b rfl | exact xal_b rfl | (apply And.intro) | decide)) ?_
            try dsimp only [xsto1, xsto2, xkill, xget, xset, gd_0, gd_s]
            try rw [hc46]
            try rw [hj1]
            try rw [hj1]
            rw [hz9]
            refine xG_brT rfl (Int32.le_refl _) ?_
            refine xG_run 1 rfl (by repeat' (first | exact trivial | assumption | exact xob_b rfl | exact xal_b rfl | (apply And.intro) | decide)) ?_
            try dsimp only [xsto1, xsto2, xkill, xget, xset, gd_0, gd_s]
            try rw [hc46]
            try rw [hj1]
            refine r2_i rfl rfl ?_
            exact Or.inr ⟨j, hj, rfl, Or.inr ⟨hnu, Or.inr (Or.inr ⟨h33, by rw [hzc]; exact (fl_ok hz1).mp h47, rfl, M2, hk2, by rw [hzc]⟩)⟩⟩
        · refine xG_run 3 rfl (by repeat' (first | exact trivial | assumption | exact xob_b rfl | exact xal_b rfl | (apply And.intro) | decide)) ?_
          try dsimp only [xsto1, xsto2, xkill, xget, xset, gd_0, gd_s]
          try rw [hc46]
          refine r2_i rfl rfl ?_
          exact Or.inr ⟨j, hj, rfl, Or.inr ⟨hnu, Or.inr (Or.inl ⟨h33, by rw [hzc]; exact fun q => h47 ((fl_ok hz1).mpr q), by rw [hzc], hk2⟩)⟩⟩
      · refine xG_run 1 rfl (by repeat' (first | exact trivial | assumption | exact xob_b rfl | exact xal_b rfl | (apply And.intro) | decide)) ?_
        try dsimp only [xsto1, xsto2, xkill, xget, xset, gd_0, gd_s]
        try rw [hc46]
        refine r2_i rfl rfl ?_
        exact Or.inr ⟨j, hj, rfl, Or.inr ⟨hnu, Or.inl ⟨h33, rfl, rkF_r⟩⟩⟩
    · have hnu : nu = 12 := nI_injb (by omega) (by omega) (show nI 12 = nI nu from (Decidable.not_not.mp h19).symm)
      refine xG_run 1 rfl (by repeat' (first | exact trivial | assumption | exact xob_b rfl | exact xal_b rfl | (apply And.intro) | decide)) ?_
      try dsimp only [xsto1, xsto2, xkill, xget, xset, gd_0, gd_s]
      try rw [hc46]
      refine r2_i rfl rfl ?_
      exact Or.inr ⟨j, hj, rfl, Or.inl ⟨hnu, rfl, rkF_r⟩⟩
  · have b4 := z0.mp (Decidable.not_not.mp h4)
    refine xG_run 1 rfl (by repeat' (first | exact trivial | assumption | exact xob_b rfl | exact xal_b rfl | (apply And.intro) | decide)) ?_
    try dsimp only [xsto1, xsto2, xkill, xget, xset, gd_0, gd_s]
    try rw [hc46]
    refine r2_i rfl rfl ?_
    exact Or.inl ⟨fun q => by obtain ⟨j9, a1, a2⟩ := q; exact b4 (by rw [a2]; exact inI (n := 8) a1 (by omega)), rfl, rkF_r⟩
