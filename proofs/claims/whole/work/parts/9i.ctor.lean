section XLIFT
variable {κ : xKK} {Z : State → Prop} {m : xMI} {r : xRm} {YS : xX → Prop} {pc nx n n' k1 k1' k2 k2' : Nat} {L : xLc} {st : List Value} {M : xM} {e1 : (Nat × Nat × Nat) × Int32 × Int64}
theorem xGh_new {cid idx N : Nat} {C : String} {Tt : u_T} (hn : n + 1 = n') (h1 : k1 + 1 = k1') (h2 : k2 + N = k2') (hl : xat m pc = some (.new idx, nx, e1)) (hcl : vwCl[cid]? = some (C, Tt, N)) (hlk : Cond.classLink m.1.1 idx C ∈ GW) (hin : Cond.instantiable C N ∈ GW) (hini : Cond.initialized C ∈ GW) (hs : shp[n]? = some (.inl cid)) (hk1 : k1 + 1 ≤ r.2.1) (hk2 : k2 + N ≤ r.2.2)
    (k : xGh κ Z m r (nx, L, .ref n :: st, zN M n, n', true, k1', k2') YS) : xGh κ Z m r (pc, L, st, M, n, true, k1, k2) YS := by
  subst hn h1 h2
  exact xGh_l (xG_new hl hcl hlk hin hini hs hk1 hk2 (xG_done rfl)) k
theorem xGh_na {at' : ArrayType} {kd len : Nat} {ty : FieldType} {x : Int32} (hn : n + 1 = n') (h1 : k1 + 1 = k1') (h2 : k2 + len = k2') (hl : xat m pc = some (.newarray at', nx, e1)) (hs : shp[n]? = some (.inr (kd, len))) (hty : newarray.typeOf at' = ty) (hkd : (kd = 0 ∧ ty = .int) ∨ (kd = 1 ∧ ty = .long) ∨ (kd = 2 ∧ ty = .boolean)) (hx0 : ¬ x < 0) (hxl : x.toNatClampNeg = len) (hlen : len ≤ 60000) (hk1 : k1 + 1 ≤ r.2.1) (hk2 : k2 + len ≤ r.2.2)
    (k : xGh κ Z m r (nx, L, .ref n :: st, zN M n, n', true, k1', k2') YS) : xGh κ Z m r (pc, L, .int x :: st, M, n, true, k1, k2) YS := by
  subst hn h1 h2
  exact xGh_l (xG_na hl hs hty hkd hx0 hxl hlen hk1 hk2 (xG_done rfl)) k
theorem xGh_aa' {idx kd len : Nat} {C : String} {x : Int32} (hn : n + 1 = n') (h1 : k1 + 1 = k1') (h2 : k2 + len = k2') (hl : xat m pc = some (.anewarray idx, nx, e1)) (hs : shp[n]? = some (.inr (kd, len))) (hkd : (kd = 3 ∧ C = "MastWind$Piece") ∨ (kd = 4 ∧ C = "MastWind$Rope") ∨ (kd = 5 ∧ C = "MastWind$Shelf")) (hlk : Cond.classLink m.1.1 idx C ∈ GW) (hov : ∀ s, Z s → va_AO C s) (hx0 : ¬ x < 0) (hxl : x.toNatClampNeg = len) (hlen : len ≤ 60000) (hk1 : k1 + 1 ≤ r.2.1) (hk2 : k2 + len ≤ r.2.2)
    (k : xGh κ Z m r (nx, L, .ref n :: st, zN M n, n', true, k1', k2') YS) : xGh κ Z m r (pc, L, .int x :: st, M, n, true, k1, k2) YS := by
  subst hn h1 h2
  exact xGh_aa hl hs hkd hlk hov hx0 hxl hlen hk1 hk2 k
theorem xGh_ma' {idx N K : Nat} {x y : Int32} (hn : n + 1 + N = n') (h1 : k1 + 1 + N = k1') (h2 : k2 + N + N * K = k2') (hl : xat m pc = some (.multianewarray idx 2, nx, e1)) (hs : shp[n]? = some (.inr (6, N))) (hsj : ∀ j, j < N → shp[n + 1 + j]? = some (.inr (0, K))) (hlk : Cond.classLink m.1.1 idx "[[I" ∈ GW) (hx0 : ¬ x < 0) (hxl : x.toNatClampNeg = N) (hy0 : ¬ y < 0) (hyl : y.toNatClampNeg = K) (hov : ∀ s, Z s → (Cond.arrayOver (.array .int)).before #[] s = true) (hN : N ≤ 60000) (hKb : K ≤ 60000) (hk1 : k1 + (1 + N) ≤ r.2.1) (hk2 : k2 + (N + N * K) ≤ r.2.2)
    (k : xGh κ Z m r (nx, L, .ref n :: st, zG M n N, n', true, k1', k2') YS) : xGh κ Z m r (pc, L, .int y :: .int x :: st, M, n, true, k1, k2) YS := by
  subst hn h1 h2
  exact xGh_ma hl hs hsj hlk hx0 hxl hy0 hyl hov hN hKb hk1 hk2 k
theorem xGh_obj {idx o : Nat} (hl : xat m pc = some (.invokespecial idx, nx, e1)) (hlk : Cond.methodLink m.1.1 idx Lib.objectInit ∈ GW) (hcat : Nat.ble (xcat st) 8 = true) {z : xZ} (k : xGh κ Z m r (nx, L, st, M, z) YS) : xGh κ Z m r (pc, L, .ref o :: st, M, z) YS := xGh_l (xG_obj hl hlk hcat (xG_done rfl)) k
end XLIFT
/-! what the cells hold when all is made -/
def iI (x k : Nat) : Int32 := bif Nat.beq x 4 || Nat.beq x 31 || Nat.beq x 78 then (bif Nat.blt k 5 then 100 else 0) else bif Nat.beq x 1 || Nat.beq x 28 || Nat.beq x 75 then (bif Nat.beq k 6 then 1 else 0) else bif Nat.beq x 167 then (bif Nat.beq k 1649 then 1 else bif Nat.ble 142 k && Nat.blt k 147 then 100 else 0) else 0
/-- the cell's places that hold references once and for all -/
def pl (x : Nat) : List Nat := match shp[x]? with
  | some (.inl c) => (List.range 33).filter fun k => Nat.beq (xfk c k) 2 && !xdyn x k
  | some (.inr (kd, len)) => bif Nat.ble 3 kd then (List.range len).filter fun k => !xdyn x k else []
  | none => []
def fin' (M : xM) (x : Nat) : Prop := (∀ k, gI M x k = iI x k) ∧ (∀ k, gJ M x k = 0) ∧ ∀ k ∈ pl x, gP M x k = srf x k
def bl (M : xM) (a : Nat) : Prop := ∀ k, gI M a k = 0 ∧ gJ M a k = 0 ∧ gP M a k = none
theorem bl_z (M : xM) (a : Nat) : bl (zN M a) a := fun k => ⟨by rw [gIzN, if_pos rfl], by rw [gJzN, if_pos rfl], by rw [gPzN, if_pos rfl]⟩
def same (M M' : xM) (a : Nat) : Prop := ∀ x k, x < a → gI M' x k = gI M x k ∧ gJ M' x k = gJ M x k ∧ gP M' x k = gP M x k
/-- a constructor of the cells a .. b-1 -/
def cnP (M : xM) (a b : Nat) (v : Option Value) (M' : xM) (n' : Nat) : Prop := v = none ∧ n' = b ∧ same M M' a ∧ ∀ x, a ≤ x → x < b → fin' M' x
theorem gwo_2 : Cond.methodLink mX2_init.1.1 3 Lib.objectInit ∈ GW := xw1 (by decide +kernel)
theorem gwo_9 : Cond.methodLink mX9_init.1.1 1 Lib.objectInit ∈ GW := xw1 (by decide +kernel)
theorem gwo_4 : Cond.methodLink mX4_init.1.1 3 Lib.objectInit ∈ GW := xw1 (by decide +kernel)
theorem gwc_4_9 : Cond.classLink mX4_init.1.1 9 "MastWind$Rope" ∈ GW := xw1 (by decide +kernel)
theorem gwo_6 : Cond.methodLink mX6_init.1.1 3 Lib.objectInit ∈ GW := xw1 (by decide +kernel)
theorem gwo_10 : Cond.methodLink mX10_init.1.1 3 Lib.objectInit ∈ GW := xw1 (by decide +kernel)
theorem gwo_7 : Cond.methodLink mX7_init.1.1 3 Lib.objectInit ∈ GW := xw1 (by decide +kernel)
theorem gwc_7_9 : Cond.classLink mX7_init.1.1 9 "[[I" ∈ GW := xw1 (by decide +kernel)
theorem gwo_0 : Cond.methodLink mX0_init.1.1 3 Lib.objectInit ∈ GW := xw1 (by decide +kernel)
theorem gwc_0_15 : Cond.classLink mX0_init.1.1 15 "MastWind$Piece" ∈ GW := xw1 (by decide +kernel)
theorem gwc_0_21 : Cond.classLink mX0_init.1.1 21 "MastWind$Rope" ∈ GW := xw1 (by decide +kernel)
set_option maxRecDepth 8000 in
set_option maxHeartbeats 2000000 in
theorem k_X2_71 {κ : xKK} {M : xM} (hb : bl M 71) : xEz κ mX2_init (0, 3, 24) [.ref 71] M 72 (cnP M 71 75) := by
  refine xEz_of ci_X2_init cl_X2_init cw_X2_init rfl (L := [some (.ref 71)]) rfl ?_
  refine xGh_run 1 rfl (by repeat' (first | exact trivial | assumption | exact xob_b rfl | exact xal_b rfl | exact xar_b rfl _ rfl (by decide) (by decide) | (apply And.intro) | decide)) ?_
  try dsimp only [xsto1, xsto2, xkill, xget, xset, gd_0, gd_s]
  refine xGh_obj rfl gwo_2 rfl ?_
  refine xGh_run 2 rfl (by repeat' (first | exact trivial | assumption | exact xob_b rfl | exact xal_b rfl | exact xar_b rfl _ rfl (by decide) (by decide) | (apply And.intro) | decide)) ?_
  try dsimp only [xsto1, xsto2, xkill, xget, xset, gd_0, gd_s]
  refine xGh_na (n' := 73) (k1' := 1) (k2' := 8) rfl rfl rfl rfl rfl rfl (Or.inl ⟨rfl, rfl⟩) (by decide) rfl (by decide) (by decide) (by decide) ?_
  refine xGh_run 3 rfl (by repeat' (first | exact trivial | assumption | exact xob_b rfl | exact xal_b rfl | exact xar_b rfl _ rfl (by decide) (by decide) | (apply And.intro) | decide)) ?_
  try dsimp only [xsto1, xsto2, xkill, xget, xset, gd_0, gd_s]
  refine xGh_na (n' := 74) (k1' := 2) (k2' := 16) rfl rfl rfl rfl rfl rfl (Or.inl ⟨rfl, rfl⟩) (by decide) rfl (by decide) (by decide) (by decide) ?_
  refine xGh_run 3 rfl (by repeat' (first | exact trivial | assumption | exact xob_b rfl | exact xal_b rfl | exact xar_b rfl _ rfl (by decide) (by decide) | (apply And.intro) | decide)) ?_
  try dsimp only [xsto1, xsto2, xkill, xget, xset, gd_0, gd_s]
  refine xGh_na (n' := 75) (k1' := 3) (k2' := 24) rfl rfl rfl rfl rfl rfl (Or.inl ⟨rfl, rfl⟩) (by decide) rfl (by decide) (by decide) (by decide) ?_
  refine xGh_run 1 rfl (by repeat' (first | exact trivial | assumption | exact xob_b rfl | exact xal_b rfl | exact xar_b rfl _ rfl (by decide) (by decide) | (apply And.intro) | decide)) ?_
  try dsimp only [xsto1, xsto2, xkill, xget, xset, gd_0, gd_s]
  refine xGh_done ⟨_, rfl, rfl, Or.inr (Or.inr (Or.inr ⟨rfl, rfl, rfl, ?_⟩))⟩
  refine ⟨rfl, rfl, fun x k hx => ⟨?_, ?_, ?_⟩, fun x hx1 hx2 => ?_⟩
  · simp (disch := omega) only [gIzN, gIsP, gIsI, gIsJ, gJzN, gJsP, gJsI, gJsJ, gPzN, gPsI, gPsJ, gPsP, gIzG, gJzG, gPzG, if_neg]
  · simp (disch := omega) only [gIzN, gIsP, gIsI, gIsJ, gJzN, gJsP, gJsI, gJsJ, gPzN, gPsI, gPsJ, gPsP, gIzG, gJzG, gPzG, if_neg]
  · simp (disch := omega) only [gIzN, gIsP, gIsI, gIsJ, gJzN, gJsP, gJsI, gJsJ, gPzN, gPsI, gPsJ, gPsP, gIzG, gJzG, gPzG, if_neg]
  · obtain rfl | rfl | rfl | rfl : x = 71 ∨ x = 72 ∨ x = 73 ∨ x = 74 := by omega
    · refine ⟨fun k => ?_, fun k => ?_, ?_⟩
      · show _ = (0 : Int32)
        simp [gIzN, gIsP, gIsI, gIsJ, gJzN, gJsP, gJsI, gJsJ, gPzN, gPsI, gPsJ, gPsP, gIzG, gJzG, gPzG, hb k]
      · simp [gIzN, gIsP, gIsI, gIsJ, gJzN, gJsP, gJsI, gJsJ, gPzN, gPsI, gPsJ, gPsP, gIzG, gJzG, gPzG, hb k]
      · show ∀ k ∈ ([0, 1, 2] : List Nat), _
        refine List.forall_mem_cons.mpr ⟨?_, ?_⟩
        · show _ = some 72
          simp [gIzN, gIsP, gIsI, gIsJ, gJzN, gJsP, gJsI, gJsJ, gPzN, gPsI, gPsJ, gPsP, gIzG, gJzG, gPzG]
        refine List.forall_mem_cons.mpr ⟨?_, ?_⟩
        · show _ = some 73
          simp [gIzN, gIsP, gIsI, gIsJ, gJzN, gJsP, gJsI, gJsJ, gPzN, gPsI, gPsJ, gPsP, gIzG, gJzG, gPzG]
        refine List.forall_mem_cons.mpr ⟨?_, ?_⟩
        · show _ = some 74
          simp [gIzN, gIsP, gIsI, gIsJ, gJzN, gJsP, gJsI, gJsJ, gPzN, gPsI, gPsJ, gPsP, gIzG, gJzG, gPzG]
        exact List.forall_mem_nil _
    · refine ⟨fun k => ?_, fun k => ?_, ?_⟩
      · show _ = (0 : Int32)
        simp [gIzN, gIsP, gIsI, gIsJ, gJzN, gJsP, gJsI, gJsJ, gPzN, gPsI, gPsJ, gPsP, gIzG, gJzG, gPzG, hb k]
      · simp [gIzN, gIsP, gIsI, gIsJ, gJzN, gJsP, gJsI, gJsJ, gPzN, gPsI, gPsJ, gPsP, gIzG, gJzG, gPzG, hb k]
      · show ∀ k ∈ ([] : List Nat), _
        exact List.forall_mem_nil _
    · refine ⟨fun k => ?_, fun k => ?_, ?_⟩
      · show _ = (0 : Int32)
        simp [gIzN, gIsP, gIsI, gIsJ, gJzN, gJsP, gJsI, gJsJ, gPzN, gPsI, gPsJ, gPsP, gIzG, gJzG, gPzG, hb k]
      · simp [gIzN, gIsP, gIsI, gIsJ, gJzN, gJsP, gJsI, gJsJ, gPzN, gPsI, gPsJ, gPsP, gIzG, gJzG, gPzG, hb k]
      · show ∀ k ∈ ([] : List Nat), _
        exact List.forall_mem_nil _
    · refine ⟨fun k => ?_, fun k => ?_, ?_⟩
      · show _ = (0 : Int32)
        simp [gIzN, gIsP, gIsI, gIsJ, gJzN, gJsP, gJsI, gJsJ, gPzN, gPsI, gPsJ, gPsP, gIzG, gJzG, gPzG, hb k]
      · simp [gIzN, gIsP, gIsI, gIsJ, gJzN, gJsP, gJsI, gJsJ, gPzN, gPsI, gPsJ, gPsP, gIzG, gJzG, gPzG, hb k]
      · show ∀ k ∈ ([] : List Nat), _
        exact List.forall_mem_nil _
set_option maxRecDepth 8000 in
set_option maxHeartbeats 2000000 in
theorem k_X2_118 {κ : xKK} {M : xM} (hb : bl M 118) : xEz κ mX2_init (0, 3, 24) [.ref 118] M 119 (cnP M 118 122) := by
  refine xEz_of ci_X2_init cl_X2_init cw_X2_init rfl (L := [some (.ref 118)]) rfl ?_
  refine xGh_run 1 rfl (by repeat' (first | exact trivial | assumption | exact xob_b rfl | exact xal_b rfl | exact xar_b rfl _ rfl (by decide) (by decide) | (apply And.intro) | decide)) ?_
  try dsimp only [xsto1, xsto2, xkill, xget, xset, gd_0, gd_s]
  refine xGh_obj rfl gwo_2 rfl ?_
  refine xGh_run 2 rfl (by repeat' (first | exact trivial | assumption | exact xob_b rfl | exact xal_b rfl | exact xar_b rfl _ rfl (by decide) (by decide) | (apply And.intro) | decide)) ?_
  try dsimp only [xsto1, xsto2, xkill, xget, xset, gd_0, gd_s]
  refine xGh_na (n' := 120) (k1' := 1) (k2' := 8) rfl rfl rfl rfl rfl rfl (Or.inl ⟨rfl, rfl⟩) (by decide) rfl (by decide) (by decide) (by decide) ?_
  refine xGh_run 3 rfl (by repeat' (first | exact trivial | assumption | exact xob_b rfl | exact xal_b rfl | exact xar_b rfl _ rfl (by decide) (by decide) | (apply And.intro) | decide)) ?_
  try dsimp only [xsto1, xsto2, xkill, xget, xset, gd_0, gd_s]
  refine xGh_na (n' := 121) (k1' := 2) (k2' := 16) rfl rfl rfl rfl rfl rfl (Or.inl ⟨rfl, rfl⟩) (by decide) rfl (by decide) (by decide) (by decide) ?_
  refine xGh_run 3 rfl (by repeat' (first | exact trivial | assumption | exact xob_b rfl | exact xal_b rfl | exact xar_b rfl _ rfl (by decide) (by decide) | (apply And.intro) | decide)) ?_
  try dsimp only [xsto1, xsto2, xkill, xget, xset, gd_0, gd_s]
  refine xGh_na (n' := 122) (k1' := 3) (k2' := 24) rfl rfl rfl rfl rfl rfl (Or.inl ⟨rfl, rfl⟩) (by decide) rfl (by decide) (by decide) (by decide) ?_
  refine xGh_run 1 rfl (by repeat' (first | exact trivial | assumption | exact xob_b rfl | exact xal_b rfl | exact xar_b rfl _ rfl (by decide) (by decide) | (apply And.intro) | decide)) ?_
  try dsimp only [xsto1, xsto2, xkill, xget, xset, gd_0, gd_s]
  refine xGh_done ⟨_, rfl, rfl, Or.inr (Or.inr (Or.inr ⟨rfl, rfl, rfl, ?_⟩))⟩
  refine ⟨rfl, rfl, fun x k hx => ⟨?_, ?_, ?_⟩, fun x hx1 hx2 => ?_⟩
  · simp (disch := omega) only [gIzN, gIsP, gIsI, gIsJ, gJzN, gJsP, gJsI, gJsJ, gPzN, gPsI, gPsJ, gPsP, gIzG, gJzG, gPzG, if_neg]
  · simp (disch := omega) only [gIzN, gIsP, gIsI, gIsJ, gJzN, gJsP, gJsI, gJsJ, gPzN, gPsI, gPsJ, gPsP, gIzG, gJzG, gPzG, if_neg]
  · simp (disch := omega) only [gIzN, gIsP, gIsI, gIsJ, gJzN, gJsP, gJsI, gJsJ, gPzN, gPsI, gPsJ, gPsP, gIzG, gJzG, gPzG, if_neg]
  · obtain rfl | rfl | rfl | rfl : x = 118 ∨ x = 119 ∨ x = 120 ∨ x = 121 := by omega
    · refine ⟨fun k => ?_, fun k => ?_, ?_⟩
      · show _ = (0 : Int32)
        simp [gIzN, gIsP, gIsI, gIsJ, gJzN, gJsP, gJsI, gJsJ, gPzN, gPsI, gPsJ, gPsP, gIzG, gJzG, gPzG, hb k]
      · simp [gIzN, gIsP, gIsI, gIsJ, gJzN, gJsP, gJsI, gJsJ, gPzN, gPsI, gPsJ, gPsP, gIzG, gJzG, gPzG, hb k]
      · show ∀ k ∈ ([0, 1, 2] : List Nat), _
        refine List.forall_mem_cons.mpr ⟨?_, ?_⟩
        · show _ = some 119
          simp [gIzN, gIsP, gIsI, gIsJ, gJzN, gJsP, gJsI, gJsJ, gPzN, gPsI, gPsJ, gPsP, gIzG, gJzG, gPzG]
        refine List.forall_mem_cons.mpr ⟨?_, ?_⟩
        · show _ = some 120
          simp [gIzN, gIsP, gIsI, gIsJ, gJzN, gJsP, gJsI, gJsJ, gPzN, gPsI, gPsJ, gPsP, gIzG, gJzG, gPzG]
        refine List.forall_mem_cons.mpr ⟨?_, ?_⟩
        · show _ = some 121
          simp [gIzN, gIsP, gIsI, gIsJ, gJzN, gJsP, gJsI, gJsJ, gPzN, gPsI, gPsJ, gPsP, gIzG, gJzG, gPzG]
        exact List.forall_mem_nil _
    · refine ⟨fun k => ?_, fun k => ?_, ?_⟩
      · show _ = (0 : Int32)
        simp [gIzN, gIsP, gIsI, gIsJ, gJzN, gJsP, gJsI, gJsJ, gPzN, gPsI, gPsJ, gPsP, gIzG, gJzG, gPzG, hb k]
      · simp [gIzN, gIsP, gIsI, gIsJ, gJzN, gJsP, gJsI, gJsJ, gPzN, gPsI, gPsJ, gPsP, gIzG, gJzG, gPzG, hb k]
      · show ∀ k ∈ ([] : List Nat), _
        exact List.forall_mem_nil _
    · refine ⟨fun k => ?_, fun k => ?_, ?_⟩
      · show _ = (0 : Int32)
        simp [gIzN, gIsP, gIsI, gIsJ, gJzN, gJsP, gJsI, gJsJ, gPzN, gPsI, gPsJ, gPsP, gIzG, gJzG, gPzG, hb k]
      · simp [gIzN, gIsP, gIsI, gIsJ, gJzN, gJsP, gJsI, gJsJ, gPzN, gPsI, gPsJ, gPsP, gIzG, gJzG, gPzG, hb k]
      · show ∀ k ∈ ([] : List Nat), _
        exact List.forall_mem_nil _
    · refine ⟨fun k => ?_, fun k => ?_, ?_⟩
      · show _ = (0 : Int32)
        simp [gIzN, gIsP, gIsI, gIsJ, gJzN, gJsP, gJsI, gJsJ, gPzN, gPsI, gPsJ, gPsP, gIzG, gJzG, gPzG, hb k]
      · simp [gIzN, gIsP, gIsI, gIsJ, gJzN, gJsP, gJsI, gJsJ, gPzN, gPsI, gPsJ, gPsP, gIzG, gJzG, gPzG, hb k]
      · show ∀ k ∈ ([] : List Nat), _
        exact List.forall_mem_nil _
set_option maxRecDepth 8000 in
set_option maxHeartbeats 2000000 in
theorem k_X9_141 {κ : xKK} {M : xM} (hb : bl M 141) : xEz κ mX9_init (0, 0, 0) [.ref 141] M 142 (cnP M 141 142) := by
  refine xEz_of ci_X9_init cl_X9_init cw_X9_init rfl (L := [some (.ref 141)]) rfl ?_
  refine xGh_run 1 rfl (by repeat' (first | exact trivial | assumption | exact xob_b rfl | exact xal_b rfl | exact xar_b rfl _ rfl (by decide) (by decide) | (apply And.intro) | decide)) ?_
  try dsimp only [xsto1, xsto2, xkill, xget, xset, gd_0, gd_s]
  refine xGh_obj rfl gwo_9 rfl ?_
  refine xGh_done ⟨_, rfl, rfl, Or.inr (Or.inr (Or.inr ⟨rfl, rfl, rfl, ?_⟩))⟩
  refine ⟨rfl, rfl, fun x k hx => ⟨?_, ?_, ?_⟩, fun x hx1 hx2 => ?_⟩
  · simp (disch := omega) only [gIzN, gIsP, gIsI, gIsJ, gJzN, gJsP, gJsI, gJsJ, gPzN, gPsI, gPsJ, gPsP, gIzG, gJzG, gPzG, if_neg]
  · simp (disch := omega) only [gIzN, gIsP, gIsI, gIsJ, gJzN, gJsP, gJsI, gJsJ, gPzN, gPsI, gPsJ, gPsP, gIzG, gJzG, gPzG, if_neg]
  · simp (disch := omega) only [gIzN, gIsP, gIsI, gIsJ, gJzN, gJsP, gJsI, gJsJ, gPzN, gPsI, gPsJ, gPsP, gIzG, gJzG, gPzG, if_neg]
  · obtain rfl : x = 141 := by omega
    · refine ⟨fun k => ?_, fun k => ?_, ?_⟩
      · show _ = (0 : Int32)
        simp [gIzN, gIsP, gIsI, gIsJ, gJzN, gJsP, gJsI, gJsJ, gPzN, gPsI, gPsJ, gPsP, gIzG, gJzG, gPzG, hb k]
      · simp [gIzN, gIsP, gIsI, gIsJ, gJzN, gJsP, gJsI, gJsJ, gPzN, gPsI, gPsJ, gPsP, gIzG, gJzG, gPzG, hb k]
      · show ∀ k ∈ ([] : List Nat), _
        exact List.forall_mem_nil _
set_option maxRecDepth 8000 in
set_option maxHeartbeats 2000000 in
theorem k_X4_136 {κ : xKK} {M : xM} (hb : bl M 136) : xEz κ mX4_init (0, 4, 82) [.ref 136] M 137 (cnP M 136 141) := by
  refine xEz_of ci_X4_init cl_X4_init cw_X4_init rfl (L := [some (.ref 136)]) rfl ?_
  refine xGh_run 1 rfl (by repeat' (first | exact trivial | assumption | exact xob_b rfl | exact xal_b rfl | exact xar_b rfl _ rfl (by decide) (by decide) | (apply And.intro) | decide)) ?_
  try dsimp only [xsto1, xsto2, xkill, xget, xset, gd_0, gd_s]
  refine xGh_obj rfl gwo_4 rfl ?_
  refine xGh_run 2 rfl (by repeat' (first | exact trivial | assumption | exact xob_b rfl | exact xal_b rfl | exact xar_b rfl _ rfl (by decide) (by decide) | (apply And.intro) | decide)) ?_
  try dsimp only [xsto1, xsto2, xkill, xget, xset, gd_0, gd_s]
  refine xGh_aa' (n' := 138) (k1' := 1) (k2' := 6) (C := "MastWind$Rope") rfl rfl rfl rfl rfl (Or.inr (Or.inl ⟨rfl, rfl⟩)) gwc_4_9 (fun _ h => h.2.1) (by decide) rfl (by decide) (by decide) (by decide) ?_
  refine xGh_run 3 rfl (by repeat' (first | exact trivial | assumption | exact xob_b rfl | exact xal_b rfl | exact xar_b rfl _ rfl (by decide) (by decide) | (apply And.intro) | decide)) ?_
  try dsimp only [xsto1, xsto2, xkill, xget, xset, gd_0, gd_s]
  refine xGh_na (n' := 139) (k1' := 2) (k2' := 12) rfl rfl rfl rfl rfl rfl (Or.inl ⟨rfl, rfl⟩) (by decide) rfl (by decide) (by decide) (by decide) ?_
  refine xGh_run 3 rfl (by repeat' (first | exact trivial | assumption | exact xob_b rfl | exact xal_b rfl | exact xar_b rfl _ rfl (by decide) (by decide) | (apply And.intro) | decide)) ?_
  try dsimp only [xsto1, xsto2, xkill, xget, xset, gd_0, gd_s]
  refine xGh_na (n' := 140) (k1' := 3) (k2' := 18) rfl rfl rfl rfl rfl rfl (Or.inl ⟨rfl, rfl⟩) (by decide) rfl (by decide) (by decide) (by decide) ?_
  refine xGh_run 3 rfl (by repeat' (first | exact trivial | assumption | exact xob_b rfl | exact xal_b rfl | exact xar_b rfl _ rfl (by decide) (by decide) | (apply And.intro) | decide)) ?_
  try dsimp only [xsto1, xsto2, xkill, xget, xset, gd_0, gd_s]
  refine xGh_na (n' := 141) (k1' := 4) (k2' := 82) rfl rfl rfl rfl rfl rfl (Or.inl ⟨rfl, rfl⟩) (by decide) rfl (by decide) (by decide) (by decide) ?_
  refine xGh_run 1 rfl (by repeat' (first | exact trivial | assumption | exact xob_b rfl | exact xal_b rfl | exact xar_b rfl _ rfl (by decide) (by decide) | (apply And.intro) | decide)) ?_
  try dsimp only [xsto1, xsto2, xkill, xget, xset, gd_0, gd_s]
  refine xGh_done ⟨_, rfl, rfl, Or.inr (Or.inr (Or.inr ⟨rfl, rfl, rfl, ?_⟩))⟩
  refine ⟨rfl, rfl, fun x k hx => ⟨?_, ?_, ?_⟩, fun x hx1 hx2 => ?_⟩
  · simp (disch := omega) only [gIzN, gIsP, gIsI, gIsJ, gJzN, gJsP, gJsI, gJsJ, gPzN, gPsI, gPsJ, gPsP, gIzG, gJzG, gPzG, if_neg]
  · simp (disch := omega) only [gIzN, gIsP, gIsI, gIsJ, gJzN, gJsP, gJsI, gJsJ, gPzN, gPsI, gPsJ, gPsP, gIzG, gJzG, gPzG, if_neg]
  · simp (disch := omega) only [gIzN, gIsP, gIsI, gIsJ, gJzN, gJsP, gJsI, gJsJ, gPzN, gPsI, gPsJ, gPsP, gIzG, gJzG, gPzG, if_neg]
  · obtain rfl | rfl | rfl | rfl | rfl : x = 136 ∨ x = 137 ∨ x = 138 ∨ x = 139 ∨ x = 140 := by omega
    · refine ⟨fun k => ?_, fun k => ?_, ?_⟩
      · show _ = (0 : Int32)
        simp [gIzN, gIsP, gIsI, gIsJ, gJzN, gJsP, gJsI, gJsJ, gPzN, gPsI, gPsJ, gPsP, gIzG, gJzG, gPzG, hb k]
      · simp [gIzN, gIsP, gIsI, gIsJ, gJzN, gJsP, gJsI, gJsJ, gPzN, gPsI, gPsJ, gPsP, gIzG, gJzG, gPzG, hb k]
      · show ∀ k ∈ ([0, 1, 2, 7] : List Nat), _
        refine List.forall_mem_cons.mpr ⟨?_, ?_⟩
        · show _ = some 137
          simp [gIzN, gIsP, gIsI, gIsJ, gJzN, gJsP, gJsI, gJsJ, gPzN, gPsI, gPsJ, gPsP, gIzG, gJzG, gPzG]
        refine List.forall_mem_cons.mpr ⟨?_, ?_⟩
        · show _ = some 138
          simp [gIzN, gIsP, gIsI, gIsJ, gJzN, gJsP, gJsI, gJsJ, gPzN, gPsI, gPsJ, gPsP, gIzG, gJzG, gPzG]
        refine List.forall_mem_cons.mpr ⟨?_, ?_⟩
        · show _ = some 139
          simp [gIzN, gIsP, gIsI, gIsJ, gJzN, gJsP, gJsI, gJsJ, gPzN, gPsI, gPsJ, gPsP, gIzG, gJzG, gPzG]
        refine List.forall_mem_cons.mpr ⟨?_, ?_⟩
        · show _ = some 140
          simp [gIzN, gIsP, gIsI, gIsJ, gJzN, gJsP, gJsI, gJsJ, gPzN, gPsI, gPsJ, gPsP, gIzG, gJzG, gPzG]
        exact List.forall_mem_nil _
    · refine ⟨fun k => ?_, fun k => ?_, ?_⟩
      · show _ = (0 : Int32)
        simp [gIzN, gIsP, gIsI, gIsJ, gJzN, gJsP, gJsI, gJsJ, gPzN, gPsI, gPsJ, gPsP, gIzG, gJzG, gPzG, hb k]
      · simp [gIzN, gIsP, gIsI, gIsJ, gJzN, gJsP, gJsI, gJsJ, gPzN, gPsI, gPsJ, gPsP, gIzG, gJzG, gPzG, hb k]
      · show ∀ k ∈ ([] : List Nat), _
        exact List.forall_mem_nil _
    · refine ⟨fun k => ?_, fun k => ?_, ?_⟩
      · show _ = (0 : Int32)
        simp [gIzN, gIsP, gIsI, gIsJ, gJzN, gJsP, gJsI, gJsJ, gPzN, gPsI, gPsJ, gPsP, gIzG, gJzG, gPzG, hb k]
      · simp [gIzN, gIsP, gIsI, gIsJ, gJzN, gJsP, gJsI, gJsJ, gPzN, gPsI, gPsJ, gPsP, gIzG, gJzG, gPzG, hb k]
      · show ∀ k ∈ ([] : List Nat), _
        exact List.forall_mem_nil _
    · refine ⟨fun k => ?_, fun k => ?_, ?_⟩
      · show _ = (0 : Int32)
        simp [gIzN, gIsP, gIsI, gIsJ, gJzN, gJsP, gJsI, gJsJ, gPzN, gPsI, gPsJ, gPsP, gIzG, gJzG, gPzG, hb k]
      · simp [gIzN, gIsP, gIsI, gIsJ, gJzN, gJsP, gJsI, gJsJ, gPzN, gPsI, gPsJ, gPsP, gIzG, gJzG, gPzG, hb k]
      · show ∀ k ∈ ([] : List Nat), _
        exact List.forall_mem_nil _
    · refine ⟨fun k => ?_, fun k => ?_, ?_⟩
      · show _ = (0 : Int32)
        simp [gIzN, gIsP, gIsI, gIsJ, gJzN, gJsP, gJsI, gJsJ, gPzN, gPsI, gPsJ, gPsP, gIzG, gJzG, gPzG, hb k]
      · simp [gIzN, gIsP, gIsI, gIsJ, gJzN, gJsP, gJsI, gJsJ, gPzN, gPsI, gPsJ, gPsP, gIzG, gJzG, gPzG, hb k]
      · show ∀ k ∈ ([] : List Nat), _
        exact List.forall_mem_nil _
set_option maxRecDepth 8000 in
set_option maxHeartbeats 2000000 in
theorem k_X6_130 {κ : xKK} {M : xM} (hb : bl M 130) : xEz κ mX6_init (0, 5, 35) [.ref 130] M 131 (cnP M 130 136) := by
  refine xEz_of ci_X6_init cl_X6_init cw_X6_init rfl (L := [some (.ref 130)]) rfl ?_
  refine xGh_run 1 rfl (by repeat' (first | exact trivial | assumption | exact xob_b rfl | exact xal_b rfl | exact xar_b rfl _ rfl (by decide) (by decide) | (apply And.intro) | decide)) ?_
  try dsimp only [xsto1, xsto2, xkill, xget, xset, gd_0, gd_s]
  refine xGh_obj rfl gwo_6 rfl ?_
  refine xGh_run 2 rfl (by repeat' (first | exact trivial | assumption | exact xob_b rfl | exact xal_b rfl | exact xar_b rfl _ rfl (by decide) (by decide) | (apply And.intro) | decide)) ?_
  try dsimp only [xsto1, xsto2, xkill, xget, xset, gd_0, gd_s]
  refine xGh_na (n' := 132) (k1' := 1) (k2' := 8) rfl rfl rfl rfl rfl rfl (Or.inl ⟨rfl, rfl⟩) (by decide) rfl (by decide) (by decide) (by decide) ?_
  refine xGh_run 3 rfl (by repeat' (first | exact trivial | assumption | exact xob_b rfl | exact xal_b rfl | exact xar_b rfl _ rfl (by decide) (by decide) | (apply And.intro) | decide)) ?_
  try dsimp only [xsto1, xsto2, xkill, xget, xset, gd_0, gd_s]
  refine xGh_na (n' := 133) (k1' := 2) (k2' := 8) rfl rfl rfl rfl rfl rfl (Or.inl ⟨rfl, rfl⟩) (by decide) rfl (by decide) (by decide) (by decide) ?_
  refine xGh_run 3 rfl (by repeat' (first | exact trivial | assumption | exact xob_b rfl | exact xal_b rfl | exact xar_b rfl _ rfl (by decide) (by decide) | (apply And.intro) | decide)) ?_
  try dsimp only [xsto1, xsto2, xkill, xget, xset, gd_0, gd_s]
  refine xGh_na (n' := 134) (k1' := 3) (k2' := 17) rfl rfl rfl rfl rfl rfl (Or.inr (Or.inr ⟨rfl, rfl⟩)) (by decide) rfl (by decide) (by decide) (by decide) ?_
  refine xGh_run 3 rfl (by repeat' (first | exact trivial | assumption | exact xob_b rfl | exact xal_b rfl | exact xar_b rfl _ rfl (by decide) (by decide) | (apply And.intro) | decide)) ?_
  try dsimp only [xsto1, xsto2, xkill, xget, xset, gd_0, gd_s]
  refine xGh_na (n' := 135) (k1' := 4) (k2' := 26) rfl rfl rfl rfl rfl rfl (Or.inr (Or.inr ⟨rfl, rfl⟩)) (by decide) rfl (by decide) (by decide) (by decide) ?_
  refine xGh_run 3 rfl (by repeat' (first | exact trivial | assumption | exact xob_b rfl | exact xal_b rfl | exact xar_b rfl _ rfl (by decide) (by decide) | (apply And.intro) | decide)) ?_
  try dsimp only [xsto1, xsto2, xkill, xget, xset, gd_0, gd_s]
  refine xGh_na (n' := 136) (k1' := 5) (k2' := 35) rfl rfl rfl rfl rfl rfl (Or.inr (Or.inr ⟨rfl, rfl⟩)) (by decide) rfl (by decide) (by decide) (by decide) ?_
  refine xGh_run 1 rfl (by repeat' (first | exact trivial | assumption | exact xob_b rfl | exact xal_b rfl | exact xar_b rfl _ rfl (by decide) (by decide) | (apply And.intro) | decide)) ?_
  try dsimp only [xsto1, xsto2, xkill, xget, xset, gd_0, gd_s]
  refine xGh_done ⟨_, rfl, rfl, Or.inr (Or.inr (Or.inr ⟨rfl, rfl, rfl, ?_⟩))⟩
  refine ⟨rfl, rfl, fun x k hx => ⟨?_, ?_, ?_⟩, fun x hx1 hx2 => ?_⟩
  · simp (disch := omega) only [gIzN, gIsP, gIsI, gIsJ, gJzN, gJsP, gJsI, gJsJ, gPzN, gPsI, gPsJ, gPsP, gIzG, gJzG, gPzG, if_neg]
  · simp (disch := omega) only [gIzN, gIsP, gIsI, gIsJ, gJzN, gJsP, gJsI, gJsJ, gPzN, gPsI, gPsJ, gPsP, gIzG, gJzG, gPzG, if_neg]
  · simp (disch := omega) only [gIzN, gIsP, gIsI, gIsJ, gJzN, gJsP, gJsI, gJsJ, gPzN, gPsI, gPsJ, gPsP, gIzG, gJzG, gPzG, if_neg]
  · obtain rfl | rfl | rfl | rfl | rfl | rfl : x = 130 ∨ x = 131 ∨ x = 132 ∨ x = 133 ∨ x = 134 ∨ x = 135 := by omega
    · refine ⟨fun k => ?_, fun k => ?_, ?_⟩
      · show _ = (0 : Int32)
        simp [gIzN, gIsP, gIsI, gIsJ, gJzN, gJsP, gJsI, gJsJ, gPzN, gPsI, gPsJ, gPsP, gIzG, gJzG, gPzG, hb k]
      · simp [gIzN, gIsP, gIsI, gIsJ, gJzN, gJsP, gJsI, gJsJ, gPzN, gPsI, gPsJ, gPsP, gIzG, gJzG, gPzG, hb k]
      · show ∀ k ∈ ([0, 7, 8, 9] : List Nat), _
        refine List.forall_mem_cons.mpr ⟨?_, ?_⟩
        · show _ = some 131
          simp [gIzN, gIsP, gIsI, gIsJ, gJzN, gJsP, gJsI, gJsJ, gPzN, gPsI, gPsJ, gPsP, gIzG, gJzG, gPzG]
        refine List.forall_mem_cons.mpr ⟨?_, ?_⟩
        · show _ = some 133
          simp [gIzN, gIsP, gIsI, gIsJ, gJzN, gJsP, gJsI, gJsJ, gPzN, gPsI, gPsJ, gPsP, gIzG, gJzG, gPzG]
        refine List.forall_mem_cons.mpr ⟨?_, ?_⟩
        · show _ = some 134
          simp [gIzN, gIsP, gIsI, gIsJ, gJzN, gJsP, gJsI, gJsJ, gPzN, gPsI, gPsJ, gPsP, gIzG, gJzG, gPzG]
        refine List.forall_mem_cons.mpr ⟨?_, ?_⟩
        · show _ = some 135
          simp [gIzN, gIsP, gIsI, gIsJ, gJzN, gJsP, gJsI, gJsJ, gPzN, gPsI, gPsJ, gPsP, gIzG, gJzG, gPzG]
        exact List.forall_mem_nil _
    · refine ⟨fun k => ?_, fun k => ?_, ?_⟩
      · show _ = (0 : Int32)
        simp [gIzN, gIsP, gIsI, gIsJ, gJzN, gJsP, gJsI, gJsJ, gPzN, gPsI, gPsJ, gPsP, gIzG, gJzG, gPzG, hb k]
      · simp [gIzN, gIsP, gIsI, gIsJ, gJzN, gJsP, gJsI, gJsJ, gPzN, gPsI, gPsJ, gPsP, gIzG, gJzG, gPzG, hb k]
      · show ∀ k ∈ ([] : List Nat), _
        exact List.forall_mem_nil _
    · refine ⟨fun k => ?_, fun k => ?_, ?_⟩
      · show _ = (0 : Int32)
        simp [gIzN, gIsP, gIsI, gIsJ, gJzN, gJsP, gJsI, gJsJ, gPzN, gPsI, gPsJ, gPsP, gIzG, gJzG, gPzG, hb k]
      · simp [gIzN, gIsP, gIsI, gIsJ, gJzN, gJsP, gJsI, gJsJ, gPzN, gPsI, gPsJ, gPsP, gIzG, gJzG, gPzG, hb k]
      · show ∀ k ∈ ([] : List Nat), _
        exact List.forall_mem_nil _
    · refine ⟨fun k => ?_, fun k => ?_, ?_⟩
      · show _ = (0 : Int32)
        simp [gIzN, gIsP, gIsI, gIsJ, gJzN, gJsP, gJsI, gJsJ, gPzN, gPsI, gPsJ, gPsP, gIzG, gJzG, gPzG, hb k]
      · simp [gIzN, gIsP, gIsI, gIsJ, gJzN, gJsP, gJsI, gJsJ, gPzN, gPsI, gPsJ, gPsP, gIzG, gJzG, gPzG, hb k]
      · show ∀ k ∈ ([] : List Nat), _
        exact List.forall_mem_nil _
    · refine ⟨fun k => ?_, fun k => ?_, ?_⟩
      · show _ = (0 : Int32)
        simp [gIzN, gIsP, gIsI, gIsJ, gJzN, gJsP, gJsI, gJsJ, gPzN, gPsI, gPsJ, gPsP, gIzG, gJzG, gPzG, hb k]
      · simp [gIzN, gIsP, gIsI, gIsJ, gJzN, gJsP, gJsI, gJsJ, gPzN, gPsI, gPsJ, gPsP, gIzG, gJzG, gPzG, hb k]
      · show ∀ k ∈ ([] : List Nat), _
        exact List.forall_mem_nil _
    · refine ⟨fun k => ?_, fun k => ?_, ?_⟩
      · show _ = (0 : Int32)
        simp [gIzN, gIsP, gIsI, gIsJ, gJzN, gJsP, gJsI, gJsJ, gPzN, gPsI, gPsJ, gPsP, gIzG, gJzG, gPzG, hb k]
      · simp [gIzN, gIsP, gIsI, gIsJ, gJzN, gJsP, gJsI, gJsJ, gPzN, gPsI, gPsJ, gPsP, gIzG, gJzG, gPzG, hb k]
      · show ∀ k ∈ ([] : List Nat), _
        exact List.forall_mem_nil _
set_option maxRecDepth 8000 in
set_option maxHeartbeats 2000000 in
theorem k_X10_127 {κ : xKK} {M : xM} (hb : bl M 127) : xEz κ mX10_init (0, 2, 5) [.ref 127] M 128 (cnP M 127 130) := by
  refine xEz_of ci_X10_init cl_X10_init cw_X10_init rfl (L := [some (.ref 127)]) rfl ?_
  refine xGh_run 1 rfl (by repeat' (first | exact trivial | assumption | exact xob_b rfl | exact xal_b rfl | exact xar_b rfl _ rfl (by decide) (by decide) | (apply And.intro) | decide)) ?_
  try dsimp only [xsto1, xsto2, xkill, xget, xset, gd_0, gd_s]
  refine xGh_obj rfl gwo_10 rfl ?_
  refine xGh_run 2 rfl (by repeat' (first | exact trivial | assumption | exact xob_b rfl | exact xal_b rfl | exact xar_b rfl _ rfl (by decide) (by decide) | (apply And.intro) | decide)) ?_
  try dsimp only [xsto1, xsto2, xkill, xget, xset, gd_0, gd_s]
  refine xGh_na (n' := 129) (k1' := 1) (k2' := 0) rfl rfl rfl rfl rfl rfl (Or.inl ⟨rfl, rfl⟩) (by decide) rfl (by decide) (by decide) (by decide) ?_
  refine xGh_run 3 rfl (by repeat' (first | exact trivial | assumption | exact xob_b rfl | exact xal_b rfl | exact xar_b rfl _ rfl (by decide) (by decide) | (apply And.intro) | decide)) ?_
  try dsimp only [xsto1, xsto2, xkill, xget, xset, gd_0, gd_s]
  refine xGh_na (n' := 130) (k1' := 2) (k2' := 5) rfl rfl rfl rfl rfl rfl (Or.inl ⟨rfl, rfl⟩) (by decide) rfl (by decide) (by decide) (by decide) ?_
  refine xGh_run 1 rfl (by repeat' (first | exact trivial | assumption | exact xob_b rfl | exact xal_b rfl | exact xar_b rfl _ rfl (by decide) (by decide) | (apply And.intro) | decide)) ?_
  try dsimp only [xsto1, xsto2, xkill, xget, xset, gd_0, gd_s]
  refine xGh_done ⟨_, rfl, rfl, Or.inr (Or.inr (Or.inr ⟨rfl, rfl, rfl, ?_⟩))⟩
  refine ⟨rfl, rfl, fun x k hx => ⟨?_, ?_, ?_⟩, fun x hx1 hx2 => ?_⟩
  · simp (disch := omega) only [gIzN, gIsP, gIsI, gIsJ, gJzN, gJsP, gJsI, gJsJ, gPzN, gPsI, gPsJ, gPsP, gIzG, gJzG, gPzG, if_neg]
  · simp (disch := omega) only [gIzN, gIsP, gIsI, gIsJ, gJzN, gJsP, gJsI, gJsJ, gPzN, gPsI, gPsJ, gPsP, gIzG, gJzG, gPzG, if_neg]
  · simp (disch := omega) only [gIzN, gIsP, gIsI, gIsJ, gJzN, gJsP, gJsI, gJsJ, gPzN, gPsI, gPsJ, gPsP, gIzG, gJzG, gPzG, if_neg]
  · obtain rfl | rfl | rfl : x = 127 ∨ x = 128 ∨ x = 129 := by omega
    · refine ⟨fun k => ?_, fun k => ?_, ?_⟩
      · show _ = (0 : Int32)
        simp [gIzN, gIsP, gIsI, gIsJ, gJzN, gJsP, gJsI, gJsJ, gPzN, gPsI, gPsJ, gPsP, gIzG, gJzG, gPzG, hb k]
      · simp [gIzN, gIsP, gIsI, gIsJ, gJzN, gJsP, gJsI, gJsJ, gPzN, gPsI, gPsJ, gPsP, gIzG, gJzG, gPzG, hb k]
      · show ∀ k ∈ ([7] : List Nat), _
        refine List.forall_mem_cons.mpr ⟨?_, ?_⟩
        · show _ = some 129
          simp [gIzN, gIsP, gIsI, gIsJ, gJzN, gJsP, gJsI, gJsJ, gPzN, gPsI, gPsJ, gPsP, gIzG, gJzG, gPzG]
        exact List.forall_mem_nil _
    · refine ⟨fun k => ?_, fun k => ?_, ?_⟩
      · show _ = (0 : Int32)
        simp [gIzN, gIsP, gIsI, gIsJ, gJzN, gJsP, gJsI, gJsJ, gPzN, gPsI, gPsJ, gPsP, gIzG, gJzG, gPzG, hb k]
      · simp [gIzN, gIsP, gIsI, gIsJ, gJzN, gJsP, gJsI, gJsJ, gPzN, gPsI, gPsJ, gPsP, gIzG, gJzG, gPzG, hb k]
      · show ∀ k ∈ ([] : List Nat), _
        exact List.forall_mem_nil _
    · refine ⟨fun k => ?_, fun k => ?_, ?_⟩
      · show _ = (0 : Int32)
        simp [gIzN, gIsP, gIsI, gIsJ, gJzN, gJsP, gJsI, gJsJ, gPzN, gPsI, gPsJ, gPsP, gIzG, gJzG, gPzG, hb k]
      · simp [gIzN, gIsP, gIsI, gIsJ, gJzN, gJsP, gJsI, gJsJ, gPzN, gPsI, gPsJ, gPsP, gIzG, gJzG, gPzG, hb k]
      · show ∀ k ∈ ([] : List Nat), _
        exact List.forall_mem_nil _
set_option maxRecDepth 8000 in
set_option maxHeartbeats 2000000 in
theorem k_X7_55 {κ : xKK} {M : xM} (hb : bl M 55) : xEz κ mX7_init (0, 15, 1476) [.ref 55] M 56 (cnP M 55 71) := by
  refine xEz_of ci_X7_init cl_X7_init cw_X7_init rfl (L := [some (.ref 55)]) rfl ?_
  refine xGh_run 1 rfl (by repeat' (first | exact trivial | assumption | exact xob_b rfl | exact xal_b rfl | exact xar_b rfl _ rfl (by decide) (by decide) | (apply And.intro) | decide)) ?_
  try dsimp only [xsto1, xsto2, xkill, xget, xset, gd_0, gd_s]
  refine xGh_obj rfl gwo_7 rfl ?_
  refine xGh_run 3 rfl (by repeat' (first | exact trivial | assumption | exact xob_b rfl | exact xal_b rfl | exact xar_b rfl _ rfl (by decide) (by decide) | (apply And.intro) | decide)) ?_
  try dsimp only [xsto1, xsto2, xkill, xget, xset, gd_0, gd_s]
  refine xGh_ma' (n' := 69) (k1' := 13) (k2' := 1452) (N := 12) (K := 120) rfl rfl rfl rfl rfl (by decide) gwc_7_9 (by decide) rfl (by decide) rfl (fun _ h => h.2.2.2.1) (by decide) (by decide) (by decide) (by decide) ?_
  refine xGh_run 3 rfl (by repeat' (first | exact trivial | assumption | exact xob_b rfl | exact xal_b rfl | exact xar_b rfl _ rfl (by decide) (by decide) | (apply And.intro) | decide)) ?_
  try dsimp only [xsto1, xsto2, xkill, xget, xset, gd_0, gd_s]
  refine xGh_na (n' := 70) (k1' := 14) (k2' := 1464) rfl rfl rfl rfl rfl rfl (Or.inl ⟨rfl, rfl⟩) (by decide) rfl (by decide) (by decide) (by decide) ?_
  refine xGh_run 3 rfl (by repeat' (first | exact trivial | assumption | exact xob_b rfl | exact xal_b rfl | exact xar_b rfl _ rfl (by decide) (by decide) | (apply And.intro) | decide)) ?_
  try dsimp only [xsto1, xsto2, xkill, xget, xset, gd_0, gd_s]
  refine xGh_na (n' := 71) (k1' := 15) (k2' := 1476) rfl rfl rfl rfl rfl rfl (Or.inr (Or.inr ⟨rfl, rfl⟩)) (by decide) rfl (by decide) (by decide) (by decide) ?_
  refine xGh_run 1 rfl (by repeat' (first | exact trivial | assumption | exact xob_b rfl | exact xal_b rfl | exact xar_b rfl _ rfl (by decide) (by decide) | (apply And.intro) | decide)) ?_
  try dsimp only [xsto1, xsto2, xkill, xget, xset, gd_0, gd_s]
  refine xGh_done ⟨_, rfl, rfl, Or.inr (Or.inr (Or.inr ⟨rfl, rfl, rfl, ?_⟩))⟩
  refine ⟨rfl, rfl, fun x k hx => ⟨?_, ?_, ?_⟩, fun x hx1 hx2 => ?_⟩
  · simp (disch := omega) only [gIzN, gIsP, gIsI, gIsJ, gJzN, gJsP, gJsI, gJsJ, gPzN, gPsI, gPsJ, gPsP, gIzG, gJzG, gPzG, if_neg]
  · simp (disch := omega) only [gIzN, gIsP, gIsI, gIsJ, gJzN, gJsP, gJsI, gJsJ, gPzN, gPsI, gPsJ, gPsP, gIzG, gJzG, gPzG, if_neg]
  · simp (disch := omega) only [gIzN, gIsP, gIsI, gIsJ, gJzN, gJsP, gJsI, gJsJ, gPzN, gPsI, gPsJ, gPsP, gIzG, gJzG, gPzG, if_neg]
  · obtain rfl | rfl | rfl | rfl | rfl | rfl | rfl | rfl | rfl | rfl | rfl | rfl | rfl | rfl | rfl | rfl : x = 55 ∨ x = 56 ∨ x = 57 ∨ x = 58 ∨ x = 59 ∨ x = 60 ∨ x = 61 ∨ x = 62 ∨ x = 63 ∨ x = 64 ∨ x = 65 ∨ x = 66 ∨ x = 67 ∨ x = 68 ∨ x = 69 ∨ x = 70 := by omega
    · refine ⟨fun k => ?_, fun k => ?_, ?_⟩
      · show _ = (0 : Int32)
        simp [gIzN, gIsP, gIsI, gIsJ, gJzN, gJsP, gJsI, gJsJ, gPzN, gPsI, gPsJ, gPsP, gIzG, gJzG, gPzG, hb k]
      · simp [gIzN, gIsP, gIsI, gIsJ, gJzN, gJsP, gJsI, gJsJ, gPzN, gPsI, gPsJ, gPsP, gIzG, gJzG, gPzG, hb k]
      · show ∀ k ∈ ([0, 1, 2] : List Nat), _
        refine List.forall_mem_cons.mpr ⟨?_, ?_⟩
        · show _ = some 56
          simp [gIzN, gIsP, gIsI, gIsJ, gJzN, gJsP, gJsI, gJsJ, gPzN, gPsI, gPsJ, gPsP, gIzG, gJzG, gPzG]
        refine List.forall_mem_cons.mpr ⟨?_, ?_⟩
        · show _ = some 69
          simp [gIzN, gIsP, gIsI, gIsJ, gJzN, gJsP, gJsI, gJsJ, gPzN, gPsI, gPsJ, gPsP, gIzG, gJzG, gPzG]
        refine List.forall_mem_cons.mpr ⟨?_, ?_⟩
        · show _ = some 70
          simp [gIzN, gIsP, gIsI, gIsJ, gJzN, gJsP, gJsI, gJsJ, gPzN, gPsI, gPsJ, gPsP, gIzG, gJzG, gPzG]
        exact List.forall_mem_nil _
    · refine ⟨fun k => ?_, fun k => ?_, ?_⟩
      · show _ = (0 : Int32)
        simp [gIzN, gIsP, gIsI, gIsJ, gJzN, gJsP, gJsI, gJsJ, gPzN, gPsI, gPsJ, gPsP, gIzG, gJzG, gPzG, hb k]
      · simp [gIzN, gIsP, gIsI, gIsJ, gJzN, gJsP, gJsI, gJsJ, gPzN, gPsI, gPsJ, gPsP, gIzG, gJzG, gPzG, hb k]
      · show ∀ k ∈ ([0, 1, 2, 3, 4, 5, 6, 7, 8, 9, 10, 11] : List Nat), _
        refine List.forall_mem_cons.mpr ⟨?_, ?_⟩
        · show _ = some 57
          simp [gIzN, gIsP, gIsI, gIsJ, gJzN, gJsP, gJsI, gJsJ, gPzN, gPsI, gPsJ, gPsP, gIzG, gJzG, gPzG]
        refine List.forall_mem_cons.mpr ⟨?_, ?_⟩
        · show _ = some 58
          simp [gIzN, gIsP, gIsI, gIsJ, gJzN, gJsP, gJsI, gJsJ, gPzN, gPsI, gPsJ, gPsP, gIzG, gJzG, gPzG]
        refine List.forall_mem_cons.mpr ⟨?_, ?_⟩
        · show _ = some 59
          simp [gIzN, gIsP, gIsI, gIsJ, gJzN, gJsP, gJsI, gJsJ, gPzN, gPsI, gPsJ, gPsP, gIzG, gJzG, gPzG]
        refine List.forall_mem_cons.mpr ⟨?_, ?_⟩
        · show _ = some 60
          simp [gIzN, gIsP, gIsI, gIsJ, gJzN, gJsP, gJsI, gJsJ, gPzN, gPsI, gPsJ, gPsP, gIzG, gJzG, gPzG]
        refine List.forall_mem_cons.mpr ⟨?_, ?_⟩
        · show _ = some 61
          simp [gIzN, gIsP, gIsI, gIsJ, gJzN, gJsP, gJsI, gJsJ, gPzN, gPsI, gPsJ, gPsP, gIzG, gJzG, gPzG]
        refine List.forall_mem_cons.mpr ⟨?_, ?_⟩
        · show _ = some 62
          simp [gIzN, gIsP, gIsI, gIsJ, gJzN, gJsP, gJsI, gJsJ, gPzN, gPsI, gPsJ, gPsP, gIzG, gJzG, gPzG]
        refine List.forall_mem_cons.mpr ⟨?_, ?_⟩
        · show _ = some 63
          simp [gIzN, gIsP, gIsI, gIsJ, gJzN, gJsP, gJsI, gJsJ, gPzN, gPsI, gPsJ, gPsP, gIzG, gJzG, gPzG]
        refine List.forall_mem_cons.mpr ⟨?_, ?_⟩
        · show _ = some 64
          simp [gIzN, gIsP, gIsI, gIsJ, gJzN, gJsP, gJsI, gJsJ, gPzN, gPsI, gPsJ, gPsP, gIzG, gJzG, gPzG]
        refine List.forall_mem_cons.mpr ⟨?_, ?_⟩
        · show _ = some 65
          simp [gIzN, gIsP, gIsI, gIsJ, gJzN, gJsP, gJsI, gJsJ, gPzN, gPsI, gPsJ, gPsP, gIzG, gJzG, gPzG]
        refine List.forall_mem_cons.mpr ⟨?_, ?_⟩
        · show _ = some 66
          simp [gIzN, gIsP, gIsI, gIsJ, gJzN, gJsP, gJsI, gJsJ, gPzN, gPsI, gPsJ, gPsP, gIzG, gJzG, gPzG]
        refine List.forall_mem_cons.mpr ⟨?_, ?_⟩
        · show _ = some 67
          simp [gIzN, gIsP, gIsI, gIsJ, gJzN, gJsP, gJsI, gJsJ, gPzN, gPsI, gPsJ, gPsP, gIzG, gJzG, gPzG]
        refine List.forall_mem_cons.mpr ⟨?_, ?_⟩
        · show _ = some 68
          simp [gIzN, gIsP, gIsI, gIsJ, gJzN, gJsP, gJsI, gJsJ, gPzN, gPsI, gPsJ, gPsP, gIzG, gJzG, gPzG]
        exact List.forall_mem_nil _
    · refine ⟨fun k => ?_, fun k => ?_, ?_⟩
      · show _ = (0 : Int32)
        simp [gIzN, gIsP, gIsI, gIsJ, gJzN, gJsP, gJsI, gJsJ, gPzN, gPsI, gPsJ, gPsP, gIzG, gJzG, gPzG, hb k]
      · simp [gIzN, gIsP, gIsI, gIsJ, gJzN, gJsP, gJsI, gJsJ, gPzN, gPsI, gPsJ, gPsP, gIzG, gJzG, gPzG, hb k]
      · show ∀ k ∈ ([] : List Nat), _
        exact List.forall_mem_nil _
    · refine ⟨fun k => ?_, fun k => ?_, ?_⟩
      · show _ = (0 : Int32)
        simp [gIzN, gIsP, gIsI, gIsJ, gJzN, gJsP, gJsI, gJsJ, gPzN, gPsI, gPsJ, gPsP, gIzG, gJzG, gPzG, hb k]
      · simp [gIzN, gIsP, gIsI, gIsJ, gJzN, gJsP, gJsI, gJsJ, gPzN, gPsI, gPsJ, gPsP, gIzG, gJzG, gPzG, hb k]
      · show ∀ k ∈ ([] : List Nat), _
        exact List.forall_mem_nil _
    · refine ⟨fun k => ?_, fun k => ?_, ?_⟩
      · show _ = (0 : Int32)
        simp [gIzN, gIsP, gIsI, gIsJ, gJzN, gJsP, gJsI, gJsJ, gPzN, gPsI, gPsJ, gPsP, gIzG, gJzG, gPzG, hb k]
      · simp [gIzN, gIsP, gIsI, gIsJ, gJzN, gJsP, gJsI, gJsJ, gPzN, gPsI, gPsJ, gPsP, gIzG, gJzG, gPzG, hb k]
      · show ∀ k ∈ ([] : List Nat), _
        exact List.forall_mem_nil _
    · refine ⟨fun k => ?_, fun k => ?_, ?_⟩
      · show _ = (0 : Int32)
        simp [gIzN, gIsP, gIsI, gIsJ, gJzN, gJsP, gJsI, gJsJ, gPzN, gPsI, gPsJ, gPsP, gIzG, gJzG, gPzG, hb k]
      · simp [gIzN, gIsP, gIsI, gIsJ, gJzN, gJsP, gJsI, gJsJ, gPzN, gPsI, gPsJ, gPsP, gIzG, gJzG, gPzG, hb k]
      · show ∀ k ∈ ([] : List Nat), _
        exact List.forall_mem_nil _
    · refine ⟨fun k => ?_, fun k => ?_, ?_⟩
      · show _ = (0 : Int32)
        simp [gIzN, gIsP, gIsI, gIsJ, gJzN, gJsP, gJsI, gJsJ, gPzN, gPsI, gPsJ, gPsP, gIzG, gJzG, gPzG, hb k]
      · simp [gIzN, gIsP, gIsI, gIsJ, gJzN, gJsP, gJsI, gJsJ, gPzN, gPsI, gPsJ, gPsP, gIzG, gJzG, gPzG, hb k]
      · show ∀ k ∈ ([] : List Nat), _
        exact List.forall_mem_nil _
    · refine ⟨fun k => ?_, fun k => ?_, ?_⟩
      · show _ = (0 : Int32)
        simp [gIzN, gIsP, gIsI, gIsJ, gJzN, gJsP, gJsI, gJsJ, gPzN, gPsI, gPsJ, gPsP, gIzG, gJzG, gPzG, hb k]
      · simp [gIzN, gIsP, gIsI, gIsJ, gJzN, gJsP, gJsI, gJsJ, gPzN, gPsI, gPsJ, gPsP, gIzG, gJzG, gPzG, hb k]
      · show ∀ k ∈ ([] : List Nat), _
        exact List.forall_mem_nil _
    · refine ⟨fun k => ?_, fun k => ?_, ?_⟩
      · show _ = (0 : Int32)
        simp [gIzN, gIsP, gIsI, gIsJ, gJzN, gJsP, gJsI, gJsJ, gPzN, gPsI, gPsJ, gPsP, gIzG, gJzG, gPzG, hb k]
      · simp [gIzN, gIsP, gIsI, gIsJ, gJzN, gJsP, gJsI, gJsJ, gPzN, gPsI, gPsJ, gPsP, gIzG, gJzG, gPzG, hb k]
      · show ∀ k ∈ ([] : List Nat), _
        exact List.forall_mem_nil _
    · refine ⟨fun k => ?_, fun k => ?_, ?_⟩
      · show _ = (0 : Int32)
        simp [gIzN, gIsP, gIsI, gIsJ, gJzN, gJsP, gJsI, gJsJ, gPzN, gPsI, gPsJ, gPsP, gIzG, gJzG, gPzG, hb k]
      · simp [gIzN, gIsP, gIsI, gIsJ, gJzN, gJsP, gJsI, gJsJ, gPzN, gPsI, gPsJ, gPsP, gIzG, gJzG, gPzG, hb k]
      · show ∀ k ∈ ([] : List Nat), _
        exact List.forall_mem_nil _
    · refine ⟨fun k => ?_, fun k => ?_, ?_⟩
      · show _ = (0 : Int32)
        simp [gIzN, gIsP, gIsI, gIsJ, gJzN, gJsP, gJsI, gJsJ, gPzN, gPsI, gPsJ, gPsP, gIzG, gJzG, gPzG, hb k]
      · simp [gIzN, gIsP, gIsI, gIsJ, gJzN, gJsP, gJsI, gJsJ, gPzN, gPsI, gPsJ, gPsP, gIzG, gJzG, gPzG, hb k]
      · show ∀ k ∈ ([] : List Nat), _
        exact List.forall_mem_nil _
    · refine ⟨fun k => ?_, fun k => ?_, ?_⟩
      · show _ = (0 : Int32)
        simp [gIzN, gIsP, gIsI, gIsJ, gJzN, gJsP, gJsI, gJsJ, gPzN, gPsI, gPsJ, gPsP, gIzG, gJzG, gPzG, hb k]
      · simp [gIzN, gIsP, gIsI, gIsJ, gJzN, gJsP, gJsI, gJsJ, gPzN, gPsI, gPsJ, gPsP, gIzG, gJzG, gPzG, hb k]
      · show ∀ k ∈ ([] : List Nat), _
        exact List.forall_mem_nil _
    · refine ⟨fun k => ?_, fun k => ?_, ?_⟩
      · show _ = (0 : Int32)
        simp [gIzN, gIsP, gIsI, gIsJ, gJzN, gJsP, gJsI, gJsJ, gPzN, gPsI, gPsJ, gPsP, gIzG, gJzG, gPzG, hb k]
      · simp [gIzN, gIsP, gIsI, gIsJ, gJzN, gJsP, gJsI, gJsJ, gPzN, gPsI, gPsJ, gPsP, gIzG, gJzG, gPzG, hb k]
      · show ∀ k ∈ ([] : List Nat), _
        exact List.forall_mem_nil _
    · refine ⟨fun k => ?_, fun k => ?_, ?_⟩
      · show _ = (0 : Int32)
        simp [gIzN, gIsP, gIsI, gIsJ, gJzN, gJsP, gJsI, gJsJ, gPzN, gPsI, gPsJ, gPsP, gIzG, gJzG, gPzG, hb k]
      · simp [gIzN, gIsP, gIsI, gIsJ, gJzN, gJsP, gJsI, gJsJ, gPzN, gPsI, gPsJ, gPsP, gIzG, gJzG, gPzG, hb k]
      · show ∀ k ∈ ([] : List Nat), _
        exact List.forall_mem_nil _
    · refine ⟨fun k => ?_, fun k => ?_, ?_⟩
      · show _ = (0 : Int32)
        simp [gIzN, gIsP, gIsI, gIsJ, gJzN, gJsP, gJsI, gJsJ, gPzN, gPsI, gPsJ, gPsP, gIzG, gJzG, gPzG, hb k]
      · simp [gIzN, gIsP, gIsI, gIsJ, gJzN, gJsP, gJsI, gJsJ, gPzN, gPsI, gPsJ, gPsP, gIzG, gJzG, gPzG, hb k]
      · show ∀ k ∈ ([] : List Nat), _
        exact List.forall_mem_nil _
    · refine ⟨fun k => ?_, fun k => ?_, ?_⟩
      · show _ = (0 : Int32)
        simp [gIzN, gIsP, gIsI, gIsJ, gJzN, gJsP, gJsI, gJsJ, gPzN, gPsI, gPsJ, gPsP, gIzG, gJzG, gPzG, hb k]
      · simp [gIzN, gIsP, gIsI, gIsJ, gJzN, gJsP, gJsI, gJsJ, gPzN, gPsI, gPsJ, gPsP, gIzG, gJzG, gPzG, hb k]
      · show ∀ k ∈ ([] : List Nat), _
        exact List.forall_mem_nil _
set_option maxRecDepth 8000 in
set_option maxHeartbeats 2000000 in
theorem k_X7_102 {κ : xKK} {M : xM} (hb : bl M 102) : xEz κ mX7_init (0, 15, 1476) [.ref 102] M 103 (cnP M 102 118) := by
  refine xEz_of ci_X7_init cl_X7_init cw_X7_init rfl (L := [some (.ref 102)]) rfl ?_
  refine xGh_run 1 rfl (by repeat' (first | exact trivial | assumption | exact xob_b rfl | exact xal_b rfl | exact xar_b rfl _ rfl (by decide) (by decide) | (apply And.intro) | decide)) ?_
  try dsimp only [xsto1, xsto2, xkill, xget, xset, gd_0, gd_s]
  refine xGh_obj rfl gwo_7 rfl ?_
  refine xGh_run 3 rfl (by repeat' (first | exact trivial | assumption | exact xob_b rfl | exact xal_b rfl | exact xar_b rfl _ rfl (by decide) (by decide) | (apply And.intro) | decide)) ?_
  try dsimp only [xsto1, xsto2, xkill, xget, xset, gd_0, gd_s]
  refine xGh_ma' (n' := 116) (k1' := 13) (k2' := 1452) (N := 12) (K := 120) rfl rfl rfl rfl rfl (by decide) gwc_7_9 (by decide) rfl (by decide) rfl (fun _ h => h.2.2.2.1) (by decide) (by decide) (by decide) (by decide) ?_
  refine xGh_run 3 rfl (by repeat' (first | exact trivial | assumption | exact xob_b rfl | exact xal_b rfl | exact xar_b rfl _ rfl (by decide) (by decide) | (apply And.intro) | decide)) ?_
  try dsimp only [xsto1, xsto2, xkill, xget, xset, gd_0, gd_s]
  refine xGh_na (n' := 117) (k1' := 14) (k2' := 1464) rfl rfl rfl rfl rfl rfl (Or.inl ⟨rfl, rfl⟩) (by decide) rfl (by decide) (by decide) (by decide) ?_
  refine xGh_run 3 rfl (by repeat' (first | exact trivial | assumption | exact xob_b rfl | exact xal_b rfl | exact xar_b rfl _ rfl (by decide) (by decide) | (apply And.intro) | decide)) ?_
  try dsimp only [xsto1, xsto2, xkill, xget, xset, gd_0, gd_s]
  refine xGh_na (n' := 118) (k1' := 15) (k2' := 1476) rfl rfl rfl rfl rfl rfl (Or.inr (Or.inr ⟨rfl, rfl⟩)) (by decide) rfl (by decide) (by decide) (by decide) ?_
  refine xGh_run 1 rfl (by repeat' (first | exact trivial | assumption | exact xob_b rfl | exact xal_b rfl | exact xar_b rfl _ rfl (by decide) (by decide) | (apply And.intro) | decide)) ?_
  try dsimp only [xsto1, xsto2, xkill, xget, xset, gd_0, gd_s]
  refine xGh_done ⟨_, rfl, rfl, Or.inr (Or.inr (Or.inr ⟨rfl, rfl, rfl, ?_⟩))⟩
  refine ⟨rfl, rfl, fun x k hx => ⟨?_, ?_, ?_⟩, fun x hx1 hx2 => ?_⟩
  · simp (disch := omega) only [gIzN, gIsP, gIsI, gIsJ, gJzN, gJsP, gJsI, gJsJ, gPzN, gPsI, gPsJ, gPsP, gIzG, gJzG, gPzG, if_neg]
  · simp (disch := omega) only [gIzN, gIsP, gIsI, gIsJ, gJzN, gJsP, gJsI, gJsJ, gPzN, gPsI, gPsJ, gPsP, gIzG, gJzG, gPzG, if_neg]
  · simp (disch := omega) only [gIzN, gIsP, gIsI, gIsJ, gJzN, gJsP, gJsI, gJsJ, gPzN, gPsI, gPsJ, gPsP, gIzG, gJzG, gPzG, if_neg]
  · obtain rfl | rfl | rfl | rfl | rfl | rfl | rfl | rfl | rfl | rfl | rfl | rfl | rfl | rfl | rfl | rfl : x = 102 ∨ x = 103 ∨ x = 104 ∨ x = 105 ∨ x = 106 ∨ x = 107 ∨ x = 108 ∨ x = 109 ∨ x = 110 ∨ x = 111 ∨ x = 112 ∨ x = 113 ∨ x = 114 ∨ x = 115 ∨ x = 116 ∨ x = 117 := by omega
    · refine ⟨fun k => ?_, fun k => ?_, ?_⟩
      · show _ = (0 : Int32)
        simp [gIzN, gIsP, gIsI, gIsJ, gJzN, gJsP, gJsI, gJsJ, gPzN, gPsI, gPsJ, gPsP, gIzG, gJzG, gPzG, hb k]
      · simp [gIzN, gIsP, gIsI, gIsJ, gJzN, gJsP, gJsI, gJsJ, gPzN, gPsI, gPsJ, gPsP, gIzG, gJzG, gPzG, hb k]
      · show ∀ k ∈ ([0, 1, 2] : List Nat), _
        refine List.forall_mem_cons.mpr ⟨?_, ?_⟩
        · show _ = some 103
          simp [gIzN, gIsP, gIsI, gIsJ, gJzN, gJsP, gJsI, gJsJ, gPzN, gPsI, gPsJ, gPsP, gIzG, gJzG, gPzG]
        refine List.forall_mem_cons.mpr ⟨?_, ?_⟩
        · show _ = some 116
          simp [gIzN, gIsP, gIsI, gIsJ, gJzN, gJsP, gJsI, gJsJ, gPzN, gPsI, gPsJ, gPsP, gIzG, gJzG, gPzG]
        refine List.forall_mem_cons.mpr ⟨?_, ?_⟩
        · show _ = some 117
          simp [gIzN, gIsP, gIsI, gIsJ, gJzN, gJsP, gJsI, gJsJ, gPzN, gPsI, gPsJ, gPsP, gIzG, gJzG, gPzG]
        exact List.forall_mem_nil _
    · refine ⟨fun k => ?_, fun k => ?_, ?_⟩
      · show _ = (0 : Int32)
        simp [gIzN, gIsP, gIsI, gIsJ, gJzN, gJsP, gJsI, gJsJ, gPzN, gPsI, gPsJ, gPsP, gIzG, gJzG, gPzG, hb k]
      · simp [gIzN, gIsP, gIsI, gIsJ, gJzN, gJsP, gJsI, gJsJ, gPzN, gPsI, gPsJ, gPsP, gIzG, gJzG, gPzG, hb k]
      · show ∀ k ∈ ([0, 1, 2, 3, 4, 5, 6, 7, 8, 9, 10, 11] : List Nat), _
        refine List.forall_mem_cons.mpr ⟨?_, ?_⟩
        · show _ = some 104
          simp [gIzN, gIsP, gIsI, gIsJ, gJzN, gJsP, gJsI, gJsJ, gPzN, gPsI, gPsJ, gPsP, gIzG, gJzG, gPzG]
        refine List.forall_mem_cons.mpr ⟨?_, ?_⟩
        · show _ = some 105
          simp [gIzN, gIsP, gIsI, gIsJ, gJzN, gJsP, gJsI, gJsJ, gPzN, gPsI, gPsJ, gPsP, gIzG, gJzG, gPzG]
        refine List.forall_mem_cons.mpr ⟨?_, ?_⟩
        · show _ = some 106
          simp [gIzN, gIsP, gIsI, gIsJ, gJzN, gJsP, gJsI, gJsJ, gPzN, gPsI, gPsJ, gPsP, gIzG, gJzG, gPzG]
        refine List.forall_mem_cons.mpr ⟨?_, ?_⟩
        · show _ = some 107
          simp [gIzN, gIsP, gIsI, gIsJ, gJzN, gJsP, gJsI, gJsJ, gPzN, gPsI, gPsJ, gPsP, gIzG, gJzG, gPzG]
        refine List.forall_mem_cons.mpr ⟨?_, ?_⟩
        · show _ = some 108
          simp [gIzN, gIsP, gIsI, gIsJ, gJzN, gJsP, gJsI, gJsJ, gPzN, gPsI, gPsJ, gPsP, gIzG, gJzG, gPzG]
        refine List.forall_mem_cons.mpr ⟨?_, ?_⟩
        · show _ = some 109
          simp [gIzN, gIsP, gIsI, gIsJ, gJzN, gJsP, gJsI, gJsJ, gPzN, gPsI, gPsJ, gPsP, gIzG, gJzG, gPzG]
        refine List.forall_mem_cons.mpr ⟨?_, ?_⟩
        · show _ = some 110
          simp [gIzN, gIsP, gIsI, gIsJ, gJzN, gJsP, gJsI, gJsJ, gPzN, gPsI, gPsJ, gPsP, gIzG, gJzG, gPzG]
        refine List.forall_mem_cons.mpr ⟨?_, ?_⟩
        · show _ = some 111
          simp [gIzN, gIsP, gIsI, gIsJ, gJzN, gJsP, gJsI, gJsJ, gPzN, gPsI, gPsJ, gPsP, gIzG, gJzG, gPzG]
        refine List.forall_mem_cons.mpr ⟨?_, ?_⟩
        · show _ = some 112
          simp [gIzN, gIsP, gIsI, gIsJ, gJzN, gJsP, gJsI, gJsJ, gPzN, gPsI, gPsJ, gPsP, gIzG, gJzG, gPzG]
        refine List.forall_mem_cons.mpr ⟨?_, ?_⟩
        · show _ = some 113
          simp [gIzN, gIsP, gIsI, gIsJ, gJzN, gJsP, gJsI, gJsJ, gPzN, gPsI, gPsJ, gPsP, gIzG, gJzG, gPzG]
        refine List.forall_mem_cons.mpr ⟨?_, ?_⟩
        · show _ = some 114
          simp [gIzN, gIsP, gIsI, gIsJ, gJzN, gJsP, gJsI, gJsJ, gPzN, gPsI, gPsJ, gPsP, gIzG, gJzG, gPzG]
        refine List.forall_mem_cons.mpr ⟨?_, ?_⟩
        · show _ = some 115
          simp [gIzN, gIsP, gIsI, gIsJ, gJzN, gJsP, gJsI, gJsJ, gPzN, gPsI, gPsJ, gPsP, gIzG, gJzG, gPzG]
        exact List.forall_mem_nil _
    · refine ⟨fun k => ?_, fun k => ?_, ?_⟩
      · show _ = (0 : Int32)
        simp [gIzN, gIsP, gIsI, gIsJ, gJzN, gJsP, gJsI, gJsJ, gPzN, gPsI, gPsJ, gPsP, gIzG, gJzG, gPzG, hb k]
      · simp [gIzN, gIsP, gIsI, gIsJ, gJzN, gJsP, gJsI, gJsJ, gPzN, gPsI, gPsJ, gPsP, gIzG, gJzG, gPzG, hb k]
      · show ∀ k ∈ ([] : List Nat), _
        exact List.forall_mem_nil _
    · refine ⟨fun k => ?_, fun k => ?_, ?_⟩
      · show _ = (0 : Int32)
        simp [gIzN, gIsP, gIsI, gIsJ, gJzN, gJsP, gJsI, gJsJ, gPzN, gPsI, gPsJ, gPsP, gIzG, gJzG, gPzG, hb k]
      · simp [gIzN, gIsP, gIsI, gIsJ, gJzN, gJsP, gJsI, gJsJ, gPzN, gPsI, gPsJ, gPsP, gIzG, gJzG, gPzG, hb k]
      · show ∀ k ∈ ([] : List Nat), _
        exact List.forall_mem_nil _
    · refine ⟨fun k => ?_, fun k => ?_, ?_⟩
      · show _ = (0 : Int32)
        simp [gIzN, gIsP, gIsI, gIsJ, gJzN, gJsP, gJsI, gJsJ, gPzN, gPsI, gPsJ, gPsP, gIzG, gJzG, gPzG, hb k]
      · simp [gIzN, gIsP, gIsI, gIsJ, gJzN, gJsP, gJsI, gJsJ, gPzN, gPsI, gPsJ, gPsP, gIzG, gJzG, gPzG, hb k]
      · show ∀ k ∈ ([] : List Nat), _
        exact List.forall_mem_nil _
    · refine ⟨fun k => ?_, fun k => ?_, ?_⟩
      · show _ = (0 : Int32)
        simp [gIzN, gIsP, gIsI, gIsJ, gJzN, gJsP, gJsI, gJsJ, gPzN, gPsI, gPsJ, gPsP, gIzG, gJzG, gPzG, hb k]
      · simp [gIzN, gIsP, gIsI, gIsJ, gJzN, gJsP, gJsI, gJsJ, gPzN, gPsI, gPsJ, gPsP, gIzG, gJzG, gPzG, hb k]
      · show ∀ k ∈ ([] : List Nat), _
        exact List.forall_mem_nil _
    · refine ⟨fun k => ?_, fun k => ?_, ?_⟩
      · show _ = (0 : Int32)
        simp [gIzN, gIsP, gIsI, gIsJ, gJzN, gJsP, gJsI, gJsJ, gPzN, gPsI, gPsJ, gPsP, gIzG, gJzG, gPzG, hb k]
      · simp [gIzN, gIsP, gIsI, gIsJ, gJzN, gJsP, gJsI, gJsJ, gPzN, gPsI, gPsJ, gPsP, gIzG, gJzG, gPzG, hb k]
      · show ∀ k ∈ ([] : List Nat), _
        exact List.forall_mem_nil _
    · refine ⟨fun k => ?_, fun k => ?_, ?_⟩
      · show _ = (0 : Int32)
        simp [gIzN, gIsP, gIsI, gIsJ, gJzN, gJsP, gJsI, gJsJ, gPzN, gPsI, gPsJ, gPsP, gIzG, gJzG, gPzG, hb k]
      · simp [gIzN, gIsP, gIsI, gIsJ, gJzN, gJsP, gJsI, gJsJ, gPzN, gPsI, gPsJ, gPsP, gIzG, gJzG, gPzG, hb k]
      · show ∀ k ∈ ([] : List Nat), _
        exact List.forall_mem_nil _
    · refine ⟨fun k => ?_, fun k => ?_, ?_⟩
      · show _ = (0 : Int32)
        simp [gIzN, gIsP, gIsI, gIsJ, gJzN, gJsP, gJsI, gJsJ, gPzN, gPsI, gPsJ, gPsP, gIzG, gJzG, gPzG, hb k]
      · simp [gIzN, gIsP, gIsI, gIsJ, gJzN, gJsP, gJsI, gJsJ, gPzN, gPsI, gPsJ, gPsP, gIzG, gJzG, gPzG, hb k]
      · show ∀ k ∈ ([] : List Nat), _
        exact List.forall_mem_nil _
    · refine ⟨fun k => ?_, fun k => ?_, ?_⟩
      · show _ = (0 : Int32)
        simp [gIzN, gIsP, gIsI, gIsJ, gJzN, gJsP, gJsI, gJsJ, gPzN, gPsI, gPsJ, gPsP, gIzG, gJzG, gPzG, hb k]
      · simp [gIzN, gIsP, gIsI, gIsJ, gJzN, gJsP, gJsI, gJsJ, gPzN, gPsI, gPsJ, gPsP, gIzG, gJzG, gPzG, hb k]
      · show ∀ k ∈ ([] : List Nat), _
        exact List.forall_mem_nil _
    · refine ⟨fun k => ?_, fun k => ?_, ?_⟩
      · show _ = (0 : Int32)
        simp [gIzN, gIsP, gIsI, gIsJ, gJzN, gJsP, gJsI, gJsJ, gPzN, gPsI, gPsJ, gPsP, gIzG, gJzG, gPzG, hb k]
      · simp [gIzN, gIsP, gIsI, gIsJ, gJzN, gJsP, gJsI, gJsJ, gPzN, gPsI, gPsJ, gPsP, gIzG, gJzG, gPzG, hb k]
      · show ∀ k ∈ ([] : List Nat), _
        exact List.forall_mem_nil _
    · refine ⟨fun k => ?_, fun k => ?_, ?_⟩
      · show _ = (0 : Int32)
        simp [gIzN, gIsP, gIsI, gIsJ, gJzN, gJsP, gJsI, gJsJ, gPzN, gPsI, gPsJ, gPsP, gIzG, gJzG, gPzG, hb k]
      · simp [gIzN, gIsP, gIsI, gIsJ, gJzN, gJsP, gJsI, gJsJ, gPzN, gPsI, gPsJ, gPsP, gIzG, gJzG, gPzG, hb k]
      · show ∀ k ∈ ([] : List Nat), _
        exact List.forall_mem_nil _
    · refine ⟨fun k => ?_, fun k => ?_, ?_⟩
      · show _ = (0 : Int32)
        simp [gIzN, gIsP, gIsI, gIsJ, gJzN, gJsP, gJsI, gJsJ, gPzN, gPsI, gPsJ, gPsP, gIzG, gJzG, gPzG, hb k]
      · simp [gIzN, gIsP, gIsI, gIsJ, gJzN, gJsP, gJsI, gJsJ, gPzN, gPsI, gPsJ, gPsP, gIzG, gJzG, gPzG, hb k]
      · show ∀ k ∈ ([] : List Nat), _
        exact List.forall_mem_nil _
    · refine ⟨fun k => ?_, fun k => ?_, ?_⟩
      · show _ = (0 : Int32)
        simp [gIzN, gIsP, gIsI, gIsJ, gJzN, gJsP, gJsI, gJsJ, gPzN, gPsI, gPsJ, gPsP, gIzG, gJzG, gPzG, hb k]
      · simp [gIzN, gIsP, gIsI, gIsJ, gJzN, gJsP, gJsI, gJsJ, gPzN, gPsI, gPsJ, gPsP, gIzG, gJzG, gPzG, hb k]
      · show ∀ k ∈ ([] : List Nat), _
        exact List.forall_mem_nil _
    · refine ⟨fun k => ?_, fun k => ?_, ?_⟩
      · show _ = (0 : Int32)
        simp [gIzN, gIsP, gIsI, gIsJ, gJzN, gJsP, gJsI, gJsJ, gPzN, gPsI, gPsJ, gPsP, gIzG, gJzG, gPzG, hb k]
      · simp [gIzN, gIsP, gIsI, gIsJ, gJzN, gJsP, gJsI, gJsJ, gPzN, gPsI, gPsJ, gPsP, gIzG, gJzG, gPzG, hb k]
      · show ∀ k ∈ ([] : List Nat), _
        exact List.forall_mem_nil _
    · refine ⟨fun k => ?_, fun k => ?_, ?_⟩
      · show _ = (0 : Int32)
        simp [gIzN, gIsP, gIsI, gIsJ, gJzN, gJsP, gJsI, gJsJ, gPzN, gPsI, gPsJ, gPsP, gIzG, gJzG, gPzG, hb k]
      · simp [gIzN, gIsP, gIsI, gIsJ, gJzN, gJsP, gJsI, gJsJ, gPzN, gPsI, gPsJ, gPsP, gIzG, gJzG, gPzG, hb k]
      · show ∀ k ∈ ([] : List Nat), _
        exact List.forall_mem_nil _
set_option maxRecDepth 8000 in
set_option maxHeartbeats 2000000 in
theorem k_X0_123 {κ : xKK} {M : xM} (hb : bl M 123) : xEz κ mX0_init (0, 3, 623) [.ref 123] M 124 (cnP M 123 127) := by
  refine xEz_of ci_X0_init cl_X0_init cw_X0_init rfl (L := [some (.ref 123)]) rfl ?_
  refine xGh_run 1 rfl (by repeat' (first | exact trivial | assumption | exact xob_b rfl | exact xal_b rfl | exact xar_b rfl _ rfl (by decide) (by decide) | (apply And.intro) | decide)) ?_
  try dsimp only [xsto1, xsto2, xkill, xget, xset, gd_0, gd_s]
  refine xGh_obj rfl gwo_0 rfl ?_
  refine xGh_run 2 rfl (by repeat' (first | exact trivial | assumption | exact xob_b rfl | exact xal_b rfl | exact xar_b rfl _ rfl (by decide) (by decide) | (apply And.intro) | decide)) ?_
  try dsimp only [xsto1, xsto2, xkill, xget, xset, gd_0, gd_s]
  refine xGh_na (n' := 125) (k1' := 1) (k2' := 601) rfl rfl rfl rfl rfl rfl (Or.inr (Or.inl ⟨rfl, rfl⟩)) (by decide) rfl (by decide) (by decide) (by decide) ?_
  refine xGh_run 3 rfl (by repeat' (first | exact trivial | assumption | exact xob_b rfl | exact xal_b rfl | exact xar_b rfl _ rfl (by decide) (by decide) | (apply And.intro) | decide)) ?_
  try dsimp only [xsto1, xsto2, xkill, xget, xset, gd_0, gd_s]
  refine xGh_aa' (n' := 126) (k1' := 2) (k2' := 611) (C := "MastWind$Piece") rfl rfl rfl rfl rfl (Or.inl ⟨rfl, rfl⟩) gwc_0_15 (fun _ h => h.1) (by decide) rfl (by decide) (by decide) (by decide) ?_
  refine xGh_run 3 rfl (by repeat' (first | exact trivial | assumption | exact xob_b rfl | exact xal_b rfl | exact xar_b rfl _ rfl (by decide) (by decide) | (apply And.intro) | decide)) ?_
  try dsimp only [xsto1, xsto2, xkill, xget, xset, gd_0, gd_s]
  refine xGh_aa' (n' := 127) (k1' := 3) (k2' := 623) (C := "MastWind$Rope") rfl rfl rfl rfl rfl (Or.inr (Or.inl ⟨rfl, rfl⟩)) gwc_0_21 (fun _ h => h.2.1) (by decide) rfl (by decide) (by decide) (by decide) ?_
  refine xGh_run 1 rfl (by repeat' (first | exact trivial | assumption | exact xob_b rfl | exact xal_b rfl | exact xar_b rfl _ rfl (by decide) (by decide) | (apply And.intro) | decide)) ?_
  try dsimp only [xsto1, xsto2, xkill, xget, xset, gd_0, gd_s]
  refine xGh_done ⟨_, rfl, rfl, Or.inr (Or.inr (Or.inr ⟨rfl, rfl, rfl, ?_⟩))⟩
  refine ⟨rfl, rfl, fun x k hx => ⟨?_, ?_, ?_⟩, fun x hx1 hx2 => ?_⟩
  · simp (disch := omega) only [gIzN, gIsP, gIsI, gIsJ, gJzN, gJsP, gJsI, gJsJ, gPzN, gPsI, gPsJ, gPsP, gIzG, gJzG, gPzG, if_neg]
  · simp (disch := omega) only [gIzN, gIsP, gIsI, gIsJ, gJzN, gJsP, gJsI, gJsJ, gPzN, gPsI, gPsJ, gPsP, gIzG, gJzG, gPzG, if_neg]
  · simp (disch := omega) only [gIzN, gIsP, gIsI, gIsJ, gJzN, gJsP, gJsI, gJsJ, gPzN, gPsI, gPsJ, gPsP, gIzG, gJzG, gPzG, if_neg]
  · obtain rfl | rfl | rfl | rfl : x = 123 ∨ x = 124 ∨ x = 125 ∨ x = 126 := by omega
    · refine ⟨fun k => ?_, fun k => ?_, ?_⟩
      · show _ = (0 : Int32)
        simp [gIzN, gIsP, gIsI, gIsJ, gJzN, gJsP, gJsI, gJsJ, gPzN, gPsI, gPsJ, gPsP, gIzG, gJzG, gPzG, hb k]
      · simp [gIzN, gIsP, gIsI, gIsJ, gJzN, gJsP, gJsI, gJsJ, gPzN, gPsI, gPsJ, gPsP, gIzG, gJzG, gPzG, hb k]
      · show ∀ k ∈ ([0, 1, 3] : List Nat), _
        refine List.forall_mem_cons.mpr ⟨?_, ?_⟩
        · show _ = some 124
          simp [gIzN, gIsP, gIsI, gIsJ, gJzN, gJsP, gJsI, gJsJ, gPzN, gPsI, gPsJ, gPsP, gIzG, gJzG, gPzG]
        refine List.forall_mem_cons.mpr ⟨?_, ?_⟩
        · show _ = some 125
          simp [gIzN, gIsP, gIsI, gIsJ, gJzN, gJsP, gJsI, gJsJ, gPzN, gPsI, gPsJ, gPsP, gIzG, gJzG, gPzG]
        refine List.forall_mem_cons.mpr ⟨?_, ?_⟩
        · show _ = some 126
          simp [gIzN, gIsP, gIsI, gIsJ, gJzN, gJsP, gJsI, gJsJ, gPzN, gPsI, gPsJ, gPsP, gIzG, gJzG, gPzG]
        exact List.forall_mem_nil _
    · refine ⟨fun k => ?_, fun k => ?_, ?_⟩
      · show _ = (0 : Int32)
        simp [gIzN, gIsP, gIsI, gIsJ, gJzN, gJsP, gJsI, gJsJ, gPzN, gPsI, gPsJ, gPsP, gIzG, gJzG, gPzG, hb k]
      · simp [gIzN, gIsP, gIsI, gIsJ, gJzN, gJsP, gJsI, gJsJ, gPzN, gPsI, gPsJ, gPsP, gIzG, gJzG, gPzG, hb k]
      · show ∀ k ∈ ([] : List Nat), _
        exact List.forall_mem_nil _
    · refine ⟨fun k => ?_, fun k => ?_, ?_⟩
      · show _ = (0 : Int32)
        simp [gIzN, gIsP, gIsI, gIsJ, gJzN, gJsP, gJsI, gJsJ, gPzN, gPsI, gPsJ, gPsP, gIzG, gJzG, gPzG, hb k]
      · simp [gIzN, gIsP, gIsI, gIsJ, gJzN, gJsP, gJsI, gJsJ, gPzN, gPsI, gPsJ, gPsP, gIzG, gJzG, gPzG, hb k]
      · show ∀ k ∈ ([] : List Nat), _
        exact List.forall_mem_nil _
    · refine ⟨fun k => ?_, fun k => ?_, ?_⟩
      · show _ = (0 : Int32)
        simp [gIzN, gIsP, gIsI, gIsJ, gJzN, gJsP, gJsI, gJsJ, gPzN, gPsI, gPsJ, gPsP, gIzG, gJzG, gPzG, hb k]
      · simp [gIzN, gIsP, gIsI, gIsJ, gJzN, gJsP, gJsI, gJsJ, gPzN, gPsI, gPsJ, gPsP, gIzG, gJzG, gPzG, hb k]
      · show ∀ k ∈ ([] : List Nat), _
        exact List.forall_mem_nil _
