theorem gwo_12 : Cond.methodLink mX12_init.1.1 1 Lib.objectInit ∈ GW := xw1 (by decide +kernel)
def mB (M : xM) : xM := sI (sP (zN (sP (zN (sP (zN (sP (zN (sP (sP (zN (sP (zN (sP (zN (sP (zN (sP (zN (sP (zN (sP (zN (sP (zN (sP (zN (sP (zN (M) 167) 166 0 (some 167)) 168) 166 1 (some 168)) 169) 166 2 (some 169)) 170) 166 3 (some 170)) 171) 166 4 (some 171)) 172) 166 5 (some 172)) 173) 166 6 (some 173)) 174) 166 7 (some 174)) 175) 166 8 (some 175)) 176) 166 9 (some 176)) 166 16 (some 173)) 177) 166 17 (some 177)) 178) 166 19 (some 178)) 179) 166 20 (some 179)) 180) 166 31 (some 180)) 167 1649 1
def h5 (M : xM) : Nat → xM
  | 0 => M
  | c + 1 => sI (h5 M c) 167 (142 + c) 100
theorem gIh5 (M : xM) (x k : Nat) : ∀ c, gI (h5 M c) x k = if x = 167 ∧ 142 ≤ k ∧ k < 142 + c then 100 else gI M x k
  | 0 => by rw [if_neg (by omega)]; rfl
  | c + 1 => by
    rw [h5, gIsI, gIh5 M x k c]
    by_cases h : x = 167 ∧ k = 142 + c
    · rw [if_pos h, if_pos (by omega)]
    · rw [if_neg h]
      by_cases h2 : x = 167 ∧ 142 ≤ k ∧ k < 142 + c
      · rw [if_pos h2, if_pos (by omega)]
      · rw [if_neg h2, if_neg (by omega)]
theorem gJh5 (M : xM) (x k : Nat) : ∀ c, gJ (h5 M c) x k = gJ M x k
  | 0 => rfl
  | c + 1 => (gJsI _ _ _ _ _ _).trans (gJh5 M x k c)
theorem gPh5 (M : xM) (x k : Nat) : ∀ c, gP (h5 M c) x k = gP M x k
  | 0 => rfl
  | c + 1 => (gPsI _ _ _ _ _ _).trans (gPh5 M x k c)
set_option maxRecDepth 8000 in
set_option maxHeartbeats 4000000 in
theorem mB_ok {M : xM} (hb : bl M 166) : cnP M 166 181 none (h5 (mB M) 5) 181 := by
  refine ⟨rfl, rfl, fun x k hx => ⟨?_, ?_, ?_⟩, fun x hx1 hx2 => ?_⟩
  · rw [gIh5, if_neg (by omega)]; unfold mB; rw [gIsI, if_neg (by omega), gIsP, gIzN, if_neg (by omega), gIsP, gIzN, if_neg (by omega), gIsP, gIzN, if_neg (by omega), gIsP, gIzN, if_neg (by omega), gIsP, gIsP, gIzN, if_neg (by omega), gIsP, gIzN, if_neg (by omega), gIsP, gIzN, if_neg (by omega), gIsP, gIzN, if_neg (by omega), gIsP, gIzN, if_neg (by omega), gIsP, gIzN, if_neg (by omega), gIsP, gIzN, if_neg (by omega), gIsP, gIzN, if_neg (by omega), gIsP, gIzN, if_neg (by omega), gIsP, gIzN, if_neg (by omega)]
  · rw [gJh5]; unfold mB; rw [gJsI, gJsP, gJzN, if_neg (by omega), gJsP, gJzN, if_neg (by omega), gJsP, gJzN, if_neg (by omega), gJsP, gJzN, if_neg (by omega), gJsP, gJsP, gJzN, if_neg (by omega), gJsP, gJzN, if_neg (by omega), gJsP, gJzN, if_neg (by omega), gJsP, gJzN, if_neg (by omega), gJsP, gJzN, if_neg (by omega), gJsP, gJzN, if_neg (by omega), gJsP, gJzN, if_neg (by omega), gJsP, gJzN, if_neg (by omega), gJsP, gJzN, if_neg (by omega), gJsP, gJzN, if_neg (by omega)]
  · rw [gPh5]; unfold mB; simp (disch := omega) only [gIzN, gIsP, gIsI, gIsJ, gJzN, gJsP, gJsI, gJsJ, gPzN, gPsI, gPsJ, gPsP, gIzG, gJzG, gPzG, if_neg]
  · obtain rfl | rfl | rfl | rfl | rfl | rfl | rfl | rfl | rfl | rfl | rfl | rfl | rfl | rfl | rfl : x = 166 ∨ x = 167 ∨ x = 168 ∨ x = 169 ∨ x = 170 ∨ x = 171 ∨ x = 172 ∨ x = 173 ∨ x = 174 ∨ x = 175 ∨ x = 176 ∨ x = 177 ∨ x = 178 ∨ x = 179 ∨ x = 180 := by omega
    · refine ⟨fun k => ?_, fun k => ?_, ?_⟩
      · rw [gIh5]
        rw [if_neg (by omega)]
        show _ = (0 : Int32)
        unfold mB; simp [gIzN, gIsP, gIsI, gIsJ, gJzN, gJsP, gJsI, gJsJ, gPzN, gPsI, gPsJ, gPsP, gIzG, gJzG, gPzG, hb k]
      · rw [gJh5]; unfold mB; simp [gIzN, gIsP, gIsI, gIsJ, gJzN, gJsP, gJsI, gJsJ, gPzN, gPsI, gPsJ, gPsP, gIzG, gJzG, gPzG, hb k]
      · show ∀ k ∈ ([0, 1, 2, 3, 4, 5, 6, 7, 8, 9, 17, 19, 20, 31] : List Nat), _
        refine List.forall_mem_cons.mpr ⟨?_, ?_⟩
        · show _ = some 167
          rw [gPh5]; unfold mB; simp [gIzN, gIsP, gIsI, gIsJ, gJzN, gJsP, gJsI, gJsJ, gPzN, gPsI, gPsJ, gPsP, gIzG, gJzG, gPzG]
        refine List.forall_mem_cons.mpr ⟨?_, ?_⟩
        · show _ = some 168
          rw [gPh5]; unfold mB; simp [gIzN, gIsP, gIsI, gIsJ, gJzN, gJsP, gJsI, gJsJ, gPzN, gPsI, gPsJ, gPsP, gIzG, gJzG, gPzG]
        refine List.forall_mem_cons.mpr ⟨?_, ?_⟩
        · show _ = some 169
          rw [gPh5]; unfold mB; simp [gIzN, gIsP, gIsI, gIsJ, gJzN, gJsP, gJsI, gJsJ, gPzN, gPsI, gPsJ, gPsP, gIzG, gJzG, gPzG]
        refine List.forall_mem_cons.mpr ⟨?_, ?_⟩
        · show _ = some 170
          rw [gPh5]; unfold mB; simp [gIzN, gIsP, gIsI, gIsJ, gJzN, gJsP, gJsI, gJsJ, gPzN, gPsI, gPsJ, gPsP, gIzG, gJzG, gPzG]
        refine List.forall_mem_cons.mpr ⟨?_, ?_⟩
        · show _ = some 171
          rw [gPh5]; unfold mB; simp [gIzN, gIsP, gIsI, gIsJ, gJzN, gJsP, gJsI, gJsJ, gPzN, gPsI, gPsJ, gPsP, gIzG, gJzG, gPzG]
        refine List.forall_mem_cons.mpr ⟨?_, ?_⟩
        · show _ = some 172
          rw [gPh5]; unfold mB; simp [gIzN, gIsP, gIsI, gIsJ, gJzN, gJsP, gJsI, gJsJ, gPzN, gPsI, gPsJ, gPsP, gIzG, gJzG, gPzG]
        refine List.forall_mem_cons.mpr ⟨?_, ?_⟩
        · show _ = some 173
          rw [gPh5]; unfold mB; simp [gIzN, gIsP, gIsI, gIsJ, gJzN, gJsP, gJsI, gJsJ, gPzN, gPsI, gPsJ, gPsP, gIzG, gJzG, gPzG]
        refine List.forall_mem_cons.mpr ⟨?_, ?_⟩
        · show _ = some 174
          rw [gPh5]; unfold mB; simp [gIzN, gIsP, gIsI, gIsJ, gJzN, gJsP, gJsI, gJsJ, gPzN, gPsI, gPsJ, gPsP, gIzG, gJzG, gPzG]
        refine List.forall_mem_cons.mpr ⟨?_, ?_⟩
        · show _ = some 175
          rw [gPh5]; unfold mB; simp [gIzN, gIsP, gIsI, gIsJ, gJzN, gJsP, gJsI, gJsJ, gPzN, gPsI, gPsJ, gPsP, gIzG, gJzG, gPzG]
        refine List.forall_mem_cons.mpr ⟨?_, ?_⟩
        · show _ = some 176
          rw [gPh5]; unfold mB; simp [gIzN, gIsP, gIsI, gIsJ, gJzN, gJsP, gJsI, gJsJ, gPzN, gPsI, gPsJ, gPsP, gIzG, gJzG, gPzG]
        refine List.forall_mem_cons.mpr ⟨?_, ?_⟩
        · show _ = some 177
          rw [gPh5]; unfold mB; simp [gIzN, gIsP, gIsI, gIsJ, gJzN, gJsP, gJsI, gJsJ, gPzN, gPsI, gPsJ, gPsP, gIzG, gJzG, gPzG]
        refine List.forall_mem_cons.mpr ⟨?_, ?_⟩
        · show _ = some 178
          rw [gPh5]; unfold mB; simp [gIzN, gIsP, gIsI, gIsJ, gJzN, gJsP, gJsI, gJsJ, gPzN, gPsI, gPsJ, gPsP, gIzG, gJzG, gPzG]
        refine List.forall_mem_cons.mpr ⟨?_, ?_⟩
        · show _ = some 179
          rw [gPh5]; unfold mB; simp [gIzN, gIsP, gIsI, gIsJ, gJzN, gJsP, gJsI, gJsJ, gPzN, gPsI, gPsJ, gPsP, gIzG, gJzG, gPzG]
        refine List.forall_mem_cons.mpr ⟨?_, ?_⟩
        · show _ = some 180
          rw [gPh5]; unfold mB; simp [gIzN, gIsP, gIsI, gIsJ, gJzN, gJsP, gJsI, gJsJ, gPzN, gPsI, gPsJ, gPsP, gIzG, gJzG, gPzG]
        exact List.forall_mem_nil _
    · refine ⟨fun k => ?_, fun k => ?_, ?_⟩
      · rw [gIh5]
        show _ = (bif Nat.beq k 1649 then (1 : Int32) else bif Nat.ble 142 k && Nat.blt k 147 then 100 else 0)
        by_cases h1 : k = 1649
        · subst h1; unfold mB; simp [gIzN, gIsP, gIsI, gIsJ, gJzN, gJsP, gJsI, gJsJ, gPzN, gPsI, gPsJ, gPsP, gIzG, gJzG, gPzG]
        · rw [beq_ne h1]
          by_cases h2 : 142 ≤ k ∧ k < 147
          · rw [if_pos (by omega), Nat.ble_eq_true_of_le h2.1, show Nat.blt k 147 = true from Nat.ble_eq_true_of_le h2.2]; rfl
          · rw [if_neg (by omega), show (Nat.ble 142 k && Nat.blt k 147) = false from Bool.eq_false_iff.mpr (fun q => by rw [Bool.and_eq_true] at q; exact h2 ⟨Nat.le_of_ble_eq_true q.1, Nat.le_of_ble_eq_true q.2⟩)]; unfold mB; simp [gIzN, gIsP, gIsI, gIsJ, gJzN, gJsP, gJsI, gJsJ, gPzN, gPsI, gPsJ, gPsP, gIzG, gJzG, gPzG, h1]
      · rw [gJh5]; unfold mB; simp [gIzN, gIsP, gIsI, gIsJ, gJzN, gJsP, gJsI, gJsJ, gPzN, gPsI, gPsJ, gPsP, gIzG, gJzG, gPzG, hb k]
      · show ∀ k ∈ ([] : List Nat), _
        exact List.forall_mem_nil _
    · refine ⟨fun k => ?_, fun k => ?_, ?_⟩
      · rw [gIh5]
        rw [if_neg (by omega)]
        show _ = (0 : Int32)
        unfold mB; simp [gIzN, gIsP, gIsI, gIsJ, gJzN, gJsP, gJsI, gJsJ, gPzN, gPsI, gPsJ, gPsP, gIzG, gJzG, gPzG, hb k]
      · rw [gJh5]; unfold mB; simp [gIzN, gIsP, gIsI, gIsJ, gJzN, gJsP, gJsI, gJsJ, gPzN, gPsI, gPsJ, gPsP, gIzG, gJzG, gPzG, hb k]
      · show ∀ k ∈ ([] : List Nat), _
        exact List.forall_mem_nil _
    · refine ⟨fun k => ?_, fun k => ?_, ?_⟩
      · rw [gIh5]
        rw [if_neg (by omega)]
        show _ = (0 : Int32)
        unfold mB; simp [gIzN, gIsP, gIsI, gIsJ, gJzN, gJsP, gJsI, gJsJ, gPzN, gPsI, gPsJ, gPsP, gIzG, gJzG, gPzG, hb k]
      · rw [gJh5]; unfold mB; simp [gIzN, gIsP, gIsI, gIsJ, gJzN, gJsP, gJsI, gJsJ, gPzN, gPsI, gPsJ, gPsP, gIzG, gJzG, gPzG, hb k]
      · show ∀ k ∈ ([] : List Nat), _
        exact List.forall_mem_nil _
    · refine ⟨fun k => ?_, fun k => ?_, ?_⟩
      · rw [gIh5]
        rw [if_neg (by omega)]
        show _ = (0 : Int32)
        unfold mB; simp [gIzN, gIsP, gIsI, gIsJ, gJzN, gJsP, gJsI, gJsJ, gPzN, gPsI, gPsJ, gPsP, gIzG, gJzG, gPzG, hb k]
      · rw [gJh5]; unfold mB; simp [gIzN, gIsP, gIsI, gIsJ, gJzN, gJsP, gJsI, gJsJ, gPzN, gPsI, gPsJ, gPsP, gIzG, gJzG, gPzG, hb k]
      · show ∀ k ∈ ([] : List Nat), _
        exact List.forall_mem_nil _
    · refine ⟨fun k => ?_, fun k => ?_, ?_⟩
      · rw [gIh5]
        rw [if_neg (by omega)]
        show _ = (0 : Int32)
        unfold mB; simp [gIzN, gIsP, gIsI, gIsJ, gJzN, gJsP, gJsI, gJsJ, gPzN, gPsI, gPsJ, gPsP, gIzG, gJzG, gPzG, hb k]
      · rw [gJh5]; unfold mB; simp [gIzN, gIsP, gIsI, gIsJ, gJzN, gJsP, gJsI, gJsJ, gPzN, gPsI, gPsJ, gPsP, gIzG, gJzG, gPzG, hb k]
      · show ∀ k ∈ ([] : List Nat), _
        exact List.forall_mem_nil _
    · refine ⟨fun k => ?_, fun k => ?_, ?_⟩
      · rw [gIh5]
        rw [if_neg (by omega)]
        show _ = (0 : Int32)
        unfold mB; simp [gIzN, gIsP, gIsI, gIsJ, gJzN, gJsP, gJsI, gJsJ, gPzN, gPsI, gPsJ, gPsP, gIzG, gJzG, gPzG, hb k]
      · rw [gJh5]; unfold mB; simp [gIzN, gIsP, gIsI, gIsJ, gJzN, gJsP, gJsI, gJsJ, gPzN, gPsI, gPsJ, gPsP, gIzG, gJzG, gPzG, hb k]
      · show ∀ k ∈ ([] : List Nat), _
        exact List.forall_mem_nil _
    · refine ⟨fun k => ?_, fun k => ?_, ?_⟩
      · rw [gIh5]
        rw [if_neg (by omega)]
        show _ = (0 : Int32)
        unfold mB; simp [gIzN, gIsP, gIsI, gIsJ, gJzN, gJsP, gJsI, gJsJ, gPzN, gPsI, gPsJ, gPsP, gIzG, gJzG, gPzG, hb k]
      · rw [gJh5]; unfold mB; simp [gIzN, gIsP, gIsI, gIsJ, gJzN, gJsP, gJsI, gJsJ, gPzN, gPsI, gPsJ, gPsP, gIzG, gJzG, gPzG, hb k]
      · show ∀ k ∈ ([] : List Nat), _
        exact List.forall_mem_nil _
    · refine ⟨fun k => ?_, fun k => ?_, ?_⟩
      · rw [gIh5]
        rw [if_neg (by omega)]
        show _ = (0 : Int32)
        unfold mB; simp [gIzN, gIsP, gIsI, gIsJ, gJzN, gJsP, gJsI, gJsJ, gPzN, gPsI, gPsJ, gPsP, gIzG, gJzG, gPzG, hb k]
      · rw [gJh5]; unfold mB; simp [gIzN, gIsP, gIsI, gIsJ, gJzN, gJsP, gJsI, gJsJ, gPzN, gPsI, gPsJ, gPsP, gIzG, gJzG, gPzG, hb k]
      · show ∀ k ∈ ([] : List Nat), _
        exact List.forall_mem_nil _
    · refine ⟨fun k => ?_, fun k => ?_, ?_⟩
      · rw [gIh5]
        rw [if_neg (by omega)]
        show _ = (0 : Int32)
        unfold mB; simp [gIzN, gIsP, gIsI, gIsJ, gJzN, gJsP, gJsI, gJsJ, gPzN, gPsI, gPsJ, gPsP, gIzG, gJzG, gPzG, hb k]
      · rw [gJh5]; unfold mB; simp [gIzN, gIsP, gIsI, gIsJ, gJzN, gJsP, gJsI, gJsJ, gPzN, gPsI, gPsJ, gPsP, gIzG, gJzG, gPzG, hb k]
      · show ∀ k ∈ ([] : List Nat), _
        exact List.forall_mem_nil _
    · refine ⟨fun k => ?_, fun k => ?_, ?_⟩
      · rw [gIh5]
        rw [if_neg (by omega)]
        show _ = (0 : Int32)
        unfold mB; simp [gIzN, gIsP, gIsI, gIsJ, gJzN, gJsP, gJsI, gJsJ, gPzN, gPsI, gPsJ, gPsP, gIzG, gJzG, gPzG, hb k]
      · rw [gJh5]; unfold mB; simp [gIzN, gIsP, gIsI, gIsJ, gJzN, gJsP, gJsI, gJsJ, gPzN, gPsI, gPsJ, gPsP, gIzG, gJzG, gPzG, hb k]
      · show ∀ k ∈ ([] : List Nat), _
        exact List.forall_mem_nil _
    · refine ⟨fun k => ?_, fun k => ?_, ?_⟩
      · rw [gIh5]
        rw [if_neg (by omega)]
        show _ = (0 : Int32)
        unfold mB; simp [gIzN, gIsP, gIsI, gIsJ, gJzN, gJsP, gJsI, gJsJ, gPzN, gPsI, gPsJ, gPsP, gIzG, gJzG, gPzG, hb k]
      · rw [gJh5]; unfold mB; simp [gIzN, gIsP, gIsI, gIsJ, gJzN, gJsP, gJsI, gJsJ, gPzN, gPsI, gPsJ, gPsP, gIzG, gJzG, gPzG, hb k]
      · show ∀ k ∈ ([] : List Nat), _
        exact List.forall_mem_nil _
    · refine ⟨fun k => ?_, fun k => ?_, ?_⟩
      · rw [gIh5]
        rw [if_neg (by omega)]
        show _ = (0 : Int32)
        unfold mB; simp [gIzN, gIsP, gIsI, gIsJ, gJzN, gJsP, gJsI, gJsJ, gPzN, gPsI, gPsJ, gPsP, gIzG, gJzG, gPzG, hb k]
      · rw [gJh5]; unfold mB; simp [gIzN, gIsP, gIsI, gIsJ, gJzN, gJsP, gJsI, gJsJ, gPzN, gPsI, gPsJ, gPsP, gIzG, gJzG, gPzG, hb k]
      · show ∀ k ∈ ([] : List Nat), _
        exact List.forall_mem_nil _
    · refine ⟨fun k => ?_, fun k => ?_, ?_⟩
      · rw [gIh5]
        rw [if_neg (by omega)]
        show _ = (0 : Int32)
        unfold mB; simp [gIzN, gIsP, gIsI, gIsJ, gJzN, gJsP, gJsI, gJsJ, gPzN, gPsI, gPsJ, gPsP, gIzG, gJzG, gPzG, hb k]
      · rw [gJh5]; unfold mB; simp [gIzN, gIsP, gIsI, gIsJ, gJzN, gJsP, gJsI, gJsJ, gPzN, gPsI, gPsJ, gPsP, gIzG, gJzG, gPzG, hb k]
      · show ∀ k ∈ ([] : List Nat), _
        exact List.forall_mem_nil _
    · refine ⟨fun k => ?_, fun k => ?_, ?_⟩
      · rw [gIh5]
        rw [if_neg (by omega)]
        show _ = (0 : Int32)
        unfold mB; simp [gIzN, gIsP, gIsI, gIsJ, gJzN, gJsP, gJsI, gJsJ, gPzN, gPsI, gPsJ, gPsP, gIzG, gJzG, gPzG, hb k]
      · rw [gJh5]; unfold mB; simp [gIzN, gIsP, gIsI, gIsJ, gJzN, gJsP, gJsI, gJsJ, gPzN, gPsI, gPsJ, gPsP, gIzG, gJzG, gPzG, hb k]
      · show ∀ k ∈ ([] : List Nat), _
        exact List.forall_mem_nil _
set_option maxRecDepth 8000 in
set_option maxHeartbeats 2000000 in
theorem k_X12_166 {κ : xKK} {M : xM} (hb : bl M 166) : xEz κ mX12_init (0, 14, 5991) [.ref 166] M 167 (cnP M 166 181) := by
  refine xEz_of ci_X12_init cl_X12_init cw_X12_init rfl (L := [some (.ref 166), none]) rfl ?_
  refine xGh_run 1 rfl (by repeat' (first | exact trivial | assumption | exact xob_b rfl | exact xal_b rfl | exact xar_b rfl _ rfl (by decide) (by decide) | (apply And.intro) | decide)) ?_
  try dsimp only [xsto1, xsto2, xkill, xget, xset, gd_0, gd_s]
  refine xGh_obj rfl gwo_12 rfl ?_
  refine xGh_run 2 rfl (by repeat' (first | exact trivial | assumption | exact xob_b rfl | exact xal_b rfl | exact xar_b rfl _ rfl (by decide) (by decide) | (apply And.intro) | decide)) ?_
  try dsimp only [xsto1, xsto2, xkill, xget, xset, gd_0, gd_s]
  refine xGh_na (n' := 168) (k1' := 1) (k2' := 1651) rfl rfl rfl rfl rfl rfl (Or.inl ⟨rfl, rfl⟩) (by decide) rfl (by decide) (by decide) (by decide) ?_
  refine xGh_run 3 rfl (by repeat' (first | exact trivial | assumption | exact xob_b rfl | exact xal_b rfl | exact xar_b rfl _ rfl (by decide) (by decide) | (apply And.intro) | decide)) ?_
  try dsimp only [xsto1, xsto2, xkill, xget, xset, gd_0, gd_s]
  refine xGh_na (n' := 169) (k1' := 2) (k2' := 3302) rfl rfl rfl rfl rfl rfl (Or.inl ⟨rfl, rfl⟩) (by decide) rfl (by decide) (by decide) (by decide) ?_
  refine xGh_run 3 rfl (by repeat' (first | exact trivial | assumption | exact xob_b rfl | exact xal_b rfl | exact xar_b rfl _ rfl (by decide) (by decide) | (apply And.intro) | decide)) ?_
  try dsimp only [xsto1, xsto2, xkill, xget, xset, gd_0, gd_s]
  refine xGh_na (n' := 170) (k1' := 3) (k2' := 4953) rfl rfl rfl rfl rfl rfl (Or.inl ⟨rfl, rfl⟩) (by decide) rfl (by decide) (by decide) (by decide) ?_
  refine xGh_run 3 rfl (by repeat' (first | exact trivial | assumption | exact xob_b rfl | exact xal_b rfl | exact xar_b rfl _ rfl (by decide) (by decide) | (apply And.intro) | decide)) ?_
  try dsimp only [xsto1, xsto2, xkill, xget, xset, gd_0, gd_s]
  refine xGh_na (n' := 171) (k1' := 4) (k2' := 4961) rfl rfl rfl rfl rfl rfl (Or.inl ⟨rfl, rfl⟩) (by decide) rfl (by decide) (by decide) (by decide) ?_
  refine xGh_run 3 rfl (by repeat' (first | exact trivial | assumption | exact xob_b rfl | exact xal_b rfl | exact xar_b rfl _ rfl (by decide) (by decide) | (apply And.intro) | decide)) ?_
  try dsimp only [xsto1, xsto2, xkill, xget, xset, gd_0, gd_s]
  refine xGh_na (n' := 172) (k1' := 5) (k2' := 4969) rfl rfl rfl rfl rfl rfl (Or.inl ⟨rfl, rfl⟩) (by decide) rfl (by decide) (by decide) (by decide) ?_
  refine xGh_run 3 rfl (by repeat' (first | exact trivial | assumption | exact xob_b rfl | exact xal_b rfl | exact xar_b rfl _ rfl (by decide) (by decide) | (apply And.intro) | decide)) ?_
  try dsimp only [xsto1, xsto2, xkill, xget, xset, gd_0, gd_s]
  refine xGh_na (n' := 173) (k1' := 6) (k2' := 4977) rfl rfl rfl rfl rfl rfl (Or.inl ⟨rfl, rfl⟩) (by decide) rfl (by decide) (by decide) (by decide) ?_
  refine xGh_run 3 rfl (by repeat' (first | exact trivial | assumption | exact xob_b rfl | exact xal_b rfl | exact xar_b rfl _ rfl (by decide) (by decide) | (apply And.intro) | decide)) ?_
  try dsimp only [xsto1, xsto2, xkill, xget, xset, gd_0, gd_s]
  refine xGh_na (n' := 174) (k1' := 7) (k2' := 5937) rfl rfl rfl rfl rfl rfl (Or.inl ⟨rfl, rfl⟩) (by decide) rfl (by decide) (by decide) (by decide) ?_
  refine xGh_run 3 rfl (by repeat' (first | exact trivial | assumption | exact xob_b rfl | exact xal_b rfl | exact xar_b rfl _ rfl (by decide) (by decide) | (apply And.intro) | decide)) ?_
  try dsimp only [xsto1, xsto2, xkill, xget, xset, gd_0, gd_s]
  refine xGh_na (n' := 175) (k1' := 8) (k2' := 5945) rfl rfl rfl rfl rfl rfl (Or.inl ⟨rfl, rfl⟩) (by decide) rfl (by decide) (by decide) (by decide) ?_
  refine xGh_run 3 rfl (by repeat' (first | exact trivial | assumption | exact xob_b rfl | exact xal_b rfl | exact xar_b rfl _ rfl (by decide) (by decide) | (apply And.intro) | decide)) ?_
  try dsimp only [xsto1, xsto2, xkill, xget, xset, gd_0, gd_s]
  refine xGh_na (n' := 176) (k1' := 9) (k2' := 5953) rfl rfl rfl rfl rfl rfl (Or.inl ⟨rfl, rfl⟩) (by decide) rfl (by decide) (by decide) (by decide) ?_
  refine xGh_run 3 rfl (by repeat' (first | exact trivial | assumption | exact xob_b rfl | exact xal_b rfl | exact xar_b rfl _ rfl (by decide) (by decide) | (apply And.intro) | decide)) ?_
  try dsimp only [xsto1, xsto2, xkill, xget, xset, gd_0, gd_s]
  refine xGh_na (n' := 177) (k1' := 10) (k2' := 5961) rfl rfl rfl rfl rfl rfl (Or.inl ⟨rfl, rfl⟩) (by decide) rfl (by decide) (by decide) (by decide) ?_
  refine xGh_run 7 rfl (by repeat' (first | exact trivial | assumption | exact xob_b rfl | exact xal_b rfl | exact xar_b rfl _ rfl (by decide) (by decide) | (apply And.intro) | decide)) ?_
  try dsimp only [xsto1, xsto2, xkill, xget, xset, gd_0, gd_s]
  refine xGh_na (n' := 178) (k1' := 11) (k2' := 5967) rfl rfl rfl rfl rfl rfl (Or.inl ⟨rfl, rfl⟩) (by decide) rfl (by decide) (by decide) (by decide) ?_
  refine xGh_run 3 rfl (by repeat' (first | exact trivial | assumption | exact xob_b rfl | exact xal_b rfl | exact xar_b rfl _ rfl (by decide) (by decide) | (apply And.intro) | decide)) ?_
  try dsimp only [xsto1, xsto2, xkill, xget, xset, gd_0, gd_s]
  refine xGh_na (n' := 179) (k1' := 12) (k2' := 5973) rfl rfl rfl rfl rfl rfl (Or.inl ⟨rfl, rfl⟩) (by decide) rfl (by decide) (by decide) (by decide) ?_
  refine xGh_run 3 rfl (by repeat' (first | exact trivial | assumption | exact xob_b rfl | exact xal_b rfl | exact xar_b rfl _ rfl (by decide) (by decide) | (apply And.intro) | decide)) ?_
  try dsimp only [xsto1, xsto2, xkill, xget, xset, gd_0, gd_s]
  refine xGh_na (n' := 180) (k1' := 13) (k2' := 5979) rfl rfl rfl rfl rfl rfl (Or.inl ⟨rfl, rfl⟩) (by decide) rfl (by decide) (by decide) (by decide) ?_
  refine xGh_run 3 rfl (by repeat' (first | exact trivial | assumption | exact xob_b rfl | exact xal_b rfl | exact xar_b rfl _ rfl (by decide) (by decide) | (apply And.intro) | decide)) ?_
  try dsimp only [xsto1, xsto2, xkill, xget, xset, gd_0, gd_s]
  refine xGh_na (n' := 181) (k1' := 14) (k2' := 5991) rfl rfl rfl rfl rfl rfl (Or.inl ⟨rfl, rfl⟩) (by decide) rfl (by decide) (by decide) (by decide) ?_
  refine xGh_run 10 rfl (by repeat' (first | exact trivial | assumption | exact xob_b rfl | exact xal_b rfl | exact xar_b rfl _ rfl (by decide) (by decide) | (apply And.intro) | decide)) ?_
  try dsimp only [xsto1, xsto2, xkill, xget, xset, gd_0, gd_s]
  refine xGh_brF rfl (by decide) ?_
  refine xGh_run 9 rfl (by repeat' (first | exact trivial | assumption | exact xob_b rfl | exact xal_b rfl | exact xar_b rfl _ rfl (by decide) (by decide) | (apply And.intro) | decide)) ?_
  try dsimp only [xsto1, xsto2, xkill, xget, xset, gd_0, gd_s]
  change xGh κ xAO _ _ (139, [some (.ref 166), some (.int 1)], [], h5 (mB M) 1, 181, true, 14, 5991) _
  refine xGh_run 2 rfl (by repeat' (first | exact trivial | assumption | exact xob_b rfl | exact xal_b rfl | exact xar_b rfl _ rfl (by decide) (by decide) | (apply And.intro) | decide)) ?_
  try dsimp only [xsto1, xsto2, xkill, xget, xset, gd_0, gd_s]
  refine xGh_brF rfl (by decide) ?_
  refine xGh_run 9 rfl (by repeat' (first | exact trivial | assumption | exact xob_b rfl | exact xal_b rfl | exact xar_b rfl _ rfl (by decide) (by decide) | (apply And.intro) | decide)) ?_
  try dsimp only [xsto1, xsto2, xkill, xget, xset, gd_0, gd_s]
  change xGh κ xAO _ _ (139, [some (.ref 166), some (.int 2)], [], h5 (mB M) 2, 181, true, 14, 5991) _
  refine xGh_run 2 rfl (by repeat' (first | exact trivial | assumption | exact xob_b rfl | exact xal_b rfl | exact xar_b rfl _ rfl (by decide) (by decide) | (apply And.intro) | decide)) ?_
  try dsimp only [xsto1, xsto2, xkill, xget, xset, gd_0, gd_s]
  refine xGh_brF rfl (by decide) ?_
  refine xGh_run 9 rfl (by repeat' (first | exact trivial | assumption | exact xob_b rfl | exact xal_b rfl | exact xar_b rfl _ rfl (by decide) (by decide) | (apply And.intro) | decide)) ?_
  try dsimp only [xsto1, xsto2, xkill, xget, xset, gd_0, gd_s]
  change xGh κ xAO _ _ (139, [some (.ref 166), some (.int 3)], [], h5 (mB M) 3, 181, true, 14, 5991) _
  refine xGh_run 2 rfl (by repeat' (first | exact trivial | assumption | exact xob_b rfl | exact xal_b rfl | exact xar_b rfl _ rfl (by decide) (by decide) | (apply And.intro) | decide)) ?_
  try dsimp only [xsto1, xsto2, xkill, xget, xset, gd_0, gd_s]
  refine xGh_brF rfl (by decide) ?_
  refine xGh_run 9 rfl (by repeat' (first | exact trivial | assumption | exact xob_b rfl | exact xal_b rfl | exact xar_b rfl _ rfl (by decide) (by decide) | (apply And.intro) | decide)) ?_
  try dsimp only [xsto1, xsto2, xkill, xget, xset, gd_0, gd_s]
  change xGh κ xAO _ _ (139, [some (.ref 166), some (.int 4)], [], h5 (mB M) 4, 181, true, 14, 5991) _
  refine xGh_run 2 rfl (by repeat' (first | exact trivial | assumption | exact xob_b rfl | exact xal_b rfl | exact xar_b rfl _ rfl (by decide) (by decide) | (apply And.intro) | decide)) ?_
  try dsimp only [xsto1, xsto2, xkill, xget, xset, gd_0, gd_s]
  refine xGh_brF rfl (by decide) ?_
  refine xGh_run 9 rfl (by repeat' (first | exact trivial | assumption | exact xob_b rfl | exact xal_b rfl | exact xar_b rfl _ rfl (by decide) (by decide) | (apply And.intro) | decide)) ?_
  try dsimp only [xsto1, xsto2, xkill, xget, xset, gd_0, gd_s]
  change xGh κ xAO _ _ (139, [some (.ref 166), some (.int 5)], [], h5 (mB M) 5, 181, true, 14, 5991) _
  refine xGh_run 2 rfl (by repeat' (first | exact trivial | assumption | exact xob_b rfl | exact xal_b rfl | exact xar_b rfl _ rfl (by decide) (by decide) | (apply And.intro) | decide)) ?_
  try dsimp only [xsto1, xsto2, xkill, xget, xset, gd_0, gd_s]
  refine xGh_brT rfl (by decide) ?_
  refine xGh_done ⟨_, rfl, rfl, Or.inr (Or.inr (Or.inr ⟨rfl, rfl, rfl, ?_⟩))⟩
  exact mB_ok hb
