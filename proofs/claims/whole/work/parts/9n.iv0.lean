theorem IV_0 {M : xM} (h : ∀ x k, x < 181 → gI M x k = iI x k) (hJ : gJ M 166 18 = 0) : IV M := by
  have e : ∀ x k (v : Int32), x < 181 → iI x k = v → gI M x k = v := fun x k v hx hv => (h x k hx).trans hv
  refine ⟨⟨0, 0, 0, 0, 0, ⟨by omega, ⟨e _ _ _ (by omega) rfl, e _ _ _ (by omega) rfl⟩, ⟨e _ _ _ (by omega) rfl, e _ _ _ (by omega) rfl⟩, ⟨e _ _ _ (by omega) rfl, e _ _ _ (by omega) rfl⟩, ?_, ?_, ?_, ?_, ?_, ?_, ?_⟩, ⟨by omega, ⟨e _ _ _ (by omega) rfl, e _ _ _ (by omega) rfl⟩, fun k hk => absurd hk (Nat.not_lt_zero _)⟩, ⟨by omega, ⟨e _ _ _ (by omega) rfl, e _ _ _ (by omega) rfl⟩, fun k hk => absurd hk (Nat.not_lt_zero _)⟩⟩, hJ, ?_, ?_, ?_⟩
  · rw [e 1 4 0 (by omega) rfl, e 167 1650 0 (by omega) rfl]; exact ⟨rfl, by decide, by decide⟩
  · rw [e 1 5 0 (by omega) rfl, e 167 1648 0 (by omega) rfl]; exact ⟨rfl, by decide, by decide⟩
  · rw [e 1 6 1 (by omega) rfl, e 167 1649 1 (by omega) rfl]; exact ⟨rfl, Or.inl rfl⟩
  · intro k hk
    have e1 : gI M 4 k = 100 := e _ _ _ (by omega) (by match k, hk with
      | 0, _ | 1, _ | 2, _ | 3, _ | 4, _ => rfl)
    have e2 : gI M 167 (142 + k) = 100 := e _ _ _ (by omega) (by match k, hk with
      | 0, _ | 1, _ | 2, _ | 3, _ | 4, _ => rfl)
    show gI M 4 k = gI M 167 (142 + k) ∧ _
    rw [e1, e2]
    exact ⟨rfl, by decide, by decide⟩
  · intro k hk
    have e2 : gI M 167 (147 + k) = 0 := e _ _ _ (by omega) (by match k, hk with
      | 0, _ | 1, _ | 2, _ | 3, _ | 4, _ | 5, _ | 6, _ | 7, _ => rfl)
    show gI M 5 k = gI M 167 (147 + k) ∧ _
    rw [e 5 k 0 (by omega) rfl, e2]
    exact ⟨rfl, by decide, by decide⟩
  · exact fun k hk => absurd hk (Nat.not_lt_zero _)
  · exact fun k hk => absurd hk (Nat.not_lt_zero _)
  · intro j hj
    have a1 : gI M (142 + 3 * j) 0 = 0 ∧ gI M (142 + 3 * j) 2 = 0 ∧ gI M (142 + 3 * j) 3 = 0 ∧ ∀ k, gI M (144 + 3 * j) k = 0 := by
      match j, hj with
      | 0, _ | 1, _ | 2, _ | 3, _ | 4, _ | 5, _ | 6, _ | 7, _ => exact ⟨e _ _ _ (by omega) rfl, e _ _ _ (by omega) rfl, e _ _ _ (by omega) rfl, fun k => e _ _ _ (by omega) rfl⟩
    obtain ⟨a1, a2, a3, a4⟩ := a1
    have b0 : ∀ x k, 168 ≤ x → x < 181 → gI M x k = 0 := fun x k h1 h2 => e _ _ _ h2 (by
      obtain rfl | rfl | rfl | rfl | rfl | rfl | rfl | rfl | rfl | rfl | rfl | rfl | rfl : x = 168 ∨ x = 169 ∨ x = 170 ∨ x = 171 ∨ x = 172 ∨ x = 173 ∨ x = 174 ∨ x = 175 ∨ x = 176 ∨ x = 177 ∨ x = 178 ∨ x = 179 ∨ x = 180 := by omega
      all_goals rfl)
    refine ⟨⟨by rw [a1, b0 170 j (by omega) (by omega)], by rw [b0 170 j (by omega) (by omega)]; exact ⟨by decide, by decide⟩⟩, ⟨by rw [a2, b0 171 j (by omega) (by omega)], by rw [b0 171 j (by omega) (by omega)]; exact ⟨by decide, by decide⟩⟩, ⟨0, by omega, a3, b0 172 j (by omega) (by omega)⟩, fun k hk => by rw [a4, b0 173 _ (by omega) (by omega)], fun q => ?_⟩
    rw [b0 170 j (by omega) (by omega)] at q
    exact absurd q (by decide)
  · have c1 : gI M 166 10 = 0 := e _ _ _ (by omega) rfl
    exact ⟨⟨(e 0 7 0 (by omega) rfl).trans c1.symm, Or.inl c1⟩, fun q => absurd c1 q⟩
  · intro k hk
    rw [e 70 k 0 (by omega) rfl, e 117 k 0 (by omega) rfl]
    exact ⟨by decide, by decide⟩
