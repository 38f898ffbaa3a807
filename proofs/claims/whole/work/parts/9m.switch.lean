/-! ===== all is made: the references are now read from the plan ===== -/
theorem arrV_cg {cA : ClassId} {n : Nat} {f g : Nat → Value} (h : ∀ j, j < n → f j = g j) : arrV cA n f = arrV cA n g := by
  unfold arrV
  congr 1
  apply Array.ext_getElem?
  intro j
  by_cases hj : j < n
  · simp [hj, h j hj]
  · simp [hj]
theorem pl_o {x c k : Nat} (hs : shp[x]? = some (.inl c)) (hk : k < 33) (h : xfk c k = 2) (hd : xdyn x k = false) : k ∈ pl x := by
  unfold pl
  rw [hs]
  exact List.mem_filter.mpr ⟨List.mem_range.mpr hk, by rw [h, hd]; rfl⟩
theorem pl_a {x kd len k : Nat} (hs : shp[x]? = some (.inr (kd, len))) (h3 : 3 ≤ kd) (hk : k < len) (hd : xdyn x k = false) : k ∈ pl x := by
  unfold pl
  rw [hs]
  dsimp only
  rw [Nat.ble_eq_true_of_le h3]
  exact List.mem_filter.mpr ⟨List.mem_range.mpr hk, by rw [hd]; rfl⟩
theorem xpr_sw {M : xM} {x k : Nat} (hf : ∀ k ∈ pl x, gP M x k = srf x k) (h : xdyn x k = false → k ∈ pl x) : xpr true M x k = xpr false M x k := by
  unfold xpr
  cases hd : xdyn x k with
  | true => rfl
  | false => exact hf k (h hd)
theorem ks_len : ∀ c, c < 13 → (xks.getD c []).length ≤ 33 := by decide
theorem xsw {κ : xKK} {M : xM} {n : Nat} {H : Heap} (hn : n ≤ 182) (hf : ∀ x, x < n → ∀ k ∈ pl x, gP M x k = srf x k) (h : va_P κ.2.2.1 vwCl (xws κ true M n) H) : va_P κ.2.2.1 vwCl (xws κ false M n) H := by
  intro x q hq
  obtain ⟨hx, rfl⟩ := xws_inv hq
  have h1 := h x _ (xws_get hx)
  have hlen : shp.length = 182 := by decide +kernel
  obtain ⟨e, he⟩ : ∃ e, shp[x]? = some e := ⟨_, List.getElem?_eq_getElem (by omega)⟩
  rw [shp_D he] at h1 ⊢
  have hfx := hf x hx
  rcases e with c | ⟨kd, len⟩
  · obtain ⟨r, hr, ho⟩ := h1
    obtain ⟨C, Tt, N⟩ := r
    have hr : vwCl[c]? = some (C, Tt, N) := hr
    refine ⟨_, hr, ho.to fun k hk => ?_⟩
    have hk : k < N := hk
    obtain ⟨-, -, glen, ty, -, gck⟩ := xgood hr
    have hc : c < 13 := (List.getElem?_eq_some_iff.mp hr).1
    show vp_V (xfs κ.2.1 true M x (xks.getD c [])) k = vp_V (xfs κ.2.1 false M x (xks.getD c [])) k
    have hk2 : k < (xks.getD c []).length := by rw [glen]; exact hk
    have hN : N ≤ 33 := by
      have hl := ks_len c hc
      omega
    have hq : (xks.getD c [])[k]? = some ((xks.getD c [])[k]) := List.getElem?_eq_getElem hk2
    have hfk : xfk c k = (xks.getD c [])[k] := by unfold xfk; rw [List.getD_eq_getElem?_getD (l := xks.getD c []), hq]; rfl
    have e9 : ∀ ex, vp_V (xfs κ.2.1 ex M x (xks.getD c [])) k = xval κ.2.1 ex M x (xfk c k) k := fun ex => by
      unfold vp_V
      rw [List.getD_eq_getElem?_getD (l := xfs κ.2.1 ex M x (xks.getD c [])), xfs_at hq, ← hfk]
      rfl
    rw [e9, e9]
    show xval κ.2.1 true M x (xfk c k) k = xval κ.2.1 false M x (xfk c k) k
    rcases xck_or gck hk with g | g | g | g
    · rw [g]; rfl
    · rw [g]; rfl
    · have hp : xpr true M x k = xpr false M x k := xpr_sw hfx (fun hd => pl_o he (by omega) g hd)
      rw [g]
      show xcv κ.2.1 (xrf (xpr true M x k)) = xcv κ.2.1 (xrf (xpr false M x k))
      rw [hp]
    · rw [g]; rfl
  · by_cases h3 : 3 ≤ kd
    · have hv : ∀ ex, xav κ.2.1 ex M x kd = .inr (.inr (.inr (.inr (xqs κ.2.1 ex M x)))) := fun ex => by
        unfold xav
        split
        · omega
        · omega
        · omega
        · rfl
      have h1 : H[κ.2.1 + x]? = some (vp_cell (κ.2.2.2 kd) (len, xav κ.2.1 true M x kd)) := h1
      show H[κ.2.1 + x]? = some (vp_cell (κ.2.2.2 kd) (len, xav κ.2.1 false M x kd))
      rw [h1, hv, hv]
      refine congrArg some (arrV_cg (f := fun j => va_rf (xqs κ.2.1 true M x j)) (g := fun j => va_rf (xqs κ.2.1 false M x j)) fun j hj => ?_)
      show va_rf ((xpr true M x j).map _) = va_rf ((xpr false M x j).map _)
      rw [xpr_sw hfx (fun hd => pl_a he h3 hj hd)]
    · have hv : xav κ.2.1 true M x kd = xav κ.2.1 false M x kd := by
        match kd, h3 with
        | 0, _ => rfl
        | 1, _ => rfl
        | 2, _ => rfl
        | k + 3, h3 => omega
      have h1 : H[κ.2.1 + x]? = some (vp_cell (κ.2.2.2 kd) (len, xav κ.2.1 true M x kd)) := h1
      show H[κ.2.1 + x]? = some (vp_cell (κ.2.2.2 kd) (len, xav κ.2.1 false M x kd))
      rw [h1, hv]
