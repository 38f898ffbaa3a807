/-! ===== the law: rules of its walk ===== -/
abbrev rL : xRm := (400, 600128, 7301097)
abbrev LL (b : Nat) (i : Int32) (a5 a6 a7 : Option Value) : xLc := [some (.retAddr b), some (.ref 0), some (.ref 166), some (.ref 181), some (.int i), a5, a6, a7]
def Zl (κ : xKK) (b N : Nat) (xs : Nat → Int32) (s : State) : Prop := xAO s ∧ xTh κ s ∧ xSc κ b N xs s
/-- a call's index: the script holds six ints from there -/
def raI (N : Nat) (i : Int32) : Prop := N ≤ 384 ∧ 0 ≤ i.toInt ∧ i.toInt + 6 ≤ (N : Int)
theorem ra_0 {N : Nat} {i : Int32} (h : raI N i) : 0 ≤ i.toInt ∧ i.toInt < (N : Int) := ⟨h.2.1, by have := h.2.2; omega⟩
theorem ra_v {N : Nat} {i v : Int32} (h : raI N i) (h0 : 0 ≤ v.toInt) (h5 : v.toInt ≤ 5) : 0 ≤ (i + v).toInt ∧ (i + v).toInt < (N : Int) := by
  obtain ⟨h1, h2, h3⟩ := h
  rw [fb_addI (by omega) (by omega)]
  omega
section LARG
variable {κ : xKK} {Z : State → Prop} {m : xMI} {r : xRm} {YS : xX → Prop} {pc nx k1 k2 : Nat} {L : xLc} {st : List Value} {M : xM} {z : xZ}
theorem xGh_arg {q N : Nat} {xs : Nat → Int32} {k0 : Fin 4} {n1 n2 n3 a0 b0 w0 a2 b2 w2 : Nat} {x0 x2 : Int32} {y0 y2 : Int64} {C : Prop} {v : Int32} (h0 : xat m pc = some (.aload_n k0, n1, (a0, b0, w0), x0, y0)) (hg : xget L a0 = some (.retAddr q)) (h1 : xrun m 3 True (n1, L, .retAddr q :: st, M, z) = some (C, (n2, L, .int v :: .retAddr q :: st, M, z))) (hc : C) (h2 : xat m n2 = some (.iaload, n3, (a2, b2, w2), x2, y2)) (hov : ∀ s, Z s → xSc κ q N xs s) (hi : 0 ≤ v.toInt ∧ v.toInt < (N : Int)) (kk : xGh κ Z m r (n3, L, .int (xs v.toNatClampNeg) :: st, M, z) YS) : xGh κ Z m r (pc, L, st, M, z) YS :=
  xGh_lda h0 hg (xGh_run 3 h1 hc (xGh_sld h2 hov hi.1 hi.2 kk))
theorem xGh_arg0 {q N : Nat} {xs : Nat → Int32} {k0 : Fin 4} {n1 n2 n3 a0 b0 w0 a2 b2 w2 : Nat} {x0 x2 : Int32} {y0 y2 : Int64} {C : Prop} {v : Int32} (h0 : xat m pc = some (.aload_n k0, n1, (a0, b0, w0), x0, y0)) (hg : xget L a0 = some (.retAddr q)) (h1 : xrun m 1 True (n1, L, .retAddr q :: st, M, z) = some (C, (n2, L, .int v :: .retAddr q :: st, M, z))) (hc : C) (h2 : xat m n2 = some (.iaload, n3, (a2, b2, w2), x2, y2)) (hov : ∀ s, Z s → xSc κ q N xs s) (hi : 0 ≤ v.toInt ∧ v.toInt < (N : Int)) (kk : xGh κ Z m r (n3, L, .int (xs v.toNatClampNeg) :: st, M, z) YS) : xGh κ Z m r (pc, L, st, M, z) YS :=
  xGh_lda h0 hg (xGh_run 1 h1 hc (xGh_sld h2 hov hi.1 hi.2 kk))
theorem xGh_c {L' : xLc} {st' : List Value} {M2 : xM} {z' : xZ} (n : Nat) {C : Prop} {j : Nat} {as : List Value} {my : xMI} {d' : Nat} {Post : Option Value → xM → Prop} (h : xca m (pc, L, st, M, 182, false, k1, k2) n = some (C, j, as, (nx, L', st', M2, z'))) (hc : C) (hm : mtab[j]? = some my) (hn : my.2.1.2.2.1 = n) (hni : ¬ my.1.2.1.name = "<init>") (hW : xckW my = true) (hE : xE2 κ my d' as M Post) (hd : d' + 1 ≤ r.1) (hk1 : k1 ≤ r.2.1) (hk2 : k2 ≤ r.2.2)
    (k : ∀ v M', Post v M' → xGh κ Z m r (nx, L', v.toList ++ st', M', 182, false, k1, k2) YS) : xGh κ Z m r (pc, L, st, M, 182, false, k1, k2) YS := by
  refine xGh_g (Y1 := fun Y => ∃ v M', Post v M' ∧ Y = (nx, L', v.toList ++ st', M', 182, false, k1, k2)) (xG_call n h hc hm hn hni hW hE ⟨hd, by show k1 + 0 ≤ r.2.1; omega, by show k2 + 0 ≤ r.2.2; omega⟩ (fun v M' n' _ q => by cases q) (fun v M' n' hp => xG_done ⟨v, M', hp.2, ?_⟩)) (fun Y hY => ?_)
  · rw [hp.1]; rfl
  · obtain ⟨v, M', hp, rfl⟩ := hY
    exact k v M' hp
end LARG
def laK (κ : xKK) (b N : Nat) (xs : Nat → Int32) (YS : xX → Prop) (i : Int32) (k1 k2 : Nat) : Prop := ∀ M' a5 a6 a7 k1' k2', IV M' → k1' ≤ k1 + 1 → k2' ≤ k2 + 6 → xGh κ (Zl κ b N xs) mL_law rL (1841, LL b i a5 a6 a7, [], M', 182, false, k1', k2') YS
theorem zl_s {κ : xKK} {b N : Nat} {xs : Nat → Int32} : ∀ s, Zl κ b N xs s → xSc κ b N xs s := fun _ h => h.2.2
theorem zl_t {κ : xKK} {b N : Nat} {xs : Nat → Int32} : ∀ s, Zl κ b N xs s → xTh κ s := fun _ h => h.2.1
