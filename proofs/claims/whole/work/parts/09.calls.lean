/-! ===== calls ===== -/
theorem xpop_ok : ∀ (k : Nat) (acc st as st' : List Value), xpop k acc st = some (as, st') → acc.reverse ++ st = as.reverse ++ st' ∧ as.length = acc.length + k
  | 0, acc, st, as, st', h => by rw [xpop] at h; cases h; exact ⟨rfl, rfl⟩
  | k + 1, acc, v :: st, as, st', h => by
    rw [xpop] at h
    obtain ⟨h1, h2⟩ := xpop_ok k (v :: acc) st as st' h
    rw [List.reverse_cons, List.append_assoc] at h1
    exact ⟨h1, by rw [h2, List.length_cons]; omega⟩
  | k + 1, acc, [], as, st', h => by rw [xpop] at h; cases h; intro q; cases q
theorem xws_get {κ : xKK} {ex : Bool} {M : xM} {n k : Nat} (hk : k < n) : (xws κ ex M n)[k]? = some (κ.2.1 + k, xcell κ.2.1 κ.2.2.2 ex M k (shp.getD k (.inl 0))) := by
  unfold xws
  rw [List.getElem?_map, List.getElem?_range hk]
  rfl
theorem xsz {κ : xKK} {ex : Bool} {M : xM} {n : Nat} {H : Heap} (hP : va_P κ.2.2.1 vwCl (xws κ ex M n) H) (h0 : κ.2.1 ≤ H.size) : κ.2.1 + n ≤ H.size := by
  cases n with
  | zero => exact h0
  | succ k =>
    have := (hP k _ (xws_get (Nat.lt_succ_self k))).lt
    show κ.2.1 + k < H.size
    exact this
theorem xPc_fb (κ : xKK) (as : List Value) (M : xM) (n : Nat) (ex : Bool) : FrameBlind (xPc κ as M n ex) := fun a U g mk q => ⟨q.1, q.2.1, va_K.moved (u := U) (U := U.calling g mk a) (Vm.Alike.refl U.vm) q.2.2.1, q.2.2.2⟩
set_option maxRecDepth 20000 in
theorem mtab_lt {j : Nat} {my : xMI} (h : mtab[j]? = some my) : j < 900 := by
  have h1 := (List.getElem?_eq_some_iff.mp h).1
  have h2 : mtab.length ≤ 900 := by decide +kernel
  omega
section XCALL
variable {κ : xKK} {m : xMI} {r : xRm} {X X' : xX} {YS : xX → Prop}
set_option maxHeartbeats 1000000 in
/-- a call of a method of which we know what it does -/
theorem xG_call (n : Nat) {C : Prop} {j : Nat} {as : List Value} {my : xMI} {r' : xRm} {Post : Option Value → xM → Nat → Prop} (h : xca m X n = some (C, j, as, X')) (hc : C) (hm : mtab[j]? = some my) (hn : my.2.1.2.2.1 = n) (hni : ¬ my.1.2.1.name = "<init>") (hW : xckW my = true) (hE : xEv κ my r' as X.2.2.2.1 X.2.2.2.2.1 X.2.2.2.2.2.1 Post)
    (hr : r'.1 + 1 ≤ r.1 ∧ X.2.2.2.2.2.2.1 + r'.2.1 ≤ r.2.1 ∧ X.2.2.2.2.2.2.2 + r'.2.2 ≤ r.2.2) (hex : ∀ v M' n', Post v M' n' → X.2.2.2.2.2.1 = true → n' = X.2.2.2.2.1 + r'.2.1)
    (k : ∀ v M' n', Post v M' n' → xG κ m r (X'.1, X'.2.1, v.toList ++ X'.2.2.1, M', n', X.2.2.2.2.2.1, X.2.2.2.2.2.2.1 + r'.2.1, X.2.2.2.2.2.2.2 + r'.2.2) YS) : xG κ m r X YS := by
  intro p e R s me args below meth c Q hC hY
  have kk : ∀ v M' n', Post v M' n' → xA κ m r p e R s me args below meth c Q (X'.1, X'.2.1, v.toList ++ X'.2.2.1, M', n', X.2.2.2.2.2.1, X.2.2.2.2.2.2.1 + r'.2.1, X.2.2.2.2.2.2.2 + r'.2.2) := fun v M' n' hp => k v M' n' hp p e R s me args below meth c Q hC hY
  clear k hY
  obtain ⟨pc, L, st, M, nn, ex, k1, k2⟩ := X
  obtain ⟨w1, w2, w3, w4, w5, w6, w7, w8⟩ := xckW_d hW
  have hlt := mtab_lt hm
  unfold xca at h
  dsimp only at h hE hr hex kk
  split at h
  · rename_i ins nx a b c' v w hl
    have he := xat_ck hl hC.2.2.2.2.2.2.2.2.2.2.2.2.1
    obtain ⟨hx, hb, hml, hown, hts, hK, hfr, hlo, hce, hsl, hsz, hini, -, -⟩ := hC
    have hroom : (xrm r').frames + 1 ≤ R.frames ∧ 8 + (my.2.1.1 + 11) + (xrm r').locals ≤ R.locals := by
      constructor
      · show r'.1 + 1 + 1 ≤ R.frames
        omega
      · show 8 + (my.2.1.1 + 11) + 40 * (r'.1 + 1) ≤ R.locals
        omega
    -- what is behind the call
    have back : ∀ (nx : Nat) (st' : List Value) (_ : X' = (nx, L, st', M, nn, ex, k1, k2)) (_ : nx = pc + 3) (H : Heap) (locs : List Loc) (ls : Array Slot) (T : State) (g0 : List Value), T.heap = H → (ex = true → s.heap.size + k1 = κ.2.1 + nn) → va_S (fun q => κ.2.1 ≤ q) s.heap H locs → xLR κ.2.1 ls m.2.1.1 L →
        (∃ (v : Option Value) (st₀ t T' : State) (L9 : List Loc), st₀.heap = H ∧ Stand p κ.1 e R s me args below meth c T' (locs ++ L9) (k1 + r'.2.1) (k2 + r'.2.2) ∧ (∀ q ∈ L9, κ.2.1 ≤ q.base) ∧ T'.heap = t.heap ∧ T'.vm = t.vm ∧ xQc κ ex Post (as.map (xcv κ.2.1)).toArray st₀ (.returned v) t ∧
          Goes p e below T (F0 me pc ls g0) T' { (F0 me pc ls g0) with pc := (F0 me pc ls g0).pc + 3, stack := v.toList ++ st'.map (xcv κ.2.1) }) →
        ∃ t, Steps p.tables e below (T.setTop (F0 me pc ls g0)) t ∧ Q t := by
      intro nx st' hX' hnx H locs ls T g0 hT h3 h4 h5 hrun
      subst hX'
      subst hnx
      obtain ⟨v, st₀, t, T', L9, h0, Xs, hL9, e1, e2, ⟨⟨v0, M', n', hv, hp, hP'⟩, hz, hk⟩, st9⟩ := hrun
      cases hv
      rw [h0] at hz hk
      obtain ⟨t2, a1, b1⟩ := kk v0 M' n' hp T'.heap (locs ++ L9) ls (by rw [e1]; exact hP') (fun q => by have := h3 q; have := hex v0 M' n' hp q; show s.heap.size + (k1 + r'.2.1) = κ.2.1 + n'; omega)
        ⟨Nat.le_trans h4.1 (by rw [e1]; exact hz), fun q g1 g2 => by rw [e1, hk q (Nat.lt_of_lt_of_le g1 h4.1) g2]; exact h4.2.1 q g1 g2, fun q hq => by
          rcases List.mem_append.mp hq with g | g
          · exact h4.2.2 q g
          · exact hL9 q g⟩ h5 (by show k1 + r'.2.1 ≤ r.2.1; omega) (by show k2 + r'.2.2 ≤ r.2.2; omega) T' rfl Xs
      refine ⟨t2, st9 t2 ?_, b1⟩
      have hstk : (v0.map (xcv κ.2.1)).toList ++ st'.map (xcv κ.2.1) = (v0.toList ++ st').map (xcv κ.2.1) := by cases v0 <;> rfl
      rw [hstk]
      exact a1
    split at h
    · rename_i q
      obtain ⟨hd, hnx, ho⟩ := xck_d he rfl
      dsimp only [xil] at hd hnx
      split at h
      · rename_i as' o st' hpop
        cases hcat : Nat.ble (xcat st') 8 with
        | false => rw [hcat] at h; cases h
        | true =>
          rw [hcat] at h
          cases h
          obtain ⟨hs, hlo2⟩ := hc
          have ho : (Nat.blt 900 j || (match mtab[j]? with
            | some my => xw c' (.methodLink m.1.1 q my.1.2.1) && (match vwCl[b]? with
              | some (C, _, _) => decide (C = my.1.2.1.cls) && !my.2.1.2.2.2
              | none => false)
            | none => false)) = true := ho
          rw [hm] at ho
          have h9 : Nat.blt 900 j = false := by
            cases h9 : Nat.blt 900 j with
            | false => rfl
            | true => exact absurd (Nat.le_of_ble_eq_true h9) (by omega)
          rw [h9, Bool.false_or, Bool.and_eq_true] at ho
          obtain ⟨hlk, ho⟩ := ho
          have hlk := xw_in hlk
          cases hcl : vwCl[b]? with
          | none => rw [hcl] at ho; cases ho
          | some C3 =>
            obtain ⟨Cn, Tn, Nn⟩ := C3
            rw [hcl] at ho
            dsimp only at ho
            rw [Bool.and_eq_true] at ho
            have hCn := of_decide_eq_true ho.1
            have hst : my.2.1.2.2.2 = false := by
              have := ho.2
              cases hq : my.2.1.2.2.2 with
              | false => rfl
              | true => rw [hq] at this; cases this
            rw [hst] at w2 w3
            have hin : my.1.2.1.name = "<init>" ∨ Cond.selects my.1.2.1.cls my.1.2.1 my.1.2.1 ∈ GW := by
              rcases w3 with g | g
              · cases g
              · exact g
            have hsel2 : Cond.selects my.1.2.1.cls my.1.2.1 my.1.2.1 ∈ GW := hin.resolve_left hni
            have hinst : Cond.instanceMethod my.1.2.1 ∈ GW := by simpa using w2
            obtain ⟨p1, p2⟩ := xpop_ok _ _ _ _ _ hpop
            rw [List.reverse_nil, List.nil_append] at p1
            rw [List.length_nil, Nat.zero_add] at p2
            subst p1
            intro H locs ls h1 h3 h4 h5 h6 h7
            obtain ⟨lv, hlv, hlin⟩ := h5
            intro T hT X9
            have hbig : κ.2.1 ≤ H.size := Nat.le_trans hsz h4.1
            have hHs : ex = true → H.size = κ.2.1 + nn := fun q => by
              have a1 := X9.heapSize
              rw [hT] at a1
              have a2 := xsz h1 hbig
              have a3 := h3 q
              dsimp only at a1 a2 a3
              omega
            have hGw : GoodIn GW (wsV m.1.1 q my.1.2.1.cls my.1.2.1 (xwm my)) := by
              have hmem : ∀ w' ∈ wsV m.1.1 q my.1.2.1.cls my.1.2.1 (xwm my), w' ∈ GW := by
                intro w' hw'
                unfold wsV xwm at hw'
                simp only [List.cons_append, List.nil_append, List.mem_cons] at hw'
                rcases hw' with rfl | rfl | rfl | rfl | rfl | g
                · exact hlk
                · exact hinst
                · exact hsel2
                · exact w4
                · exact w1
                · exact g
              exact fun w' hw' => ⟨hmem w' hw', GW_good w' (hmem w' hw')⟩
            subst hCn
            have hcw : CallW R s args m.1.1 my.1.2.1.cls q my.1.2.1 my.1.2.2 my.2.1.1 my.2.1.2.1 (xwm my) (xrm r') r'.2.1 r'.2.2 my.2.1.2.2.1 := cwV my.2.1.2.2.1 hts hGw rfl rfl rfl ⟨rfl, w6.1, w6.2.1, w6.2.2⟩ hroom
            have hpv : PreV s H my.1.2.1.cls (κ.2.1 + o) (xPc κ (.ref o :: as') M nn ex) (as'.map (xcv κ.2.1)) := ⟨xPc_fb _ _ _ _ _, va_recv hK h1 hcl (xws_at hlo2 hs), fun U hU hWm => ⟨rfl, by rw [hU]; exact h1, va_K.moved hWm.alike hK, by rw [hU]; exact hbig, fun q => by rw [hU]; exact hHs q⟩⟩
            have hr2 := va_runV (e := e) (below := below) (meth := meth) (locs := locs) (cells := k1) (slots := k2) (H := H) (g := F0 me pc ls ((as'.reverse ++ .ref o :: st').map (xcv κ.2.1))) (rest := st'.map (xcv κ.2.1)) ⟨hx, hb, hml, hown, hts⟩ hE hcw hpv rfl (by rw [List.length_map, p2, hn]) hlv.1 (by rw [List.map_append, List.map_reverse]; rfl) (lv_room (by rw [xcat_eq]; exact Nat.le_of_ble_eq_true hcat)) hd ⟨by omega, by omega⟩
            exact back nx st' rfl hnx H locs ls T _ hT h3 h4 ⟨lv, hlv, hlin⟩ (hr2 T hT X9)
      · cases h
    · rename_i q
      obtain ⟨hd, hnx, ho⟩ := xck_d he rfl
      dsimp only [xil] at hd hnx
      split at h
      · rename_i as' st' hpop
        cases hcat : (Nat.ble (xcat st') 8 && Nat.blt a 900) with
        | false => rw [hcat] at h; cases h
        | true =>
          rw [hcat] at h
          cases h
          rw [Bool.and_eq_true] at hcat
          have ne : ∀ k : Nat, 900 ≤ k → Nat.beq j k = false := fun k hk => beq_ne (by omega)
          have ho : (bif Nat.beq j 999 then _ else bif Nat.beq j 991 then _ else bif Nat.beq j 992 then _ else bif Nat.beq j 993 then _ else bif Nat.beq j 994 then _ else bif Nat.beq j 995 then _ else bif Nat.beq j 996 then _ else (Nat.blt 900 j || (match mtab[j]? with
            | some my => xw c' (.methodLink m.1.1 q my.1.2.1) && my.2.1.2.2.2
            | none => false))) = true := ho
          rw [ne 999 (by decide), ne 991 (by decide), ne 992 (by decide), ne 993 (by decide), ne 994 (by decide), ne 995 (by decide), ne 996 (by decide), hm] at ho
          dsimp only [cond_false] at ho
          have h9 : Nat.blt 900 j = false := by
            cases h9 : Nat.blt 900 j with
            | false => rfl
            | true => exact absurd (Nat.le_of_ble_eq_true h9) (by omega)
          rw [h9, Bool.false_or, Bool.and_eq_true] at ho
          obtain ⟨hlk, hst⟩ := ho
          have hlk := xw_in hlk
          rw [hst] at w2
          have hstat : Cond.static my.1.2.1 ∈ GW := by simpa using w2
          obtain ⟨p1, p2⟩ := xpop_ok _ _ _ _ _ hpop
          rw [List.reverse_nil, List.nil_append] at p1
          rw [List.length_nil, Nat.zero_add] at p2
          subst p1
          intro H locs ls h1 h3 h4 h5 h6 h7
          obtain ⟨lv, hlv, hlin⟩ := h5
          intro T hT X9
          have hbig : κ.2.1 ≤ H.size := Nat.le_trans hsz h4.1
          have hHs : ex = true → H.size = κ.2.1 + nn := fun q => by
            have a1 := X9.heapSize
            rw [hT] at a1
            have a2 := xsz h1 hbig
            have a3 := h3 q
            dsimp only at a1 a2 a3
            omega
          have hGw : GoodIn GW (va_wsS m.1.1 q my.1.2.1 (xwm my)) := by
            have hmem : ∀ w' ∈ va_wsS m.1.1 q my.1.2.1 (xwm my), w' ∈ GW := by
              intro w' hw'
              unfold va_wsS xwm at hw'
              simp only [List.cons_append, List.nil_append, List.mem_cons] at hw'
              rcases hw' with rfl | rfl | rfl | rfl | g
              · exact hlk
              · exact hstat
              · exact w4
              · exact w1
              · exact g
            exact fun w' hw' => ⟨hmem w' hw', GW_good w' (hmem w' hw')⟩
          have hcw := va_cwS (R := R) (maxL := my.2.1.1) (mc := r'.2.1) (ms := r'.2.2) (rm := xrm r') my.2.1.2.2.1 hts hGw rfl rfl rfl ⟨w6.1, w6.2.1, w6.2.2⟩ hroom
          have hpv : PreS s H (xPc κ as M nn ex) (as.map (xcv κ.2.1)) := ⟨xPc_fb _ _ _ _ _, fun U hU hWm => ⟨rfl, by rw [hU]; exact h1, va_K.moved hWm.alike hK, by rw [hU]; exact hbig, fun q => by rw [hU]; exact hHs q⟩⟩
          have hr2 := va_runS (e := e) (below := below) (meth := meth) (locs := locs) (cells := k1) (slots := k2) (H := H) (g := F0 me pc ls ((as.reverse ++ st').map (xcv κ.2.1))) (rest := st'.map (xcv κ.2.1)) ⟨hx, hb, hml, hown, hts⟩ hE hcw hpv rfl (by rw [List.length_map, p2, hn]) hlv.1 (by rw [List.map_append, List.map_reverse]) (lv_room (by rw [xcat_eq]; exact Nat.le_of_ble_eq_true hcat.1)) hd ⟨by omega, by omega⟩
          exact back nx st' rfl hnx H locs ls T _ hT h3 h4 ⟨lv, hlv, hlin⟩ (hr2 T hT X9)
      · cases h
    · cases h
  · cases h
end XCALL
