theorem xout_f (c : ClassId) (N h0 : Nat) : ∀ i, ∃ sl, Jvm.Free.Multi.outerC c N h0 i = { cls := c, slots := sl, vm := .none }
  | 0 => ⟨_, rfl⟩
  | i + 1 => by
    obtain ⟨sl, h⟩ := xout_f c N h0 i
    exact ⟨_, by show (Jvm.Free.Multi.outerC c N h0 i).setSlot _ _ = _; rw [h]; rfl⟩
theorem xout_c (cA : ClassId) (N h0 : Nat) : Jvm.Free.Multi.outerC cA N h0 N = arrV cA N (fun j => .ref (h0 + 1 + j)) := by
  obtain ⟨o1, o2, o3⟩ := Jvm.Free.Multi.outerC_facts cA N h0 N
  have os := fun (j : Nat) (hj : j < N) => Jvm.Free.Multi.outerC_slot cA N h0 N j hj
  have hsl : (Jvm.Free.Multi.outerC cA N h0 N).slots = (arrV cA N (fun j => .ref (h0 + 1 + j))).slots := by
    apply Array.ext_getElem?
    intro j
    by_cases hj : j < N
    · rw [os j hj, if_pos hj]
      simp [arrV, hj]
    · rw [Array.getElem?_eq_none (by rw [o3]; omega), Array.getElem?_eq_none (by rw [arrV_size]; omega)]
  obtain ⟨sl, h⟩ := xout_f cA N h0 N
  rw [h] at hsl ⊢
  dsimp only at hsl
  rw [hsl]
  rfl
/-! ===== the machine, where more is known of the state at which it starts ===== -/
def xGh (κ : xKK) (Z : State → Prop) (m : xMI) (r : xRm) (X : xX) (YS : xX → Prop) : Prop :=
  ∀ (p : Program) (e : Env) (R : Room) (s : State) (me : MethodId) (args : Array Value) (below : List Frame) (meth : Method) (c : Code) (Q : State → Prop), xC κ m r p e R s me args below meth c → Z s → (∀ Y, YS Y → xA κ m r p e R s me args below meth c Q Y) → xA κ m r p e R s me args below meth c Q X
section XGH
variable {κ : xKK} {Z : State → Prop} {m : xMI} {r : xRm} {X X' : xX} {YS Y1 : xX → Prop}
theorem xGh_done (h : YS X) : xGh κ Z m r X YS := fun _ _ _ _ _ _ _ _ _ _ _ _ hY => hY X h
theorem xGh_trans (h : xGh κ Z m r X Y1) (k : ∀ Y, Y1 Y → xGh κ Z m r Y YS) : xGh κ Z m r X YS :=
  fun p e R s me args below meth c Q hC hZ hY => h p e R s me args below meth c Q hC hZ (fun Y h1 => k Y h1 p e R s me args below meth c Q hC hZ hY)
theorem xGh_g (h : xG κ m r X Y1) (k : ∀ Y, Y1 Y → xGh κ Z m r Y YS) : xGh κ Z m r X YS :=
  fun p e R s me args below meth c Q hC hZ hY => h p e R s me args below meth c Q hC (fun Y h1 => k Y h1 p e R s me args below meth c Q hC hZ hY)
theorem xGh_l (h : xG κ m r X (fun Y => Y = X')) (k : xGh κ Z m r X' YS) : xGh κ Z m r X YS := xGh_g h (fun Y e => by rw [e]; exact k)
theorem xGh_run (n : Nat) {C : Prop} (h : xrun m n True X = some (C, X')) (hc : C) (k : xGh κ Z m r X' YS) : xGh κ Z m r X YS := xGh_l (xG_run n h hc (xG_done rfl)) k
theorem xGh_brT {cd : Prop} {Xt Xf : xX} (h : xbr m X = some (cd, Xt, Xf)) (hc : cd) (ht : xGh κ Z m r Xt YS) : xGh κ Z m r X YS := xGh_l (xG_brT h hc (xG_done rfl)) ht
theorem xGh_brF {cd : Prop} {Xt Xf : xX} (h : xbr m X = some (cd, Xt, Xf)) (hc : ¬ cd) (ht : xGh κ Z m r Xf YS) : xGh κ Z m r X YS := xGh_l (xG_brF h hc (xG_done rfl)) ht
theorem xGh_br {cd : Prop} {Xt Xf : xX} (h : xbr m X = some (cd, Xt, Xf)) (ht : cd → xGh κ Z m r Xt YS) (hf : ¬ cd → xGh κ Z m r Xf YS) : xGh κ Z m r X YS :=
  xGh_g (Y1 := fun Y => (cd ∧ Y = Xt) ∨ (¬ cd ∧ Y = Xf)) (xG_br h (fun q => xG_done (Or.inl ⟨q, rfl⟩)) (fun q => xG_done (Or.inr ⟨q, rfl⟩))) (fun Y e => by
    rcases e with ⟨q, e⟩ | ⟨q, e⟩
    · rw [e]; exact ht q
    · rw [e]; exact hf q)
end XGH
/-- constructors that are called by nest mates -/
def nestW : List (String × Nat × MethodName) := [("MastWind$Mast", 34, yX3_init), ("MastWind$Mast", 35, yX5_init), ("MastWind", 21, yX7_init), ("MastWind", 28, yX2_init), ("MastWind", 50, yX0_init), ("MastWind", 57, yX10_init), ("MastWind", 64, yX6_init), ("MastWind", 71, yX4_init), ("MastWind", 78, yX9_init), ("MastWind", 83, yX8_init), ("MastWind$Shelf", 17, yX3_init)]
/-- what the tables say of the classes of arrays of objects and of arrays, and of the nest mates -/
def xAO (s : State) : Prop := va_AO "MastWind$Piece" s ∧ va_AO "MastWind$Rope" s ∧ va_AO "MastWind$Shelf" s ∧ (Cond.arrayOver (.array .int)).before #[] s = true ∧ ∀ w ∈ nestW, va_Nw (.methodLinkNest w.1 w.2.1 w.2.2 "MastWind") s
theorem xAO_vm {u U : State} (h : u.vm = U.vm) (q : xAO u) : xAO U := by
  have h2 : u.vm.Alike U.vm := by rw [h]; exact Vm.Alike.refl _
  exact ⟨q.1.moved h2, q.2.1.moved h2, q.2.2.1.moved h2, arrayOver_alikeB h2 q.2.2.2.1, fun w hw => va_Nw.same rfl h (q.2.2.2.2 w hw)⟩
theorem xAO_warm {u U : State} (h : u.WarmedH U.vm) (q : xAO u) : xAO U := ⟨q.1.moved h.alike, q.2.1.moved h.alike, q.2.2.1.moved h.alike, arrayOver_alikeB h.alike q.2.2.2.1, fun w hw => va_Nw.warmM h (q.2.2.2.2 w hw)⟩
/-- a contract of what is called where xAO holds -/
def xEz (κ : xKK) (m : xMI) (r : xRm) (as : List Value) (M : xM) (n : Nat) (Post : Option Value → xM → Nat → Prop) : Prop :=
  Met κ.1 m.1.2.1 (xwm m) (xrm r) (fun v U => xPc κ as M n true v U ∧ xAO U) (xQc κ true Post) r.2.1 r.2.2 (fun q => κ.2.1 ≤ q)
theorem xEz_of {κ : xKK} {m : xMI} {r : xRm} {as : List Value} {M : xM} {n : Nat} {L : xLc} {Post : Option Value → xM → Nat → Prop} (hI : xckI m = true) (hLl : xckL m = true) (hW : xckW m = true) (hwid : Nat.ble (xwid as) m.2.1.1 = true) (hL : xfill m.2.1.1 (xent as) = L)
    (h : xGh κ xAO m r (0, L, [], M, n, true, 0, 0) (xRet m true Post)) : xEz κ m r as M n Post := by
  subst hL
  obtain ⟨w1, w2, w3, w4, w5, w6, w7, w8⟩ := xckW_d hW
  refine Met.ofW (cc := m.1.2.2) (maxL := m.2.1.1) (ret := m.2.1.2.1) w8 rfl ?_
  intro p e s me args below meth c s₁ B hml hv
  obtain ⟨⟨rfl, hP, hK, hsz, hexa⟩, hAO⟩ := hv
  have hts := atoms_spec (ws := xwm m) B.pre
  have hown : s.vm.findClass m.1.2.1.cls = some me.cls := findClass_of_methodNamed B.named
  have hin : meth.name = m.1.2.1.name := (name_of_methodNamed B.named B.method).1
  have hlocks := B.notSynchronized
  have hret := B.returns
  rw [lg_entry_eq]
  have hlv := lv_entry (as.map (xcv κ.2.1)) (n := m.2.1.1) (by rw [xwid_sl]; exact Nat.le_of_ble_eq_true hwid)
  have hC : xC κ m r p e (xrm r) s me (as.map (xcv κ.2.1)).toArray below meth c := ⟨B.exec, B.bytes, hml, by rw [w5]; exact hown, fun w hw => hts w (List.mem_cons_of_mem _ hw), hK, Nat.le_refl _, Nat.le_refl _, Nat.le_refl _, Nat.le_refl _, hsz, fun q => hin.trans q, hI, hLl⟩
  refine h p e (xrm r) s me _ below meth c _ hC hAO ?_ s.heap [] _ hP (fun q => by rw [hexa q]; rfl) va_S.rf ⟨_, hlv, fun i v q => ?_⟩ (Nat.zero_le _) (Nat.zero_le _)
  · intro Y hY
    obtain ⟨e0, hl, hex, hY⟩ := hY
    obtain ⟨pc, L, st, M', z⟩ := Y
    obtain ⟨zn, zex, zk1, zk2⟩ := z
    dsimp only at hex
    subst hex
    obtain ⟨ins, nx, ⟨a, b, c'⟩, v0, w0⟩ := e0
    have he := xat_ck hl hI
    have fin : ∀ (H : Heap) (locs : List Loc) (v : Option Value), va_P κ.2.2.1 vwCl (xws κ true M' zn) H → va_S (fun q => κ.2.1 ≤ q) s.heap H locs → Post v M' zn → ∀ t : State, t.heap = H → s.WarmedH t.vm → xQc κ true Post (as.map (xcv κ.2.1)).toArray s (.returned (v.map (xcv κ.2.1))) t := fun H locs v g1 g4 hp t ht _ => ⟨⟨v, M', zn, rfl, hp, by rw [ht]; exact g1⟩, g4.F ht⟩
    rcases hY with ⟨hi, v, t, hst, hr, hn, hp⟩ | ⟨hi, v, hst, hr, hp⟩ | ⟨hi, q, t, hst, hr, hn, hp⟩ | ⟨hi, hst, hr, hp⟩
    · dsimp only at hi hst
      subst hi hst
      obtain ⟨hd, -, -⟩ := xck_d he rfl
      exact fun H locs ls g1 g3 g4 g5 g6 g7 => W.widen g6 g7 (W.zret B.exec B.bytes (hret.trans hr) hn (fin H locs _ g1 g4 hp) (fun q hq => g4.2.2 q hq) hd)
    · dsimp only at hi hst
      subst hi hst
      obtain ⟨hd, -, -⟩ := xck_d he rfl
      exact fun H locs ls g1 g3 g4 g5 g6 g7 => W.widen g6 g7 (W.lret B.exec B.bytes (hret.trans hr) (fin H locs _ g1 g4 hp) (fun q hq => g4.2.2 q hq) hd)
    · dsimp only at hi hst
      subst hi hst
      obtain ⟨hd, -, -⟩ := xck_d he rfl
      exact fun H locs ls g1 g3 g4 g5 g6 g7 => W.widen g6 g7 (W.aret B.exec B.bytes (hret.trans hr) (xrT_or hn) (xrf_or _ _) (fin H locs _ g1 g4 hp) (fun q hq => g4.2.2 q hq) hd)
    · dsimp only at hi hst
      subst hi hst
      obtain ⟨hd, -, -⟩ := xck_d he rfl
      exact fun H locs ls g1 g3 g4 g5 g6 g7 => W.widen g6 g7 (W.vret B.exec B.bytes (hret.trans hr) (fin H locs _ g1 g4 hp) (fun q hq => g4.2.2 q hq) hd)
  · have := xent_get κ.2.1 as 0 i v (xfill_get _ _ _ _ q)
    rwa [Nat.zero_add] at this
section XMAKE2
variable {κ : xKK} {Z : State → Prop} {m : xMI} {r : xRm} {YS : xX → Prop} {pc nx n k1 k2 : Nat} {L : xLc} {st : List Value} {M : xM} {e1 : (Nat × Nat × Nat) × Int32 × Int64}
set_option maxHeartbeats 1000000 in
/-- anewarray -/
theorem xGh_aa {idx kd len : Nat} {C : String} {x : Int32} (hl : xat m pc = some (.anewarray idx, nx, e1)) (hs : shp[n]? = some (.inr (kd, len))) (hkd : (kd = 3 ∧ C = "MastWind$Piece") ∨ (kd = 4 ∧ C = "MastWind$Rope") ∨ (kd = 5 ∧ C = "MastWind$Shelf")) (hlk : Cond.classLink m.1.1 idx C ∈ GW) (hov : ∀ s, Z s → va_AO C s) (hx0 : ¬ x < 0) (hxl : x.toNatClampNeg = len) (hlen : len ≤ 60000) (hk1 : k1 + 1 ≤ r.2.1) (hk2 : k2 + len ≤ r.2.2)
    (k : xGh κ Z m r (nx, L, .ref n :: st, zN M n, n + 1, true, k1 + 1, k2 + len) YS) : xGh κ Z m r (pc, L, .int x :: st, M, n, true, k1, k2) YS := by
  intro p e R s me args below meth c Q hC hZ hY
  have kk := k p e R s me args below meth c Q hC hZ hY
  have he := xat_ck hl hC.2.2.2.2.2.2.2.2.2.2.2.2.1
  obtain ⟨v1, ⟨v2, v3⟩⟩ := e1
  obtain ⟨u1, u2, u3⟩ := v1
  obtain ⟨hd, hnx, -⟩ := xck_d he rfl
  dsimp only [xil] at hd hnx
  obtain ⟨hx, hb, hml, hown, hts, hK, hfr, hlo, hce, hsl, hsz, -, -, -⟩ := hC
  intro H locs ls h1 h3 h4 h5 h6 h7 T hT X9
  dsimp only at h1 h3 h6 h7
  have hHs := xHs hT X9 h1 (Nat.le_trans hsz h4.1) (h3 rfl)
  subst hnx
  subst hxl
  have hk3 : 3 ≤ kd := by omega
  suffices key : W p κ.1 e R s me args below meth c H locs k1 k2 Q (F0 me pc ls ((Value.int x :: st).map (xcv κ.2.1))) from key T hT X9
  refine W.anew (g := F0 me pc ls ((Value.int x :: st).map (xcv κ.2.1))) hx hb hown (hts _ hlk) (hov s hZ).use rfl hd rfl hx0 (by omega) (Nat.le_trans hk1 hce) (Nat.le_trans hk2 hsl) fun cA kA comp f1 f2 f3 f4 => ?_
  have hA : cA = κ.2.2.2 kd := by
    rcases hkd with ⟨rfl, rfl⟩ | ⟨rfl, rfl⟩ | ⟨rfl, rfl⟩
    · obtain ⟨_, _, -, -, -, q⟩ := (hK.2 3 _ rfl).2
      exact Option.some.inj (f1.symm.trans q)
    · obtain ⟨_, _, -, -, -, q⟩ := (hK.2 4 _ rfl).2
      exact Option.some.inj (f1.symm.trans q)
    · obtain ⟨_, _, -, -, -, q⟩ := (hK.2 5 _ rfl).2
      exact Option.some.inj (f1.symm.trans q)
  generalize hH1 : H.push ({ cls := cA, slots := Array.replicate x.toNatClampNeg .null, vm := .none } : Cell) = H1
  have z1 : H1.size = H.size + 1 := by rw [← hH1, Array.size_push]
  have e1 : H1[H.size]? = some (arrV cA x.toNatClampNeg (fun _ => .null)) := by rw [← hH1, Array.getElem?_push_size, ← arrV_new]
  have o1 : ∀ q : Nat, q < H.size → H1[q]? = H[q]? := fun q hq => by rw [← hH1, Array.getElem?_push, if_neg (Nat.ne_of_lt hq)]
  rw [hHs] at e1
  show W p κ.1 e R s me args below meth c H1 locs (k1 + 1) (k2 + x.toNatClampNeg) Q (F0 me (pc + 3) ls (.ref H.size :: st.map (xcv κ.2.1)))
  rw [hHs]
  refine kk H1 locs ls (xgrow (n := n) (n' := n + 1) (M' := zN M n) h1 zN_same o1 (fun a ha1 ha2 => ?_)) (fun _ => by have := h3 rfl; show s.heap.size + (k1 + 1) = κ.2.1 + (n + 1); omega) ⟨Nat.le_trans h4.1 (by omega), fun y g1 g2 => (o1 y (by have := h4.1; omega)).trans (h4.2.1 y g1 g2), h4.2.2⟩ h5 hk1 hk2
  have ha : a = n := by omega
  subst ha
  rw [shp_D hs]
  show H1[κ.2.1 + a]? = some (vp_cell (κ.2.2.2 kd) (x.toNatClampNeg, xav κ.2.1 true (zN M a) a kd))
  rw [xav_q hk3, ← hA]
  have hnull : (fun j => va_rf (xqs κ.2.1 true (zN M a) a j)) = fun _ => Value.null := funext fun j => by
    show va_rf ((gP (zN M a) a j).map _) = _
    rw [gPzN, if_pos rfl]; rfl
  rw [hnull]
  exact e1
set_option maxHeartbeats 1000000 in
/-- a constructor without arguments -/
theorem xGh_init {idx o : Nat} {my : xMI} {r' : xRm} {Post : Option Value → xM → Nat → Prop} (hl : xat m pc = some (.invokespecial idx, nx, e1)) (hni : my.1.2.1.name = "<init>") (hret : my.2.1.2.1 = none) (hna : my.2.1.2.2.1 = 0) (hst : my.2.1.2.2.2 = false) (hW : xckW my = true) (hlk : Cond.methodLink m.1.1 idx my.1.2.1 ∈ GW) (hcat : Nat.ble (xcat st) 8 = true) (hE : xEz κ my r' [.ref o] M n Post) (hov : ∀ s, Z s → xAO s)
    (hr : r'.1 + 1 ≤ r.1 ∧ k1 + r'.2.1 ≤ r.2.1 ∧ k2 + r'.2.2 ≤ r.2.2) (hex : ∀ v M' n', Post v M' n' → n' = n + r'.2.1)
    (k : ∀ v M' n', Post v M' n' → xGh κ Z m r (nx, L, v.toList ++ st, M', n', true, k1 + r'.2.1, k2 + r'.2.2) YS) : xGh κ Z m r (pc, L, .ref o :: st, M, n, true, k1, k2) YS := by
  intro p e R s me args below meth c Q hC hZ hY
  have kk : ∀ v M' n', Post v M' n' → xA κ m r p e R s me args below meth c Q (nx, L, v.toList ++ st, M', n', true, k1 + r'.2.1, k2 + r'.2.2) := fun v M' n' hp => k v M' n' hp p e R s me args below meth c Q hC hZ hY
  have hAO := hov s hZ
  clear k hY
  have he := xat_ck hl hC.2.2.2.2.2.2.2.2.2.2.2.2.1
  obtain ⟨v1, ⟨v2, v3⟩⟩ := e1
  obtain ⟨u1, u2, u3⟩ := v1
  obtain ⟨hd, hnx, -⟩ := xck_d he rfl
  dsimp only [xil] at hd hnx
  obtain ⟨w1, w2, w3, w4, w5, w6, w7, w8⟩ := xckW_d hW
  obtain ⟨hx, hb, hml, hown, hts, hK, hfr, hlo, hce, hsl, hsz, -, -, -⟩ := hC
  rw [hst] at w2
  have hinst : Cond.instanceMethod my.1.2.1 ∈ GW := by simpa using w2
  have hroom : (xrm r').frames + 1 ≤ R.frames ∧ 8 + (my.2.1.1 + 11) + (xrm r').locals ≤ R.locals := by
    constructor
    · show r'.1 + 1 + 1 ≤ R.frames
      omega
    · show 8 + (my.2.1.1 + 11) + 40 * (r'.1 + 1) ≤ R.locals
      omega
  intro H locs ls h1 h3 h4 h5 h6 h7 T hT X9
  dsimp only at h1 h3 h6 h7
  subst hnx
  obtain ⟨lv, hlv, hlin⟩ := h5
  have hbig : κ.2.1 ≤ H.size := Nat.le_trans hsz h4.1
  have hHs := xHs hT X9 h1 hbig (h3 rfl)
  have hGw : GoodIn GW (xwm my) := by
    have hmem : ∀ w' ∈ xwm my, w' ∈ GW := by
      intro w' hw'
      unfold xwm at hw'
      rcases List.mem_cons.mp hw' with rfl | g
      · exact w1
      · exact g
    exact fun w' hw' => ⟨hmem w' hw', GW_good w' (hmem w' hw')⟩
  have hcd : xwm my = Cond.code my.1.2.1 my.1.2.2 my.2.1.1 none :: GW := by unfold xwm; rw [hret]
  have hcw := cwI (R := R) (s := s) (args := args) (maxL := my.2.1.1) (mc := r'.2.1) (ms := r'.2.2) (rm := xrm r') (own := m.1.1) (index := idx) my.2.1.2.2.1 hts hGw hcd rfl rfl (hts _ w4) (hts _ hlk) (hts _ hinst) hni ⟨w6.1, w6.2.1, w6.2.2⟩ hroom
  have hpv : PreS s H (fun v U => xPc κ [.ref o] M n true v U ∧ xAO U) [.ref (κ.2.1 + o)] := ⟨fun a U g mk q => ⟨xPc_fb _ _ _ _ _ a U g mk q.1, xAO_vm (u := U) (U := U.calling g mk a) rfl q.2⟩, fun U hU hWm => ⟨⟨rfl, by rw [hU]; exact h1, va_K.moved hWm.alike hK, by rw [hU]; exact hbig, fun _ => by rw [hU]; exact hHs⟩, xAO_warm hWm hAO⟩⟩
  have hr2 := va_runI (e := e) (below := below) (meth := meth) (locs := locs) (cells := k1) (slots := k2) (H := H) (g := F0 me pc ls ((Value.ref o :: st).map (xcv κ.2.1))) (As := []) (rest := st.map (xcv κ.2.1)) ⟨hx, hb, hml, hown, hts⟩ hE hcw hpv rfl hna.symm hlv.1 rfl (lv_room (by rw [xcat_eq]; exact Nat.le_of_ble_eq_true hcat)) hd ⟨by omega, by omega⟩
  obtain ⟨v, st₀, t, T', L9, h0, Xs, hL9, e1, e2, ⟨⟨v0, M', n', hv, hp, hP'⟩, hz, hk⟩, st9⟩ := hr2 T hT X9
  cases hv
  rw [h0] at hz hk
  have hn' := hex v0 M' n' hp
  obtain ⟨t2, a1, b1⟩ := kk v0 M' n' hp T'.heap (locs ++ L9) ls (by rw [e1]; exact hP') (fun q => by have := h3 rfl; show s.heap.size + (k1 + r'.2.1) = κ.2.1 + n'; omega)
    ⟨Nat.le_trans h4.1 (by rw [e1]; exact hz), fun q g1 g2 => by rw [e1, hk q (Nat.lt_of_lt_of_le g1 h4.1) g2]; exact h4.2.1 q g1 g2, fun q hq => by
      rcases List.mem_append.mp hq with g | g
      · exact h4.2.2 q g
      · exact hL9 q g⟩ ⟨lv, hlv, hlin⟩ hr.2.1 hr.2.2 T' rfl Xs
  refine ⟨t2, st9 t2 ?_, b1⟩
  have hstk : (v0.map (xcv κ.2.1)).toList ++ st.map (xcv κ.2.1) = (v0.toList ++ st).map (xcv κ.2.1) := by cases v0 <;> rfl
  rw [hstk]
  exact a1
set_option maxHeartbeats 1000000 in
/-- a constructor without arguments -/
theorem xGh_initN {idx o : Nat} {my : xMI} {r' : xRm} {Post : Option Value → xM → Nat → Prop} (hl : xat m pc = some (.invokespecial idx, nx, e1)) (hni : my.1.2.1.name = "<init>") (hret : my.2.1.2.1 = none) (hna : my.2.1.2.2.1 = 0) (hst : my.2.1.2.2.2 = false) (hW : xckW my = true) (hlk : (m.1.1, idx, my.1.2.1) ∈ nestW) (hcat : Nat.ble (xcat st) 8 = true) (hE : xEz κ my r' [.ref o] M n Post) (hov : ∀ s, Z s → xAO s)
    (hr : r'.1 + 1 ≤ r.1 ∧ k1 + r'.2.1 ≤ r.2.1 ∧ k2 + r'.2.2 ≤ r.2.2) (hex : ∀ v M' n', Post v M' n' → n' = n + r'.2.1)
    (k : ∀ v M' n', Post v M' n' → xGh κ Z m r (nx, L, v.toList ++ st, M', n', true, k1 + r'.2.1, k2 + r'.2.2) YS) : xGh κ Z m r (pc, L, .ref o :: st, M, n, true, k1, k2) YS := by
  intro p e R s me args below meth c Q hC hZ hY
  have kk : ∀ v M' n', Post v M' n' → xA κ m r p e R s me args below meth c Q (nx, L, v.toList ++ st, M', n', true, k1 + r'.2.1, k2 + r'.2.2) := fun v M' n' hp => k v M' n' hp p e R s me args below meth c Q hC hZ hY
  have hAO := hov s hZ
  clear k hY
  have he := xat_ck hl hC.2.2.2.2.2.2.2.2.2.2.2.2.1
  obtain ⟨v1, ⟨v2, v3⟩⟩ := e1
  obtain ⟨u1, u2, u3⟩ := v1
  obtain ⟨hd, hnx, -⟩ := xck_d he rfl
  dsimp only [xil] at hd hnx
  obtain ⟨w1, w2, w3, w4, w5, w6, w7, w8⟩ := xckW_d hW
  obtain ⟨hx, hb, hml, hown, hts, hK, hfr, hlo, hce, hsl, hsz, -, -, -⟩ := hC
  rw [hst] at w2
  have hinst : Cond.instanceMethod my.1.2.1 ∈ GW := by simpa using w2
  have hroom : (xrm r').frames + 1 ≤ R.frames ∧ 8 + (my.2.1.1 + 11) + (xrm r').locals ≤ R.locals := by
    constructor
    · show r'.1 + 1 + 1 ≤ R.frames
      omega
    · show 8 + (my.2.1.1 + 11) + 40 * (r'.1 + 1) ≤ R.locals
      omega
  intro H locs ls h1 h3 h4 h5 h6 h7 T hT X9
  dsimp only at h1 h3 h6 h7
  subst hnx
  obtain ⟨lv, hlv, hlin⟩ := h5
  have hbig : κ.2.1 ≤ H.size := Nat.le_trans hsz h4.1
  have hHs := xHs hT X9 h1 hbig (h3 rfl)
  have hGw : GoodIn GW (xwm my) := by
    have hmem : ∀ w' ∈ xwm my, w' ∈ GW := by
      intro w' hw'
      unfold xwm at hw'
      rcases List.mem_cons.mp hw' with rfl | g
      · exact w1
      · exact g
    exact fun w' hw' => ⟨hmem w' hw', GW_good w' (hmem w' hw')⟩
  have hcd : xwm my = Cond.code my.1.2.1 my.1.2.2 my.2.1.1 none :: GW := by unfold xwm; rw [hret]
  have hnw : va_Nw (.methodLinkNest m.1.1 idx my.1.2.1 "MastWind") s := hAO.2.2.2.2 _ hlk
  have hcw := va_cnB (R := R) (s := s) (args := args) (maxL := my.2.1.1) (mc := r'.2.1) (ms := r'.2.2) (rm := xrm r') (own := m.1.1) (index := idx) my.2.1.2.2.1 hts hGw hcd rfl rfl hnw (hts _ w4) ⟨w6.1, w6.2.1, w6.2.2⟩ hroom
  have hpv : PreS s H (fun v U => xPc κ [.ref o] M n true v U ∧ xAO U) [.ref (κ.2.1 + o)] := ⟨fun a U g mk q => ⟨xPc_fb _ _ _ _ _ a U g mk q.1, xAO_vm (u := U) (U := U.calling g mk a) rfl q.2⟩, fun U hU hWm => ⟨⟨rfl, by rw [hU]; exact h1, va_K.moved hWm.alike hK, by rw [hU]; exact hbig, fun _ => by rw [hU]; exact hHs⟩, xAO_warm hWm hAO⟩⟩
  have hr2 := va_runIN (e := e) (below := below) (meth := meth) (locs := locs) (cells := k1) (slots := k2) (H := H) (g := F0 me pc ls ((Value.ref o :: st).map (xcv κ.2.1))) (As := []) (rest := st.map (xcv κ.2.1)) ⟨hx, hb, hml, hown, hts⟩ hE ⟨hcw, hni, hts _ hinst⟩ hpv rfl hna.symm hlv.1 rfl (lv_room (by rw [xcat_eq]; exact Nat.le_of_ble_eq_true hcat)) hd ⟨by omega, by omega⟩
  obtain ⟨v, st₀, t, T', L9, h0, Xs, hL9, e1, e2, ⟨⟨v0, M', n', hv, hp, hP'⟩, hz, hk⟩, st9⟩ := hr2 T hT X9
  cases hv
  rw [h0] at hz hk
  have hn' := hex v0 M' n' hp
  obtain ⟨t2, a1, b1⟩ := kk v0 M' n' hp T'.heap (locs ++ L9) ls (by rw [e1]; exact hP') (fun q => by have := h3 rfl; show s.heap.size + (k1 + r'.2.1) = κ.2.1 + n'; omega)
    ⟨Nat.le_trans h4.1 (by rw [e1]; exact hz), fun q g1 g2 => by rw [e1, hk q (Nat.lt_of_lt_of_le g1 h4.1) g2]; exact h4.2.1 q g1 g2, fun q hq => by
      rcases List.mem_append.mp hq with g | g
      · exact h4.2.2 q g
      · exact hL9 q g⟩ ⟨lv, hlv, hlin⟩ hr.2.1 hr.2.2 T' rfl Xs
  refine ⟨t2, st9 t2 ?_, b1⟩
  have hstk : (v0.map (xcv κ.2.1)).toList ++ st.map (xcv κ.2.1) = (v0.toList ++ st).map (xcv κ.2.1) := by cases v0 <;> rfl
  rw [hstk]
  exact a1
set_option maxHeartbeats 1000000 in
/-- multianewarray: N arrays of K ints -/
theorem xGh_ma {idx N K : Nat} {x y : Int32} (hl : xat m pc = some (.multianewarray idx 2, nx, e1)) (hs : shp[n]? = some (.inr (6, N))) (hsj : ∀ j, j < N → shp[n + 1 + j]? = some (.inr (0, K))) (hlk : Cond.classLink m.1.1 idx "[[I" ∈ GW) (hx0 : ¬ x < 0) (hxl : x.toNatClampNeg = N) (hy0 : ¬ y < 0) (hyl : y.toNatClampNeg = K) (hov : ∀ s, Z s → (Cond.arrayOver (.array .int)).before #[] s = true) (hN : N ≤ 60000) (hKb : K ≤ 60000) (hk1 : k1 + (1 + N) ≤ r.2.1) (hk2 : k2 + (N + N * K) ≤ r.2.2)
    (k : xGh κ Z m r (nx, L, .ref n :: st, zG M n N, n + 1 + N, true, k1 + 1 + N, k2 + N + N * K) YS) : xGh κ Z m r (pc, L, .int y :: .int x :: st, M, n, true, k1, k2) YS := by
  intro p e R s me args below meth c Q hC hZ hY
  have kk := k p e R s me args below meth c Q hC hZ hY
  have he := xat_ck hl hC.2.2.2.2.2.2.2.2.2.2.2.2.1
  obtain ⟨v1, ⟨v2, v3⟩⟩ := e1
  obtain ⟨u1, u2, u3⟩ := v1
  obtain ⟨hd, hnx, -⟩ := xck_d he rfl
  dsimp only [xil] at hd hnx
  obtain ⟨hx, hb, hml, hown, hts, hK, hfr, hlo, hce, hsl, hsz, -, -, -⟩ := hC
  intro H locs ls h1 h3 h4 h5 h6 h7 T hT X9
  dsimp only at h1 h3 h6 h7
  have hHs := xHs hT X9 h1 (Nat.le_trans hsz h4.1) (h3 rfl)
  subst hnx
  subst hxl hyl
  have hm1 : x.toNatClampNeg * 4 ≤ 536870912 := by omega
  have hm2 : k1 + (1 + x.toNatClampNeg) ≤ R.cells := Nat.le_trans hk1 hce
  have hm3 : k2 + (x.toNatClampNeg + x.toNatClampNeg * y.toNatClampNeg) ≤ R.slots := Nat.le_trans hk2 hsl
  obtain ⟨vm₁, cA, comp, hW, hfA, hfC, hO, hI, X1, step⟩ := X9.multianewarray2F (g := F0 me pc ls ((Value.int y :: .int x :: st).map (xcv κ.2.1))) (ty := .int) hx hown (hts _ hlk) (hov s hZ) (hts _ gw_aci) rfl (by rw [hb]; exact hd) rfl hx0 hy0 hm1 (by show y.toNatClampNeg * 4 ≤ _; omega) (by omega) rfl rfl hm2 hm3
  obtain ⟨f1, f2, f3, f4⟩ := Jvm.Free.Multi.fill_facts (T.setVm vm₁) cA comp x.toNatClampNeg y.toNatClampNeg (defaultValue .int) x.toNatClampNeg
  have fo := fun (a : Addr) (ha : a < T.heap.size) => Jvm.Free.Multi.fill_old (T.setVm vm₁) cA comp x.toNatClampNeg y.toNatClampNeg (defaultValue .int) (a := a) ha x.toNatClampNeg
  have fi := fun (j : Nat) (hj : j < x.toNatClampNeg) => Jvm.Free.Multi.fill_inner (T.setVm vm₁) cA comp x.toNatClampNeg y.toNatClampNeg (defaultValue .int) x.toNatClampNeg j hj
  generalize Jvm.Free.Multi.fill (T.setVm vm₁) cA comp x.toNatClampNeg y.toNatClampNeg (defaultValue .int) x.toNatClampNeg = T1 at X1 step f1 f2 f4 fo fi
  have e0 : (T.setVm vm₁).heap.size = κ.2.1 + n := by show T.heap.size = _; rw [hT, hHs]
  rw [e0] at f1 f2 fi
  rw [hT] at fo
  rw [xout_c] at f2
  have hA : cA = κ.2.2.2 6 := Option.some.inj (hfA.symm.trans (hK.2 6 _ rfl).2)
  have hB : comp = κ.2.2.2 0 := Option.some.inj (hfC.symm.trans (va_nm_int (hK.2 0 _ rfl).2))
  subst hA hB
  have o1 : ∀ q : Nat, q < H.size → T1.heap[q]? = H[q]? := fun q hq => (fo q hq).trans (by show T.heap[q]? = _; rw [hT])
  have hP1 : va_P κ.2.2.1 vwCl (xws κ true (zG M n x.toNatClampNeg) (n + 1 + x.toNatClampNeg)) T1.heap := by
    refine xgrow (n := n) (n' := n + 1 + x.toNatClampNeg) (M' := zG M n x.toNatClampNeg) h1 (fun a ha j => ⟨by rw [gIzG, if_neg (by omega)], by rw [gJzG, if_neg (by omega)], by rw [gPzG, if_neg (by omega), if_neg (by omega)]⟩) o1 (fun a ha1 ha2 => ?_)
    by_cases h0 : a = n
    · subst h0
      rw [shp_D hs]
      show T1.heap[κ.2.1 + a]? = some (vp_cell (κ.2.2.2 6) (x.toNatClampNeg, xav κ.2.1 true (zG M a x.toNatClampNeg) a 6))
      rw [xav_q (by omega), f2]
      congr 2
      funext j
      show _ = va_rf ((gP (zG M a x.toNatClampNeg) a j).map _)
      rw [gPzG, if_pos rfl]
      show Value.ref _ = .ref (κ.2.1 + (a + 1 + j))
      have hq : ∀ u v w : Nat, u + v + 1 + w = u + (v + 1 + w) := by intro u v w; omega
      exact congrArg Value.ref (hq _ _ _)
    · obtain ⟨j, hj⟩ : ∃ j, a = n + 1 + j := ⟨a - (n + 1), by omega⟩
      have hj2 : j < x.toNatClampNeg := by omega
      subst hj
      rw [shp_D (hsj j hj2)]
      show T1.heap[κ.2.1 + (n + 1 + j)]? = some (vp_cell (κ.2.2.2 0) (y.toNatClampNeg, xav κ.2.1 true (zG M n x.toNatClampNeg) (n + 1 + j) 0))
      rw [xav_n (ty := .int) (fun i => by rw [gIzG, if_pos (by omega)]) (fun i => by rw [gJzG, if_pos (by omega)]) (Or.inl ⟨rfl, rfl⟩), ← arrV_new]
      have := fi j hj2
      rw [show κ.2.1 + n + 1 + j = κ.2.1 + (n + 1 + j) by omega] at this
      exact this
  obtain ⟨t2, a1, b1⟩ := kk T1.heap locs ls hP1 (fun _ => by have := h3 rfl; show s.heap.size + (k1 + 1 + x.toNatClampNeg) = κ.2.1 + (n + 1 + x.toNatClampNeg); omega) ⟨Nat.le_trans h4.1 (by rw [f1]; omega), fun q g1 g2 => (o1 q (by have := h4.1; omega)).trans (h4.2.1 q g1 g2), h4.2.2⟩ h5 (by show k1 + 1 + _ ≤ _; omega) (by show k2 + _ + _ ≤ _; omega) T1 rfl X1
  refine ⟨t2, step t2 ?_, b1⟩
  rw [hT, hHs]
  exact a1
end XMAKE2
