/-! ===== what a throw asks of a state ===== -/
def xIAE : String := "java/lang/IllegalArgumentException"
def xISE : String := "java/lang/IllegalStateException"
def xDw : List MethodName := [Bundle.initS "java/lang/RuntimeException", Bundle.initS "java/lang/Exception", Bundle.initS Bundle.tN]
def xDcl (U : State) : Prop := ∀ y ∈ xDw, va_Nw (.declares y) U
def xTh (κ : xKK) (U : State) : Prop :=
  vx_Zq Bundle.tN "UNASSIGNED_STACK" Bundle.steD (fun q => κ.2.1 ≤ q) U U.heap ∧ vx_Zq Bundle.tN "SUPPRESSED_SENTINEL" Bundle.listD (fun q => κ.2.1 ≤ q) U U.heap ∧
  (va_Nw (.castable xIAE xIAE) U ∧ va_Nw (.castable xISE xISE) U ∧ va_Nc xISE xIAE U ∧ xDcl U) ∧
  ((∃ a, vk_R RX11 149 "no such piece" a U) ∧ (∃ a, vk_R RX11 158 "no such lean" a U) ∧ (∃ a, vk_R RX11 382 "no such shelf" a U) ∧ ∃ a, vk_R RX11 386 "no row, or no such place" a U)
theorem xTh_to {κ : xKK} {s U : State} (hW : s.WarmedH U.vm) (hk : ∀ q : Nat, q < s.heap.size → ¬ κ.2.1 ≤ q → U.heap[q]? = s.heap[q]?) (h : xTh κ s) : xTh κ U := by
  obtain ⟨h1, h2, ⟨h3, h4, h5, h0⟩, ⟨a1, h6⟩, ⟨a2, h7⟩, ⟨a3, h8⟩, ⟨a4, h9⟩⟩ := h
  exact ⟨vx_Zq.moved hW.alike (h1.kept hk), vx_Zq.moved hW.alike (h2.kept hk), ⟨va_Nw.warmC hW h3, va_Nw.warmC hW h4, h5.moved hW.alike, fun y hy => va_Nw.warmD hW (h0 y hy)⟩, ⟨a1, vk_R.warm hW h6⟩, ⟨a2, vk_R.warm hW h7⟩, ⟨a3, vk_R.warm hW h8⟩, ⟨a4, vk_R.warm hW h9⟩⟩
theorem xTh_vm {κ : xKK} {u U : State} (hv : u.vm = U.vm) (hh : u.heap = U.heap) (h : xTh κ u) : xTh κ U := by
  have hA : u.vm.Alike U.vm := by rw [hv]; exact Vm.Alike.refl _
  obtain ⟨h1, h2, ⟨h3, h4, h5, h0⟩, ⟨a1, h6⟩, ⟨a2, h7⟩, ⟨a3, h8⟩, ⟨a4, h9⟩⟩ := h
  rw [hh] at h1 h2
  exact ⟨vx_Zq.moved hA h1, vx_Zq.moved hA h2, ⟨va_Nw.same rfl hv h3, va_Nw.same rfl hv h4, h5.moved hA, fun y hy => va_Nw.same rfl hv (h0 y hy)⟩, ⟨a1, vk_R.same hv.symm h6⟩, ⟨a2, vk_R.same hv.symm h7⟩, ⟨a3, vk_R.same hv.symm h8⟩, ⟨a4, vk_R.same hv.symm h9⟩⟩
/-! ===== a method that answers a long or throws ===== -/
def xTB (κ : xKK) (M' : xM) (t : State) : Prop := va_P κ.2.2.1 vwCl (xws κ false M' 182) t.heap
def xTP (κ : xKK) (as : List Value) (M : xM) : Array Value → State → Prop := fun v U => xPc κ as M 182 false v U ∧ xTh κ U
def xTX (κ : xKK) (Thr : String → xM → Prop) : String → State → State → Prop := vx_X (fun _ : xM => True) (fun E M' t => Thr E M' ∧ xTB κ M' t) (fun q => κ.2.1 ≤ q)
def xTv (κ : xKK) (m : xMI) (r : xRm) (as : List Value) (M : xM) (Post : Int64 → xM → Prop) (Thr : String → xM → Prop) : Prop :=
  vx_Met κ.1 m.1.2.1 (xwm m) (xrm r) (xTP κ as M) (va_Ql Post (xTB κ) (fun q => κ.2.1 ≤ q)) (xTX κ Thr) r.2.1 r.2.2 (fun q => κ.2.1 ≤ q)
/-- a throw that a program decided: new, dup, the text, the constructor, athrow -/
def xThI (m : xMI) (pc : Nat) (cls text : String) (ik is ic : Nat) (wide : Bool) : Prop :=
  decode m.1.2.2 pc = .ok (.new ik, 3) ∧ decode m.1.2.2 (pc + 3) = .ok (.dup, 1) ∧ decode m.1.2.2 (pc + 4) = .ok (bif wide then (.ldc_w is, 3) else (.ldc is, 2)) ∧ decode m.1.2.2 (pc + (bif wide then 7 else 6)) = .ok (.invokespecial ic, 3) ∧ decode m.1.2.2 (pc + (bif wide then 10 else 9)) = .ok (.athrow, 1) ∧
  Cond.classLink m.1.1 ik cls ∈ GW ∧ Cond.initialized cls ∈ GW ∧ (∀ w ∈ (vx_atS m.1.1 ic cls ["java/lang/RuntimeException", "java/lang/Exception"]).filter goodWord, w ∈ GW) ∧ (∀ w ∈ (vx_atS m.1.1 ic cls ["java/lang/RuntimeException", "java/lang/Exception"]).filter (fun w => !goodWord w), w ∈ Cond.castable cls cls :: xDw.map Cond.declares) ∧
  (∀ w ∈ Cond.classLink m.1.1 ik cls :: Cond.initialized cls :: vx_atS m.1.1 ic cls ["java/lang/RuntimeException", "java/lang/Exception"], vx_ot w = true) ∧ Bundle.fit cls = true
theorem fit2 : ∀ n ∈ (["java/lang/RuntimeException", "java/lang/Exception"] : List String), Bundle.fit n = true := by decide +kernel
section LTHR
variable {κ : xKK} {m : xMI} {r : xRm} {p : Program} {e : Env} {R : Room} {s : State} {me : MethodId} {args : Array Value} {below : List Frame} {meth : Method} {c : Code} {Q : State → Prop} {pc nx k1 k2 : Nat} {L : xLc} {st : List Value} {M : xM} {e1 : (Nat × Nat × Nat) × Int32 × Int64}
theorem xA_thr {cls text : String} {ik is ic : Nat} {wide : Bool} {Qc : Array Value → State → Outcome → State → Prop} {Thr : String → xM → Prop} (hl : κ.1.stackTraces = false) (hI : xThI m pc cls text ik is ic wide) (hC : xC κ m r p e R s me args below meth c) (hT : xTh κ s) (hlocks : meth.locks = false) (htab : ∀ x ∈ c.exceptionTable.toList, False) (hstr : ∃ a, vk_R m.1.1 is text a s) (hcs : va_Nw (.castable cls cls) s) (hp : Thr cls M) (hr : 5 ≤ r.1) (hk1 : k1 + 1 ≤ r.2.1) (hk2 : k2 + 6 ≤ r.2.2) :
    xA κ m r p e R s me args below meth c (vx_MQ below Qc (xTX κ Thr) args s r.2.1 r.2.2 (fun q => κ.2.1 ≤ q)) (pc, L, [], M, 182, false, k1, k2) := by
  obtain ⟨d0, d3, d4, d6, d9, w1, w2, w3, w4, w5, w6⟩ := hI
  obtain ⟨hx, hb, hml, hown, hts, hK, hfr, hlo, hce, hsl, hsz, hini, hcI, hcL⟩ := hC
  obtain ⟨sa, hstr⟩ := hstr
  intro H locs ls h1 h3 h4 h5 h6 h7
  dsimp only at h1 h3 h6 h7
  obtain ⟨lv, hlv, -⟩ := h5
  have hat : ∀ w ∈ vx_atS m.1.1 ic cls ["java/lang/RuntimeException", "java/lang/Exception"], w.before args s = true := vx_hat (fun w hw => hts w (w3 w hw)) w4 (vx_c (hcs.use rfl) (fun w hw => by
    obtain ⟨y, hy, rfl⟩ := List.mem_map.mp hw
    exact (hT.2.2.1.2.2.2 y hy).use rfl))
  have hX : ∀ t : State, s.vm.Alike t.vm → H.size ≤ t.heap.size → (∀ q : Nat, q < H.size → t.heap[q]? = H[q]?) → xTX κ Thr cls s t := fun t _ g1 g2 => ⟨M, trivial, ⟨hp, h1.kept (fun k x hx => g2 _ (h1 k x hx).lt)⟩, ⟨Nat.le_trans h4.1 g1, fun q q1 q2 => (g2 q (Nat.lt_of_lt_of_le q1 h4.1)).trans (h4.2.1 q q1 q2)⟩⟩
  cases wide with
  | true => exact vx_throwSW (A := fun q => κ.2.1 ≤ q) (names := ["java/lang/RuntimeException", "java/lang/Exception"]) hx hb hl hown w6 fit2 (hts _ w1) (hts _ w2) hstr hat w5 hT.1 hT.2.1 h4 (hlv.1.trans hml.symm) d0 d3 d4 d6 d9 (fun x hx => absurd (htab x hx) id) (by show 2 + 3 < R.frames; omega) (by show 0 + (13 * (2 + 1) + 43) ≤ R.locals; omega) (by show k1 + 1 ≤ R.cells; omega) (by show k2 + 6 ≤ R.slots; omega) hlocks hX h4.2.2 hk1 hk2
  | false => exact vx_throwS (A := fun q => κ.2.1 ≤ q) (names := ["java/lang/RuntimeException", "java/lang/Exception"]) hx hb hl hown w6 fit2 (hts _ w1) (hts _ w2) hstr hat w5 hT.1 hT.2.1 h4 (hlv.1.trans hml.symm) d0 d3 d4 d6 d9 (fun x hx => absurd (htab x hx) id) (by show 2 + 3 < R.frames; omega) (by show 0 + (13 * (2 + 1) + 43) ≤ R.locals; omega) (by show k1 + 1 ≤ R.cells; omega) (by show k2 + 6 ≤ R.slots; omega) hlocks hX h4.2.2 hk1 hk2
end LTHR
theorem xTP_fb (κ : xKK) (as : List Value) (M : xM) : FrameBlind (xTP κ as M) := fun a U g mk q => ⟨xPc_fb κ as M 182 false a U g mk q.1, xTh_vm (u := U) (U := U.calling g mk a) rfl rfl q.2⟩
/-- where a throwing method stands at its ends -/
def xTE (m : xMI) (Post : Int64 → xM → Prop) (Thr : String → xM → Prop) (Y : xX) : Prop :=
  (∃ e0 v, xat m Y.1 = some e0 ∧ e0.1 = .lreturn ∧ Y.2.2.1 = [.long v] ∧ m.2.1.2.1 = some .long ∧ Post v Y.2.2.2.1 ∧ Y.2.2.2.2.1 = 182 ∧ Y.2.2.2.2.2.1 = false) ∨
  (∃ cls text ik is ic wide, xThI m Y.1 cls text ik is ic wide ∧ (∀ κ s, xTh κ s → (∃ a, vk_R m.1.1 is text a s) ∧ va_Nw (.castable cls cls) s) ∧ Thr cls Y.2.2.2.1 ∧ Y.2.2.1 = [] ∧ Y.2.2.2.2 = (182, false, 0, 0))
theorem xTv_of {κ : xKK} {m : xMI} {r : xRm} {as : List Value} {M : xM} {L : xLc} {Post : Int64 → xM → Prop} {Thr : String → xM → Prop} (hl : κ.1.stackTraces = false) (hI : xckI m = true) (hLl : xckL m = true) (hW : xckW m = true) (hr : 5 ≤ r.1 ∧ 1 ≤ r.2.1 ∧ 6 ≤ r.2.2) (hwid : Nat.ble (xwid as) m.2.1.1 = true) (hL : xfill m.2.1.1 (xent as) = L)
    (h : xG κ m r (0, L, [], M, 182, false, 0, 0) (xTE m Post Thr)) : xTv κ m r as M Post Thr := by
  subst hL
  obtain ⟨w1, w2, w3, w4, w5, w6, w7, w8⟩ := xckW_d hW
  refine vx_ofW (cc := m.1.2.2) (maxL := m.2.1.1) (ret := m.2.1.2.1) w8 rfl ?_
  intro p e s me args below meth c s₁ B hml htab hv
  obtain ⟨⟨rfl, hP, hK, hsz, hexa⟩, hTh⟩ := hv
  have hts := atoms_spec (ws := xwm m) B.pre
  have hown : s.vm.findClass m.1.2.1.cls = some me.cls := findClass_of_methodNamed B.named
  have hin : meth.name = m.1.2.1.name := (name_of_methodNamed B.named B.method).1
  have hlocks := B.notSynchronized
  have hret := B.returns
  rw [lg_entry_eq]
  have hlv := lv_entry (as.map (xcv κ.2.1)) (n := m.2.1.1) (by rw [xwid_sl]; exact Nat.le_of_ble_eq_true hwid)
  have hC : xC κ m r p e (xrm r) s me (as.map (xcv κ.2.1)).toArray below meth c := ⟨B.exec, B.bytes, hml, by rw [w5]; exact hown, fun w hw => hts w (List.mem_cons_of_mem _ hw), hK, Nat.le_refl _, Nat.le_refl _, Nat.le_refl _, Nat.le_refl _, hsz, fun q => hin.trans q, hI, hLl⟩
  refine h p e (xrm r) s me _ below meth c _ hC ?_ s.heap [] _ hP (fun q => by cases q) va_S.rf ⟨_, hlv, fun i v q => ?_⟩ (Nat.zero_le _) (Nat.zero_le _)
  · intro Y hY
    obtain ⟨pc, L, st, M', z⟩ := Y
    rcases hY with ⟨e0, v, hl0, hi, hst, hr2, hp, hn, hex⟩ | ⟨cls, text, ik, is, ic, wide, g1, g2, g3, g4, g5⟩
    · obtain ⟨ins, nx, ⟨a, b, c'⟩, v0, w0⟩ := e0
      have he := xat_ck hl0 hI
      obtain ⟨zn, zex, zk1, zk2⟩ := z
      dsimp only at hi hst hn hex hp
      subst hi hst hn hex
      obtain ⟨hd, -, -⟩ := xck_d he rfl
      exact fun H locs ls g1 g3 g4 g5 g6 g7 => vx_ret (W.widen g6 g7 (W.lret B.exec B.bytes (hret.trans hr2) (fun t ht _ => ⟨⟨v, M', rfl, hp, by unfold xTB; rw [ht]; exact g1⟩, g4.F ht⟩) (fun q hq => g4.2.2 q hq) hd))
    · dsimp only at g3 g4 g5
      subst g4 g5
      obtain ⟨q1, q2⟩ := g2 κ s hTh
      exact xA_thr hl g1 hC hTh hlocks htab q1 q2 g3 hr.1 (by omega) (by omega)
  · have := xent_get κ.2.1 as 0 i v (xfill_get _ _ _ _ q)
    rwa [Nat.zero_add] at this
section LCX
variable {κ : xKK} {m : xMI} {r : xRm} {p : Program} {e : Env} {R : Room} {s : State} {me : MethodId} {args : Array Value} {below : List Frame} {meth : Method} {c : Code} {Q : State → Prop} {pc nx k1 k2 : Nat} {L : xLc} {st : List Value} {M : xM} {e1 : (Nat × Nat × Nat) × Int32 × Int64} {X X' : xX}
theorem xA_l (h : xG κ m r X (fun Y => Y = X')) (hC : xC κ m r p e R s me args below meth c) (k : xA κ m r p e R s me args below meth c Q X') : xA κ m r p e R s me args below meth c Q X := h p e R s me args below meth c Q hC (fun Y hY => by rw [hY]; exact k)
theorem xA_run (n : Nat) {C : Prop} (h : xrun m n True X = some (C, X')) (hc : C) (hC : xC κ m r p e R s me args below meth c) (k : xA κ m r p e R s me args below meth c Q X') : xA κ m r p e R s me args below meth c Q X := xA_l (xG_run n h hc (xG_done rfl)) hC k
/-- the law's helper calls a method that may throw, and catches -/
theorem xA_cx {idx o : Nat} {as : List Value} {my : xMI} {r' : xRm} {Post : Int64 → xM → Prop} {Thr : String → xM → Prop} {cid j w : Nat} {x0 : Int32} {x1 : Int64} {Cn : String} {Tn : u_T} {Nn : Nat} (hl : xat m pc = some (.invokevirtual idx, nx, (j, cid, w), x0, x1)) (hob : xob o cid 182) (hcl : vwCl[cid]? = some (Cn, Tn, Nn)) (hCn : Cn = my.1.2.1.cls) (hn : as.length = my.2.1.2.2.1) (hni : ¬ my.1.2.1.name = "<init>") (hst : my.2.1.2.2.2 = false) (hW : xckW my = true) (hlk : Cond.methodLink m.1.1 idx my.1.2.1 ∈ GW) (hcat : Nat.ble (xcat st) 8 = true) (hE : xTv κ my r' (.ref o :: as) M Post Thr)
    (hr : r'.1 + 1 ≤ r.1 ∧ k1 + r'.2.1 ≤ r.2.1 ∧ k2 + r'.2.2 ≤ r.2.2) (hC : xC κ m r p e R s me args below meth c) (hT : xTh κ s)
    (k : ∀ v M', Post v M' → xA κ m r p e R s me args below meth c Q (nx, L, .long v :: st, M', 182, false, k1 + r'.2.1, k2 + r'.2.2))
    (kx : ∀ E M' (q : Nat), Thr E M' → ∃ (pre : List ExceptionTableEntry) (x : ExceptionTableEntry) (suf : List ExceptionTableEntry) (name : String), c.exceptionTable.toList = pre ++ x :: suf ∧ (∀ z ∈ pre, covers z pc = false ∨ (z.catchType ≠ 0 ∧ ∃ nm : String, (Cond.classLink m.1.1 z.catchType nm).before args s = true ∧ va_Nc E nm s)) ∧ covers x pc = true ∧ x.catchType ≠ 0 ∧ (Cond.classLink m.1.1 x.catchType name).before args s = true ∧ (Cond.castable E name).before args s = true ∧ xA κ m r p e R s me args below meth c Q (x.handlerPc, L, [.retAddr q], M', 182, false, k1 + r'.2.1, k2 + r'.2.2)) :
    xA κ m r p e R s me args below meth c Q (pc, L, as.reverse ++ .ref o :: st, M, 182, false, k1, k2) := by
  have he := xat_ck hl hC.2.2.2.2.2.2.2.2.2.2.2.2.1
  obtain ⟨hd, hnx, -⟩ := xck_d he rfl
  dsimp only [xil] at hd hnx
  obtain ⟨w1, w2, w3, w4, w5, w6, w7, w8⟩ := xckW_d hW
  obtain ⟨hx, hb, hml, hown, hts, hK, hfr, hlo, hce, hsl, hsz, hini, hcI, hcL⟩ := hC
  have hroom : (xrm r').frames + 1 ≤ R.frames ∧ 8 + (my.2.1.1 + 11) + (xrm r').locals ≤ R.locals := by
    constructor
    · show r'.1 + 1 + 1 ≤ R.frames
      omega
    · show 8 + (my.2.1.1 + 11) + 40 * (r'.1 + 1) ≤ R.locals
      omega
  obtain ⟨hs, hlo2⟩ := hob
  rw [hst] at w2 w3
  have hsel2 : Cond.selects my.1.2.1.cls my.1.2.1 my.1.2.1 ∈ GW := by
    rcases w3 with g | g | g
    · cases g
    · exact absurd g hni
    · exact g
  have hinst : Cond.instanceMethod my.1.2.1 ∈ GW := by simpa using w2
  subst hnx
  subst hCn
  have hGw : GoodIn GW (wsV m.1.1 idx my.1.2.1.cls my.1.2.1 (xwm my)) := by
    have hmem : ∀ w' ∈ wsV m.1.1 idx my.1.2.1.cls my.1.2.1 (xwm my), w' ∈ GW := by
      intro w' hw'
      unfold wsV xwm at hw'
      simp only [List.cons_append, List.nil_append, List.mem_cons] at hw'
      rcases hw' with rfl | rfl | rfl | rfl | rfl | g
      · exact hlk
      · exact hinst
      · exact hsel2
      · exact w4
      · exact w1
      · exact g
    exact fun w' hw' => ⟨hmem w' hw', GW_good w' (hmem w' hw')⟩
  have hcw : CallW R s args m.1.1 my.1.2.1.cls idx my.1.2.1 my.1.2.2 my.2.1.1 my.2.1.2.1 (xwm my) (xrm r') r'.2.1 r'.2.2 my.2.1.2.2.1 := cwV my.2.1.2.2.1 hts hGw rfl rfl rfl ⟨rfl, w6.1, w6.2.1, w6.2.2⟩ hroom
  intro H locs ls h1 h3 h4 h5 h6 h7
  dsimp only at h1 h3 h6 h7
  obtain ⟨lv, hlv, hlin⟩ := h5
  have hbig : κ.2.1 ≤ H.size := Nat.le_trans hsz h4.1
  have hpv : PreV s H my.1.2.1.cls (κ.2.1 + o) (xTP κ (.ref o :: as) M) (as.map (xcv κ.2.1)) := ⟨xTP_fb _ _ _, va_recv hK h1 hcl (xws_at hlo2 hs), fun U hU hWm => ⟨⟨rfl, by rw [hU]; exact h1, va_K.moved hWm.alike hK, by rw [hU]; exact hbig, fun q => by cases q⟩, xTh_to hWm (fun q q1 q2 => by rw [hU]; exact h4.2.1 q q1 q2) hT⟩⟩
  have hr2 := vx_runV (e := e) (below := below) (meth := meth) (locs := locs) (cells := k1) (slots := k2) (H := H) (g := F0 me pc ls ((as.reverse ++ .ref o :: st).map (xcv κ.2.1))) (rest := st.map (xcv κ.2.1)) ⟨hx, hb, hml, hown, hts⟩ hE hcw hpv rfl (by rw [List.length_map, hn]) hlv.1 (by rw [List.map_append, List.map_reverse]; rfl) (lv_room (by rw [xcat_eq]; exact Nat.le_of_ble_eq_true hcat)) hd ⟨by omega, by omega⟩
  refine vx_calll (px := fun _ : xM => True) (BX := fun E M' t => Thr E M' ∧ xTB κ M' t) (AX := fun q => κ.2.1 ≤ q) (A1 := fun q => κ.2.1 ≤ q) (A0 := fun q => κ.2.1 ≤ q) (H0 := s.heap) hr2 h4 (fun _ _ q => q) (fun _ q => q) (fun _ _ q => q) ?_ ?_
  · intro E ce q9 u t H1 locs1 t1 _ _ ⟨p1, p2⟩ _ _ t5 t6 t7 t8
    obtain ⟨pre, x, suf, name, y1, y2, y3, y4, y5, y6, y7⟩ := kx E u q9 p1
    unfold xTB at p2
    rw [t1] at p2
    exact vx_catch hown pre x suf y1 y2 y3 y4 y5 y6 t6 t7 t8 (y7 H1 locs1 ls p2 (fun q => by cases q) t5 ⟨lv, hlv, hlin⟩ (by show k1 + r'.2.1 ≤ r.2.1; omega) (by show k2 + r'.2.2 ≤ r.2.2; omega))
  · intro v u t H1 locs1 t1 _ p1 p2 _ _ t5
    unfold xTB at p2
    rw [t1] at p2
    exact k v u p1 H1 locs1 ls p2 (fun q => by cases q) t5 ⟨lv, hlv, hlin⟩ (by show k1 + r'.2.1 ≤ r.2.1; omega) (by show k2 + r'.2.2 ≤ r.2.2; omega)
/-- the caught one is put into a local -/
theorem xA_ast {k : Fin 4} {q a b w : Nat} {x0 : Int32} {x1 : Int64} {z : xZ} (hl : xat m pc = some (.astore_n k, nx, (a, b, w), x0, x1)) (hC : xC κ m r p e R s me args below meth c) (kk : xA κ m r p e R s me args below meth c Q (nx, xsto1 L a (.retAddr q), st, M, z)) : xA κ m r p e R s me args below meth c Q (pc, L, .retAddr q :: st, M, z) := by
  have he := xat_ck hl hC.2.2.2.2.2.2.2.2.2.2.2.2.1
  have hL := xckL_at hl hC.2.2.2.2.2.2.2.2.2.2.2.2.2
  obtain ⟨hd, hn, ho⟩ := xck_d he rfl
  obtain ⟨hx, hb, hml, hown, hts, hK, hfr, hlo, hce, hsl, hsz, hini, -, -⟩ := hC
  dsimp only [xil] at hd hn
  subst hn
  have ha : (k : Nat) = a := Nat.eq_of_beq_eq_true ho
  exact fun H locs ls h1 h3 h4 h5 h6 h7 => by
    obtain ⟨lv, hlv, hin⟩ := h5
    exact lv_astore_n hx hb hd ha hlv (Nat.le_of_ble_eq_true hL) rfl (fun ls' hv => kk H locs ls' h1 h3 h4 (xLR_s1 (v := .retAddr q) hin hv) h6 h7)
theorem xA_astw {k : Nat} {q a b w : Nat} {x0 : Int32} {x1 : Int64} {z : xZ} (hl : xat m pc = some (.astore k, nx, (a, b, w), x0, x1)) (hC : xC κ m r p e R s me args below meth c) (kk : xA κ m r p e R s me args below meth c Q (nx, xsto1 L a (.retAddr q), st, M, z)) : xA κ m r p e R s me args below meth c Q (pc, L, .retAddr q :: st, M, z) := by
  have he := xat_ck hl hC.2.2.2.2.2.2.2.2.2.2.2.2.1
  have hL := xckL_at hl hC.2.2.2.2.2.2.2.2.2.2.2.2.2
  obtain ⟨hd, hn, ho⟩ := xck_d he rfl
  obtain ⟨hx, hb, hml, hown, hts, hK, hfr, hlo, hce, hsl, hsz, hini, -, -⟩ := hC
  dsimp only [xil] at hd hn
  subst hn
  have ha : k = a := Nat.eq_of_beq_eq_true ho
  subst ha
  exact fun H locs ls h1 h3 h4 h5 h6 h7 => by
    obtain ⟨lv, hlv, hin⟩ := h5
    exact lv_astore hx hb hd hlv (Nat.le_of_ble_eq_true hL) rfl (fun ls' hv => kk H locs ls' h1 h3 h4 (xLR_s1 (v := .retAddr q) hin hv) h6 h7)
end LCX
/-! ===== a helper of the law: its contract, with a table of its own ===== -/
noncomputable def xwh (m : xMI) (hh : List (Nat × Nat × Nat × Nat)) : List Cond := .codeWith m.1.2.1 m.1.2.2 m.2.1.1 m.2.1.2.1 hh :: GW
def xHv (κ : xKK) (m : xMI) (hh : List (Nat × Nat × Nat × Nat)) (r : xRm) (as : List Value) (M : xM) (Post : Int32 → xM → Prop) : Prop :=
  Met κ.1 m.1.2.1 (xwh m hh) (xrm r) (xTP κ as M) (va_Qi Post (xTB κ) (fun q => κ.2.1 ≤ q)) r.2.1 r.2.2 (fun q => κ.2.1 ≤ q)
theorem xHv_of {κ : xKK} {m : xMI} {hh : List (Nat × Nat × Nat × Nat)} {r : xRm} {as : List Value} {M : xM} {L : xLc} {Post : Int32 → xM → Prop} (hI : xckI m = true) (hLl : xckL m = true) (hpl : plainName m.1.2.1.cls = true) (hown0 : m.1.1 = m.1.2.1.cls) (hni : ¬ m.1.2.1.name = "<init>") (hret0 : m.2.1.2.1 = some .int) (hwid : Nat.ble (xwid as) m.2.1.1 = true) (hL : xfill m.2.1.1 (xent as) = L)
    (h : ∀ (p : Program) (e : Env) (s : State) (me : MethodId) (args : Array Value) (below : List Frame) (meth : Method) (c : Code), xC κ m r p e (xrm r) s me args below meth c → xTh κ s → c.exceptionTable.toList = tableOf hh →
      (∀ pc L v M' k1 k2 e0, xat m pc = some e0 → e0.1 = .ireturn → Post v M' → xA κ m r p e (xrm r) s me args below meth c (MQ below (va_Qi Post (xTB κ) (fun q => κ.2.1 ≤ q)) args s r.2.1 r.2.2 (fun q => κ.2.1 ≤ q)) (pc, L, [.int v], M', 182, false, k1, k2)) →
      xA κ m r p e (xrm r) s me args below meth c (MQ below (va_Qi Post (xTB κ) (fun q => κ.2.1 ≤ q)) args s r.2.1 r.2.2 (fun q => κ.2.1 ≤ q)) (0, L, [], M, 182, false, 0, 0)) : xHv κ m hh r as M Post := by
  subst hL
  refine va_MetW (cc := m.1.2.2) (maxL := m.2.1.1) (ret := m.2.1.2.1) (hh := hh) hpl rfl ?_
  intro p e s me args below meth c s₁ B hml hv
  obtain ⟨⟨rfl, hP, hK, hsz, hexa⟩, hTh⟩ := hv
  have hts := atoms_spec (ws := xwh m hh) B.pre
  have hown : s.vm.findClass m.1.2.1.cls = some me.cls := findClass_of_methodNamed B.named
  have hin : meth.name = m.1.2.1.name := (name_of_methodNamed B.named B.method).1
  have hret := B.returns
  rw [lg_entry_eq]
  have hlv := lv_entry (as.map (xcv κ.2.1)) (n := m.2.1.1) (by rw [xwid_sl]; exact Nat.le_of_ble_eq_true hwid)
  have hC : xC κ m r p e (xrm r) s me (as.map (xcv κ.2.1)).toArray below meth c := ⟨B.exec, B.bytes, hml, by rw [hown0]; exact hown, fun w hw => hts w (List.mem_cons_of_mem _ hw), hK, Nat.le_refl _, Nat.le_refl _, Nat.le_refl _, Nat.le_refl _, hsz, fun q => hin.trans q, hI, hLl⟩
  have htab := vx_table (x := m.1.2.1) B (hts _ List.mem_cons_self)
  refine h p e s me _ below meth c hC hTh htab ?_ s.heap [] _ hP (fun q => by cases q) va_S.rf ⟨_, hlv, fun i v q => ?_⟩ (Nat.zero_le _) (Nat.zero_le _)
  · intro pc L v M' k1 k2 e0 hl0 hi hp
    obtain ⟨ins, nx, ⟨a, b, c'⟩, v0, w0⟩ := e0
    have he := xat_ck hl0 hI
    dsimp only at hi
    subst hi
    obtain ⟨hd, -, -⟩ := xck_d he rfl
    exact fun H locs ls g1 g3 g4 g5 g6 g7 => W.widen g6 g7 (W.zret (v := v) B.exec B.bytes (hret.trans hret0) rfl (fun t ht _ => ⟨⟨v, M', rfl, hp, by unfold xTB; rw [ht]; exact g1⟩, g4.F ht⟩) (fun q hq => g4.2.2 q hq) hd)
  · have := xent_get κ.2.1 as 0 i v (xfill_get _ _ _ _ q)
    rwa [Nat.zero_add] at this
/-! ===== the law: its script, its helpers ===== -/
section LLAW
variable {κ : xKK} {Z : State → Prop} {m : xMI} {r : xRm} {YS : xX → Prop} {pc nx k1 k2 : Nat} {L : xLc} {st : List Value} {M : xM} {z : xZ} {a b w : Nat} {x0 : Int32} {x1 : Int64}
/-- what is known of the script -/
def xSc (κ : xKK) (b N : Nat) (xs : Nat → Int32) (s : State) : Prop := va_X b N xs s s.heap ∧ b < s.heap.size ∧ b < κ.2.1
theorem xGh_lda {k : Fin 4} {q : Nat} (hl : xat m pc = some (.aload_n k, nx, (a, b, w), x0, x1)) (hg : xget L a = some (.retAddr q)) (kk : xGh κ Z m r (nx, L, .retAddr q :: st, M, z) YS) : xGh κ Z m r (pc, L, st, M, z) YS := by
  intro p e R s me args below meth c Q hC hZ hY
  have k9 := kk p e R s me args below meth c Q hC hZ hY
  have he := xat_ck hl hC.2.2.2.2.2.2.2.2.2.2.2.2.1
  obtain ⟨hd, hn, ho⟩ := xck_d he rfl
  obtain ⟨hx, hb, -⟩ := hC
  dsimp only [xil] at hd hn
  subst hn
  have ha : (k : Nat) = a := Nat.eq_of_beq_eq_true ho
  exact fun H locs ls h1 h3 h4 h5 h6 h7 => lv_aload_n hx hb hd ha (xLR_get h5 hg) (k9 H locs ls h1 h3 h4 h5 h6 h7)
theorem xGh_sln {q N : Nat} {xs : Nat → Int32} (hl : xat m pc = some (.arraylength, nx, (a, b, w), x0, x1)) (hov : ∀ s, Z s → xSc κ q N xs s) (kk : xGh κ Z m r (nx, L, .int (Int32.ofNat N) :: st, M, z) YS) : xGh κ Z m r (pc, L, .retAddr q :: st, M, z) YS := by
  intro p e R s me args below meth c Q hC hZ hY
  have k9 := kk p e R s me args below meth c Q hC hZ hY
  have he := xat_ck hl hC.2.2.2.2.2.2.2.2.2.2.2.2.1
  obtain ⟨hd, hn, ho⟩ := xck_d he rfl
  obtain ⟨hx, hb, -⟩ := hC
  dsimp only [xil] at hd hn
  subst hn
  obtain ⟨y1, y2, y3⟩ := hov s hZ
  exact fun H locs ls h1 h3 h4 h5 h6 h7 => va_slen hx hb y1 y2 (Nat.not_le.mpr y3) h4 hd (k9 H locs ls h1 h3 h4 h5 h6 h7)
theorem xGh_sld {q N : Nat} {xs : Nat → Int32} {i : Int32} (hl : xat m pc = some (.iaload, nx, (a, b, w), x0, x1)) (hov : ∀ s, Z s → xSc κ q N xs s) (i0 : 0 ≤ i.toInt) (i1 : i.toInt < (N : Int)) (kk : xGh κ Z m r (nx, L, .int (xs i.toNatClampNeg) :: st, M, z) YS) : xGh κ Z m r (pc, L, .int i :: .retAddr q :: st, M, z) YS := by
  intro p e R s me args below meth c Q hC hZ hY
  have k9 := kk p e R s me args below meth c Q hC hZ hY
  have he := xat_ck hl hC.2.2.2.2.2.2.2.2.2.2.2.2.1
  obtain ⟨hd, hn, ho⟩ := xck_d he rfl
  obtain ⟨hx, hb, -⟩ := hC
  dsimp only [xil] at hd hn
  subst hn
  obtain ⟨y1, y2, y3⟩ := hov s hZ
  exact fun H locs ls h1 h3 h4 h5 h6 h7 => va_sld hx hb y1 y2 (Nat.not_le.mpr y3) h4 (vp_in_iff.mpr ⟨i0, i1⟩) hd (k9 H locs ls h1 h3 h4 h5 h6 h7)
/-- a call of a helper -/
theorem xGh_hs {idx : Nat} {as : List Value} {my : xMI} {hh : List (Nat × Nat × Nat × Nat)} {r' : xRm} {Post : Int32 → xM → Prop} (hl : xat m pc = some (.invokestatic idx, nx, (a, b, w), x0, x1)) (hn : as.length = my.2.1.2.2.1) (hlk : Cond.methodLink m.1.1 idx my.1.2.1 ∈ GW) (hst : Cond.static my.1.2.1 ∈ GW) (hi : Cond.initialized my.1.2.1.cls ∈ GW) (hcd : Cond.codeWith my.1.2.1 my.1.2.2 my.2.1.1 my.2.1.2.1 hh ∈ GW) (hy : my.1.2.1.cls ≠ "java/lang/invoke/MethodHandle" ∧ my.1.2.1.cls ≠ "java/lang/invoke/VarHandle" ∧ (parseMethodDescriptor my.1.2.1.desc).map (fun d => d.parameters.length) = some my.2.1.2.2.1) (hml7 : my.2.1.1 ≤ 21) (hcat : Nat.ble (xcat st) 8 = true) (hE : xHv κ my hh r' as M Post) (hov : ∀ s, Z s → xTh κ s)
    (hr : r'.1 + 1 ≤ r.1 ∧ k1 + r'.2.1 ≤ r.2.1 ∧ k2 + r'.2.2 ≤ r.2.2)
    (k : ∀ v M', Post v M' → xGh κ Z m r (nx, L, .int v :: st, M', 182, false, k1 + r'.2.1, k2 + r'.2.2) YS) : xGh κ Z m r (pc, L, as.reverse ++ st, M, 182, false, k1, k2) YS := by
  intro p e R s me args below meth c Q hC hZ hY
  have kk : ∀ v M', Post v M' → xA κ m r p e R s me args below meth c Q (nx, L, .int v :: st, M', 182, false, k1 + r'.2.1, k2 + r'.2.2) := fun v M' hp => k v M' hp p e R s me args below meth c Q hC hZ hY
  have hT := hov s hZ
  clear k hY
  have he := xat_ck hl hC.2.2.2.2.2.2.2.2.2.2.2.2.1
  obtain ⟨hd, hnx, -⟩ := xck_d he rfl
  dsimp only [xil] at hd hnx
  obtain ⟨hx, hb, hml, hown, hts, hK, hfr, hlo, hce, hsl, hsz, hini, hcI, hcL⟩ := hC
  have hroom : (xrm r').frames + 1 ≤ R.frames ∧ 8 + (my.2.1.1 + 11) + (xrm r').locals ≤ R.locals := by
    constructor
    · show r'.1 + 1 + 1 ≤ R.frames
      omega
    · show 8 + (my.2.1.1 + 11) + 40 * (r'.1 + 1) ≤ R.locals
      omega
  subst hnx
  have hGw : GoodIn GW (va_wsS m.1.1 idx my.1.2.1 (xwh my hh)) := by
    have hmem : ∀ w' ∈ va_wsS m.1.1 idx my.1.2.1 (xwh my hh), w' ∈ GW := by
      intro w' hw'
      unfold va_wsS xwh at hw'
      simp only [List.cons_append, List.nil_append, List.mem_cons] at hw'
      rcases hw' with rfl | rfl | rfl | rfl | g
      · exact hlk
      · exact hst
      · exact hi
      · exact hcd
      · exact g
    exact fun w' hw' => ⟨hmem w' hw', GW_good w' (hmem w' hw')⟩
  have hcw := vx_cwSW (R := R) (s := s) (args := args) (maxL := my.2.1.1) (mc := r'.2.1) (ms := r'.2.2) (rm := xrm r') (hh := hh) my.2.1.2.2.1 hts hGw rfl rfl rfl hy hroom
  intro H locs ls h1 h3 h4 h5 h6 h7
  dsimp only at h1 h3 h6 h7
  obtain ⟨lv, hlv, hlin⟩ := h5
  have hbig : κ.2.1 ≤ H.size := Nat.le_trans hsz h4.1
  have hpv : PreS s H (xTP κ as M) (as.map (xcv κ.2.1)) := ⟨xTP_fb _ _ _, fun U hU hWm => ⟨⟨rfl, by rw [hU]; exact h1, va_K.moved hWm.alike hK, by rw [hU]; exact hbig, fun q => by cases q⟩, xTh_to hWm (fun q q1 q2 => by rw [hU]; exact h4.2.1 q q1 q2) hT⟩⟩
  have hr2 := vx_runSW (e := e) (below := below) (meth := meth) (locs := locs) (cells := k1) (slots := k2) (H := H) (g := F0 me pc ls ((as.reverse ++ st).map (xcv κ.2.1))) (rest := st.map (xcv κ.2.1)) ⟨hx, hb, hml, hown, hts⟩ hE hcw hpv rfl (by rw [List.length_map, hn]) hlv.1 (by rw [List.map_append, List.map_reverse]) (lv_room (by rw [xcat_eq]; exact Nat.le_of_ble_eq_true hcat)) hd ⟨by omega, by omega⟩
  refine va_calli (A1 := fun q => κ.2.1 ≤ q) (A0 := fun q => κ.2.1 ≤ q) (H0 := s.heap) hr2 h4 (fun _ _ q => q) (fun _ q => q) ?_
  intro v u t H1 locs1 t1 _ p1 p2 _ _ t5
  unfold xTB at p2
  rw [t1] at p2
  exact kk v u p1 H1 locs1 ls p2 (fun q => by cases q) t5 ⟨lv, hlv, hlin⟩ (by show k1 + r'.2.1 ≤ r.2.1; omega) (by show k2 + r'.2.2 ≤ r.2.2; omega)
end LLAW
