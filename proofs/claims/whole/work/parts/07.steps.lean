theorem xrf_rf (b : Nat) (q : Option Nat) : va_rf (q.map (fun y => b + y)) = xcv b (xrf q) := by cases q <;> rfl
theorem and1_fits {x : Int32} (h : x &&& 1 = x) : fits .boolean (.int x) = true := by
  obtain ⟨j, hj, e⟩ := pk_andE x (m := 1) 1 (by decide)
  rw [h] at e
  subst e
  match j, hj with
  | 0, _ => rfl
  | 1, _ => rfl
theorem xrT_nf {t : FieldType} (h : xrT t = true) (a : Nat) : narrow t (.ref a) = .ref a ∧ fits t (.ref a) = true := by
  cases t <;> first | exact ⟨rfl, rfl⟩ | exact absurd h (by decide)
theorem x_upd (M : xM) (o j : Nat) (x : Int32) : upd (gI M o) j x = gI (sI M o j x) o := by
  funext q
  unfold upd
  by_cases h : q = j
  · subst h; rw [if_pos rfl, gI_self]
  · rw [if_neg h, gI_ne (Or.inr h)]
theorem x_updL (M : xM) (o j : Nat) (x : Int64) : vp_updL (gJ M o) j x = gJ (sJ M o j x) o := by
  funext q
  unfold vp_updL
  by_cases h : q = j
  · subst h; rw [if_pos rfl, gJ_self]
  · rw [if_neg h, gJ_ne (Or.inr h)]
theorem x_up {b : Nat} {ex : Bool} (M : xM) (o j x : Nat) (h : (ex || xdyn o j) = true) : va_up (xqs b ex M o) j (some (b + x)) = xqs b ex (sP M o j (some x)) o := by
  funext q
  unfold va_up xqs
  by_cases hq : q = j
  · subst hq; rw [if_pos rfl, xpr_self h]; rfl
  · rw [if_neg hq, xpr_ne (Or.inr hq)]
theorem x_cpy (M : xM) (o d i j n : Nat) : gI (sC M o i d j n) d = va_cpy (gI M o) (gI M d) i j n := by
  show (fun k' => bif Nat.beq d d then va_cpy (M.1 o) (M.1 d) i j n k' else M.1 d k') = _
  rw [beq_rf]
  rfl
theorem xset_va {κ : xKK} {ex : Bool} {M M' : xM} {n a : Nat} {e : xE} {x : va_E} {H1 : Heap} (ha : a < n) (he : shp[a]? = some e) (hx : x = xcell κ.2.1 κ.2.2.2 ex M' a e) (hoff : xOff ex M M' a) (g : va_P κ.2.2.1 vwCl ((xws κ ex M n).set a (κ.2.1 + a, x)) H1) : va_P κ.2.2.1 vwCl (xws κ ex M' n) H1 := by
  rw [xws_set ha he hx (fun a' ha e' => xcell_off hoff a' ha e')] at g
  exact g
section XPUT
variable {κ : xKK} {m : xMI} {r : xRm} {p : Program} {e : Env} {R : Room} {s : State} {me : MethodId} {args : Array Value} {below : List Frame} {meth : Method} {c : Code} {Q : State → Prop} {H : Heap} {locs : List Loc} {ls : Array Slot} {k1 k2 pc : Nat} {rest : List Value}
set_option maxHeartbeats 1000000 in
theorem xput {a b q n o d nn : Nat} {C : String} {T : u_T} {ty : Nat → FieldType} {ex : Bool} {M M' : xM} {x : Value} (hx : p.tables.exec = Jvm.exec) (hb : c.code = m.1.2.2) (hts : ∀ w ∈ GW, w.before args s = true) (hown : s.vm.findClass m.1.1 = some me.cls) (hK : va_K κ.2.2.1 vwCl (xtys κ.2.2.2) s)
    (hin : ∀ w ∈ u_ws C T n, w ∈ GW) (hnm : ∀ a, a < n → ∀ b, b < n → a ≠ b → (T a).2.1 ≠ (T b).2.1) (hlen : (xks.getD a []).length = n) (hty : ∀ k, k < n → parseFieldDescriptor (T k).2.2.1 = some (ty k)) (hcl : vwCl[a]? = some (C, T, n)) (hbn : b < n) (hw : Cond.fieldLink m.1.1 q (T b).1 (T b).2.1 (T b).2.2.1 ∈ GW)
    (hini : m.1.2.1.name = "<init>" → meth.name = "<init>") (hL : (!(T b).2.2.2 || (decide (m.1.2.1.name = "<init>") && decide ((T b).1 = m.1.1))) = true) (hd : decode m.1.2.2 pc = .ok (.putfield q, 3))
    (hs : shp[o]? = some (.inl a)) (hlt : o < nn) (h1 : va_P κ.2.2.1 vwCl (xws κ ex M nn) H) (h4 : va_S (fun q => κ.2.1 ≤ q) s.heap H locs)
    (hq : xfk a b = d) (hd9 : d ≠ 9) (hval : xval κ.2.1 ex M' o d b = x) (hoff : xOff ex M M' o) (hself : ∀ j d', j ≠ b → xval κ.2.1 ex M' o d' j = xval κ.2.1 ex M o d' j) (hn : narrow (ty b) x = x) (hfit : fits (ty b) x = true)
    (k : ∀ (H1 : Heap) (locs1 : List Loc), va_P κ.2.2.1 vwCl (xws κ ex M' nn) H1 → va_S (fun q => κ.2.1 ≤ q) s.heap H1 locs1 → W p κ.1 e R s me args below meth c H1 locs1 k1 k2 Q (F0 me (pc + 3) ls rest)) : W p κ.1 e R s me args below meth c H locs k1 k2 Q (F0 me pc ls (x :: .ref (κ.2.1 + o) :: rest)) := by
  have hset : ∀ H1, va_P κ.2.2.1 vwCl ((xws κ ex M nn).set o (κ.2.1 + o, .inr (a, (xfs κ.2.1 ex M o (xks.getD a [])).set b x))) H1 → va_P κ.2.2.1 vwCl (xws κ ex M' nn) H1 := by
    intro H1 g
    rw [xws_set (M' := M') hlt hs (by rw [xfs_set (xfk_at hq hd9) hval hself]; rfl) (fun a' ha e' => xcell_off hoff a' ha e')] at g
    exact g
  cases hf : (T b).2.2.2 with
  | false => exact va_put hx hb hts hin ty hty hnm hown hK h1 (xwsD κ ex M nn) h4 o (xws_at hlt hs) hcl b hbn (hts _ hw) (fun _ h => h) hf (hty b hbn) hn hfit (by rw [xfs_len, hlen]; exact hbn) hd (fun H1 locs1 g1 _ g3 => k H1 locs1 (hset H1 g1) g3)
  | true =>
    rw [hf] at hL
    have hL : (decide (m.1.2.1.name = "<init>") && decide ((T b).1 = m.1.1)) = true := hL
    rw [Bool.and_eq_true] at hL
    exact va_putF hx hb hts hin ty hty hnm hown hK h1 (xwsD κ ex M nn) h4 o (xws_at hlt hs) hcl b hbn (hts _ hw) (fun _ h => h) hf (hini (of_decide_eq_true hL.1)) (of_decide_eq_true hL.2) (hty b hbn) hn hfit (by rw [xfs_len, hlen]; exact hbn) hd (fun H1 locs1 g1 _ g3 => k H1 locs1 (hset H1 g1) g3)
end XPUT
theorem xw1 {w : Cond} (h : (lw_tbl.contains w && goodWord w) = true) : w ∈ GW := by
  rw [Bool.and_eq_true] at h
  exact List.mem_filter.mpr ⟨List.contains_iff_mem.mp h.1, h.2⟩
theorem gw_max_s : Cond.static Lib.Math.max.name ∈ GW := xw1 (by decide +kernel)
theorem gw_max_c : Cond.code Lib.Math.max.name Lib.Math.max.code 2 (some .int) ∈ GW := xw1 (by decide +kernel)
theorem gw_min_s : Cond.static Lib.Math.min.name ∈ GW := xw1 (by decide +kernel)
theorem gw_min_c : Cond.code Lib.Math.min.name Lib.Math.min.code 2 (some .int) ∈ GW := xw1 (by decide +kernel)
theorem gw_abs_s : Cond.static Lib.Math.abs.name ∈ GW := xw1 (by decide +kernel)
theorem gw_abs_c : Cond.code Lib.Math.abs.name Lib.Math.abs.code 1 (some .int) ∈ GW := xw1 (by decide +kernel)
theorem gw_maxl_s : Cond.static Lib.MathLoose.max_long.x ∈ GW := xw1 (by decide +kernel)
theorem gw_maxl_c : Cond.code Lib.MathLoose.max_long.x Lib.MathLoose.max_long.code 4 (some .long) ∈ GW := xw1 (by decide +kernel)
theorem gw_minl_s : Cond.static Lib.MathLoose.min_long.x ∈ GW := xw1 (by decide +kernel)
theorem gw_minl_c : Cond.code Lib.MathLoose.min_long.x Lib.MathLoose.min_long.code 4 (some .long) ∈ GW := xw1 (by decide +kernel)
theorem gw_absl_s : Cond.static Lib.MathLoose.abs_long.x ∈ GW := xw1 (by decide +kernel)
theorem gw_absl_c : Cond.code Lib.MathLoose.abs_long.x Lib.MathLoose.abs_long.code 2 (some .long) ∈ GW := xw1 (by decide +kernel)
theorem gw_math : Cond.initialized "java/lang/Math" ∈ GW := xw1 (by decide +kernel)
theorem gw_sys : Cond.initialized "java/lang/System" ∈ GW := xw1 (by decide +kernel)
theorem gw_cpy_s : Cond.static arraycopyName ∈ GW := xw1 (by decide +kernel)
theorem gw_cpy_n : Cond.native arraycopyName ∈ GW := xw1 (by decide +kernel)
theorem nfw : nativeFrameWords "java/lang/System" "arraycopy" 5 ≤ 20 := by decide +kernel

section XSTEP
variable {κ : xKK} {m : xMI} {r : xRm} {p : Program} {e : Env} {R : Room} {s : State} {me : MethodId} {args : Array Value} {below : List Frame} {meth : Method} {c : Code} {Q : State → Prop} {P P' : Prop} {pc nx a b c' : Nat} {v : Int32} {w : Int64} {L : xLc} {st : List Value} {M : xM} {z : xZ} {X' : xX}

theorem xs_iadd (hC : xC κ m r p e R s me args below meth c) (hl : xat m pc = some (.iadd, nx, (a, b, c'), v, w)) (h : xst (.iadd, nx, (a, b, c'), v, w) P (pc, L, st, M, z) = some (P', X')) (hP : P') (k : xA κ m r p e R s me args below meth c Q X') : P ∧ xA κ m r p e R s me args below meth c Q (pc, L, st, M, z) := by
  have he := xat_ck hl hC.2.2.2.2.2.2.2.2.2.2.2.2.1
  have hL := xckL_at hl hC.2.2.2.2.2.2.2.2.2.2.2.2.2
  obtain ⟨hd, hn, ho⟩ := xck_d he rfl
  obtain ⟨hx, hb, hml, hown, hts, hK, hfr, hlo, hce, hsl, hsz, hini, -, -⟩ := hC
  dsimp only [xil] at hd hn
  subst hn
  unfold xst at h
  dsimp only at h
  split at h
  · cases h
    exact ⟨hP, fun H locs ls h1 h3 h4 h5 h6 h7 => lv_iadd hx hb hd (k H locs ls h1 h3 h4 h5 h6 h7)⟩
  · cases h
theorem xs_isub (hC : xC κ m r p e R s me args below meth c) (hl : xat m pc = some (.isub, nx, (a, b, c'), v, w)) (h : xst (.isub, nx, (a, b, c'), v, w) P (pc, L, st, M, z) = some (P', X')) (hP : P') (k : xA κ m r p e R s me args below meth c Q X') : P ∧ xA κ m r p e R s me args below meth c Q (pc, L, st, M, z) := by
  have he := xat_ck hl hC.2.2.2.2.2.2.2.2.2.2.2.2.1
  have hL := xckL_at hl hC.2.2.2.2.2.2.2.2.2.2.2.2.2
  obtain ⟨hd, hn, ho⟩ := xck_d he rfl
  obtain ⟨hx, hb, hml, hown, hts, hK, hfr, hlo, hce, hsl, hsz, hini, -, -⟩ := hC
  dsimp only [xil] at hd hn
  subst hn
  unfold xst at h
  dsimp only at h
  split at h
  · cases h
    exact ⟨hP, fun H locs ls h1 h3 h4 h5 h6 h7 => lv_isub hx hb hd (k H locs ls h1 h3 h4 h5 h6 h7)⟩
  · cases h
theorem xs_imul (hC : xC κ m r p e R s me args below meth c) (hl : xat m pc = some (.imul, nx, (a, b, c'), v, w)) (h : xst (.imul, nx, (a, b, c'), v, w) P (pc, L, st, M, z) = some (P', X')) (hP : P') (k : xA κ m r p e R s me args below meth c Q X') : P ∧ xA κ m r p e R s me args below meth c Q (pc, L, st, M, z) := by
  have he := xat_ck hl hC.2.2.2.2.2.2.2.2.2.2.2.2.1
  have hL := xckL_at hl hC.2.2.2.2.2.2.2.2.2.2.2.2.2
  obtain ⟨hd, hn, ho⟩ := xck_d he rfl
  obtain ⟨hx, hb, hml, hown, hts, hK, hfr, hlo, hce, hsl, hsz, hini, -, -⟩ := hC
  dsimp only [xil] at hd hn
  subst hn
  unfold xst at h
  dsimp only at h
  split at h
  · cases h
    exact ⟨hP, fun H locs ls h1 h3 h4 h5 h6 h7 => lv_imul hx hb hd (k H locs ls h1 h3 h4 h5 h6 h7)⟩
  · cases h
theorem xs_iand (hC : xC κ m r p e R s me args below meth c) (hl : xat m pc = some (.iand, nx, (a, b, c'), v, w)) (h : xst (.iand, nx, (a, b, c'), v, w) P (pc, L, st, M, z) = some (P', X')) (hP : P') (k : xA κ m r p e R s me args below meth c Q X') : P ∧ xA κ m r p e R s me args below meth c Q (pc, L, st, M, z) := by
  have he := xat_ck hl hC.2.2.2.2.2.2.2.2.2.2.2.2.1
  have hL := xckL_at hl hC.2.2.2.2.2.2.2.2.2.2.2.2.2
  obtain ⟨hd, hn, ho⟩ := xck_d he rfl
  obtain ⟨hx, hb, hml, hown, hts, hK, hfr, hlo, hce, hsl, hsz, hini, -, -⟩ := hC
  dsimp only [xil] at hd hn
  subst hn
  unfold xst at h
  dsimp only at h
  split at h
  · cases h
    exact ⟨hP, fun H locs ls h1 h3 h4 h5 h6 h7 => lv_iand hx hb hd (k H locs ls h1 h3 h4 h5 h6 h7)⟩
  · cases h
theorem xs_ior (hC : xC κ m r p e R s me args below meth c) (hl : xat m pc = some (.ior, nx, (a, b, c'), v, w)) (h : xst (.ior, nx, (a, b, c'), v, w) P (pc, L, st, M, z) = some (P', X')) (hP : P') (k : xA κ m r p e R s me args below meth c Q X') : P ∧ xA κ m r p e R s me args below meth c Q (pc, L, st, M, z) := by
  have he := xat_ck hl hC.2.2.2.2.2.2.2.2.2.2.2.2.1
  have hL := xckL_at hl hC.2.2.2.2.2.2.2.2.2.2.2.2.2
  obtain ⟨hd, hn, ho⟩ := xck_d he rfl
  obtain ⟨hx, hb, hml, hown, hts, hK, hfr, hlo, hce, hsl, hsz, hini, -, -⟩ := hC
  dsimp only [xil] at hd hn
  subst hn
  unfold xst at h
  dsimp only at h
  split at h
  · cases h
    exact ⟨hP, fun H locs ls h1 h3 h4 h5 h6 h7 => lv_ior hx hb hd (k H locs ls h1 h3 h4 h5 h6 h7)⟩
  · cases h
theorem xs_ixor (hC : xC κ m r p e R s me args below meth c) (hl : xat m pc = some (.ixor, nx, (a, b, c'), v, w)) (h : xst (.ixor, nx, (a, b, c'), v, w) P (pc, L, st, M, z) = some (P', X')) (hP : P') (k : xA κ m r p e R s me args below meth c Q X') : P ∧ xA κ m r p e R s me args below meth c Q (pc, L, st, M, z) := by
  have he := xat_ck hl hC.2.2.2.2.2.2.2.2.2.2.2.2.1
  have hL := xckL_at hl hC.2.2.2.2.2.2.2.2.2.2.2.2.2
  obtain ⟨hd, hn, ho⟩ := xck_d he rfl
  obtain ⟨hx, hb, hml, hown, hts, hK, hfr, hlo, hce, hsl, hsz, hini, -, -⟩ := hC
  dsimp only [xil] at hd hn
  subst hn
  unfold xst at h
  dsimp only at h
  split at h
  · cases h
    exact ⟨hP, fun H locs ls h1 h3 h4 h5 h6 h7 => lv_ixor hx hb hd (k H locs ls h1 h3 h4 h5 h6 h7)⟩
  · cases h
theorem xs_ineg (hC : xC κ m r p e R s me args below meth c) (hl : xat m pc = some (.ineg, nx, (a, b, c'), v, w)) (h : xst (.ineg, nx, (a, b, c'), v, w) P (pc, L, st, M, z) = some (P', X')) (hP : P') (k : xA κ m r p e R s me args below meth c Q X') : P ∧ xA κ m r p e R s me args below meth c Q (pc, L, st, M, z) := by
  have he := xat_ck hl hC.2.2.2.2.2.2.2.2.2.2.2.2.1
  have hL := xckL_at hl hC.2.2.2.2.2.2.2.2.2.2.2.2.2
  obtain ⟨hd, hn, ho⟩ := xck_d he rfl
  obtain ⟨hx, hb, hml, hown, hts, hK, hfr, hlo, hce, hsl, hsz, hini, -, -⟩ := hC
  dsimp only [xil] at hd hn
  subst hn
  unfold xst at h
  dsimp only at h
  split at h
  · cases h
    exact ⟨hP, fun H locs ls h1 h3 h4 h5 h6 h7 => lv_ineg hx hb hd (k H locs ls h1 h3 h4 h5 h6 h7)⟩
  · cases h
theorem xs_ishl (hC : xC κ m r p e R s me args below meth c) (hl : xat m pc = some (.ishl, nx, (a, b, c'), v, w)) (h : xst (.ishl, nx, (a, b, c'), v, w) P (pc, L, st, M, z) = some (P', X')) (hP : P') (k : xA κ m r p e R s me args below meth c Q X') : P ∧ xA κ m r p e R s me args below meth c Q (pc, L, st, M, z) := by
  have he := xat_ck hl hC.2.2.2.2.2.2.2.2.2.2.2.2.1
  have hL := xckL_at hl hC.2.2.2.2.2.2.2.2.2.2.2.2.2
  obtain ⟨hd, hn, ho⟩ := xck_d he rfl
  obtain ⟨hx, hb, hml, hown, hts, hK, hfr, hlo, hce, hsl, hsz, hini, -, -⟩ := hC
  dsimp only [xil] at hd hn
  subst hn
  unfold xst at h
  dsimp only at h
  split at h
  · cases h
    exact ⟨hP, fun H locs ls h1 h3 h4 h5 h6 h7 => lv_ishl hx hb hd (k H locs ls h1 h3 h4 h5 h6 h7)⟩
  · cases h
theorem xs_ishr (hC : xC κ m r p e R s me args below meth c) (hl : xat m pc = some (.ishr, nx, (a, b, c'), v, w)) (h : xst (.ishr, nx, (a, b, c'), v, w) P (pc, L, st, M, z) = some (P', X')) (hP : P') (k : xA κ m r p e R s me args below meth c Q X') : P ∧ xA κ m r p e R s me args below meth c Q (pc, L, st, M, z) := by
  have he := xat_ck hl hC.2.2.2.2.2.2.2.2.2.2.2.2.1
  have hL := xckL_at hl hC.2.2.2.2.2.2.2.2.2.2.2.2.2
  obtain ⟨hd, hn, ho⟩ := xck_d he rfl
  obtain ⟨hx, hb, hml, hown, hts, hK, hfr, hlo, hce, hsl, hsz, hini, -, -⟩ := hC
  dsimp only [xil] at hd hn
  subst hn
  unfold xst at h
  dsimp only at h
  split at h
  · cases h
    exact ⟨hP, fun H locs ls h1 h3 h4 h5 h6 h7 => lv_ishr hx hb hd (k H locs ls h1 h3 h4 h5 h6 h7)⟩
  · cases h
theorem xs_ladd (hC : xC κ m r p e R s me args below meth c) (hl : xat m pc = some (.ladd, nx, (a, b, c'), v, w)) (h : xst (.ladd, nx, (a, b, c'), v, w) P (pc, L, st, M, z) = some (P', X')) (hP : P') (k : xA κ m r p e R s me args below meth c Q X') : P ∧ xA κ m r p e R s me args below meth c Q (pc, L, st, M, z) := by
  have he := xat_ck hl hC.2.2.2.2.2.2.2.2.2.2.2.2.1
  have hL := xckL_at hl hC.2.2.2.2.2.2.2.2.2.2.2.2.2
  obtain ⟨hd, hn, ho⟩ := xck_d he rfl
  obtain ⟨hx, hb, hml, hown, hts, hK, hfr, hlo, hce, hsl, hsz, hini, -, -⟩ := hC
  dsimp only [xil] at hd hn
  subst hn
  unfold xst at h
  dsimp only at h
  split at h
  · cases h
    exact ⟨hP, fun H locs ls h1 h3 h4 h5 h6 h7 => lv_ladd hx hb hd (k H locs ls h1 h3 h4 h5 h6 h7)⟩
  · cases h
theorem xs_lsub (hC : xC κ m r p e R s me args below meth c) (hl : xat m pc = some (.lsub, nx, (a, b, c'), v, w)) (h : xst (.lsub, nx, (a, b, c'), v, w) P (pc, L, st, M, z) = some (P', X')) (hP : P') (k : xA κ m r p e R s me args below meth c Q X') : P ∧ xA κ m r p e R s me args below meth c Q (pc, L, st, M, z) := by
  have he := xat_ck hl hC.2.2.2.2.2.2.2.2.2.2.2.2.1
  have hL := xckL_at hl hC.2.2.2.2.2.2.2.2.2.2.2.2.2
  obtain ⟨hd, hn, ho⟩ := xck_d he rfl
  obtain ⟨hx, hb, hml, hown, hts, hK, hfr, hlo, hce, hsl, hsz, hini, -, -⟩ := hC
  dsimp only [xil] at hd hn
  subst hn
  unfold xst at h
  dsimp only at h
  split at h
  · cases h
    exact ⟨hP, fun H locs ls h1 h3 h4 h5 h6 h7 => lv_lsub hx hb hd (k H locs ls h1 h3 h4 h5 h6 h7)⟩
  · cases h
theorem xs_lmul (hC : xC κ m r p e R s me args below meth c) (hl : xat m pc = some (.lmul, nx, (a, b, c'), v, w)) (h : xst (.lmul, nx, (a, b, c'), v, w) P (pc, L, st, M, z) = some (P', X')) (hP : P') (k : xA κ m r p e R s me args below meth c Q X') : P ∧ xA κ m r p e R s me args below meth c Q (pc, L, st, M, z) := by
  have he := xat_ck hl hC.2.2.2.2.2.2.2.2.2.2.2.2.1
  have hL := xckL_at hl hC.2.2.2.2.2.2.2.2.2.2.2.2.2
  obtain ⟨hd, hn, ho⟩ := xck_d he rfl
  obtain ⟨hx, hb, hml, hown, hts, hK, hfr, hlo, hce, hsl, hsz, hini, -, -⟩ := hC
  dsimp only [xil] at hd hn
  subst hn
  unfold xst at h
  dsimp only at h
  split at h
  · cases h
    exact ⟨hP, fun H locs ls h1 h3 h4 h5 h6 h7 => lv_lmul hx hb hd (k H locs ls h1 h3 h4 h5 h6 h7)⟩
  · cases h
theorem xs_lor (hC : xC κ m r p e R s me args below meth c) (hl : xat m pc = some (.lor, nx, (a, b, c'), v, w)) (h : xst (.lor, nx, (a, b, c'), v, w) P (pc, L, st, M, z) = some (P', X')) (hP : P') (k : xA κ m r p e R s me args below meth c Q X') : P ∧ xA κ m r p e R s me args below meth c Q (pc, L, st, M, z) := by
  have he := xat_ck hl hC.2.2.2.2.2.2.2.2.2.2.2.2.1
  have hL := xckL_at hl hC.2.2.2.2.2.2.2.2.2.2.2.2.2
  obtain ⟨hd, hn, ho⟩ := xck_d he rfl
  obtain ⟨hx, hb, hml, hown, hts, hK, hfr, hlo, hce, hsl, hsz, hini, -, -⟩ := hC
  dsimp only [xil] at hd hn
  subst hn
  unfold xst at h
  dsimp only at h
  split at h
  · cases h
    exact ⟨hP, fun H locs ls h1 h3 h4 h5 h6 h7 => lv_lor hx hb hd (k H locs ls h1 h3 h4 h5 h6 h7)⟩
  · cases h
theorem xs_lneg (hC : xC κ m r p e R s me args below meth c) (hl : xat m pc = some (.lneg, nx, (a, b, c'), v, w)) (h : xst (.lneg, nx, (a, b, c'), v, w) P (pc, L, st, M, z) = some (P', X')) (hP : P') (k : xA κ m r p e R s me args below meth c Q X') : P ∧ xA κ m r p e R s me args below meth c Q (pc, L, st, M, z) := by
  have he := xat_ck hl hC.2.2.2.2.2.2.2.2.2.2.2.2.1
  have hL := xckL_at hl hC.2.2.2.2.2.2.2.2.2.2.2.2.2
  obtain ⟨hd, hn, ho⟩ := xck_d he rfl
  obtain ⟨hx, hb, hml, hown, hts, hK, hfr, hlo, hce, hsl, hsz, hini, -, -⟩ := hC
  dsimp only [xil] at hd hn
  subst hn
  unfold xst at h
  dsimp only at h
  split at h
  · cases h
    exact ⟨hP, fun H locs ls h1 h3 h4 h5 h6 h7 => lv_lneg hx hb hd (k H locs ls h1 h3 h4 h5 h6 h7)⟩
  · cases h
theorem xs_lcmp (hC : xC κ m r p e R s me args below meth c) (hl : xat m pc = some (.lcmp, nx, (a, b, c'), v, w)) (h : xst (.lcmp, nx, (a, b, c'), v, w) P (pc, L, st, M, z) = some (P', X')) (hP : P') (k : xA κ m r p e R s me args below meth c Q X') : P ∧ xA κ m r p e R s me args below meth c Q (pc, L, st, M, z) := by
  have he := xat_ck hl hC.2.2.2.2.2.2.2.2.2.2.2.2.1
  have hL := xckL_at hl hC.2.2.2.2.2.2.2.2.2.2.2.2.2
  obtain ⟨hd, hn, ho⟩ := xck_d he rfl
  obtain ⟨hx, hb, hml, hown, hts, hK, hfr, hlo, hce, hsl, hsz, hini, -, -⟩ := hC
  dsimp only [xil] at hd hn
  subst hn
  unfold xst at h
  dsimp only at h
  split at h
  · cases h
    exact ⟨hP, fun H locs ls h1 h3 h4 h5 h6 h7 => W.lcmp hx hb hd (k H locs ls h1 h3 h4 h5 h6 h7)⟩
  · cases h
theorem xs_iushr (hC : xC κ m r p e R s me args below meth c) (hl : xat m pc = some (.iushr, nx, (a, b, c'), v, w)) (h : xst (.iushr, nx, (a, b, c'), v, w) P (pc, L, st, M, z) = some (P', X')) (hP : P') (k : xA κ m r p e R s me args below meth c Q X') : P ∧ xA κ m r p e R s me args below meth c Q (pc, L, st, M, z) := by
  have he := xat_ck hl hC.2.2.2.2.2.2.2.2.2.2.2.2.1
  have hL := xckL_at hl hC.2.2.2.2.2.2.2.2.2.2.2.2.2
  obtain ⟨hd, hn, ho⟩ := xck_d he rfl
  obtain ⟨hx, hb, hml, hown, hts, hK, hfr, hlo, hce, hsl, hsz, hini, -, -⟩ := hC
  dsimp only [xil] at hd hn
  subst hn
  unfold xst at h
  dsimp only at h
  split at h
  · cases h
    exact ⟨hP, fun H locs ls h1 h3 h4 h5 h6 h7 => lv_iushr hx hb hd rfl (k H locs ls h1 h3 h4 h5 h6 h7)⟩
  · cases h
theorem xs_lshl (hC : xC κ m r p e R s me args below meth c) (hl : xat m pc = some (.lshl, nx, (a, b, c'), v, w)) (h : xst (.lshl, nx, (a, b, c'), v, w) P (pc, L, st, M, z) = some (P', X')) (hP : P') (k : xA κ m r p e R s me args below meth c Q X') : P ∧ xA κ m r p e R s me args below meth c Q (pc, L, st, M, z) := by
  have he := xat_ck hl hC.2.2.2.2.2.2.2.2.2.2.2.2.1
  have hL := xckL_at hl hC.2.2.2.2.2.2.2.2.2.2.2.2.2
  obtain ⟨hd, hn, ho⟩ := xck_d he rfl
  obtain ⟨hx, hb, hml, hown, hts, hK, hfr, hlo, hce, hsl, hsz, hini, -, -⟩ := hC
  dsimp only [xil] at hd hn
  subst hn
  unfold xst at h
  dsimp only at h
  split at h
  · cases h
    exact ⟨hP, fun H locs ls h1 h3 h4 h5 h6 h7 => lv_lshl hx hb hd rfl (k H locs ls h1 h3 h4 h5 h6 h7)⟩
  · cases h
theorem xs_i2l (hC : xC κ m r p e R s me args below meth c) (hl : xat m pc = some (.i2l, nx, (a, b, c'), v, w)) (h : xst (.i2l, nx, (a, b, c'), v, w) P (pc, L, st, M, z) = some (P', X')) (hP : P') (k : xA κ m r p e R s me args below meth c Q X') : P ∧ xA κ m r p e R s me args below meth c Q (pc, L, st, M, z) := by
  have he := xat_ck hl hC.2.2.2.2.2.2.2.2.2.2.2.2.1
  have hL := xckL_at hl hC.2.2.2.2.2.2.2.2.2.2.2.2.2
  obtain ⟨hd, hn, ho⟩ := xck_d he rfl
  obtain ⟨hx, hb, hml, hown, hts, hK, hfr, hlo, hce, hsl, hsz, hini, -, -⟩ := hC
  dsimp only [xil] at hd hn
  subst hn
  unfold xst at h
  dsimp only at h
  split at h
  · cases h
    exact ⟨hP, fun H locs ls h1 h3 h4 h5 h6 h7 => lv_i2l hx hb hd rfl (k H locs ls h1 h3 h4 h5 h6 h7)⟩
  · cases h
theorem xs_l2i (hC : xC κ m r p e R s me args below meth c) (hl : xat m pc = some (.l2i, nx, (a, b, c'), v, w)) (h : xst (.l2i, nx, (a, b, c'), v, w) P (pc, L, st, M, z) = some (P', X')) (hP : P') (k : xA κ m r p e R s me args below meth c Q X') : P ∧ xA κ m r p e R s me args below meth c Q (pc, L, st, M, z) := by
  have he := xat_ck hl hC.2.2.2.2.2.2.2.2.2.2.2.2.1
  have hL := xckL_at hl hC.2.2.2.2.2.2.2.2.2.2.2.2.2
  obtain ⟨hd, hn, ho⟩ := xck_d he rfl
  obtain ⟨hx, hb, hml, hown, hts, hK, hfr, hlo, hce, hsl, hsz, hini, -, -⟩ := hC
  dsimp only [xil] at hd hn
  subst hn
  unfold xst at h
  dsimp only at h
  split at h
  · cases h
    exact ⟨hP, fun H locs ls h1 h3 h4 h5 h6 h7 => lv_l2i hx hb hd rfl (k H locs ls h1 h3 h4 h5 h6 h7)⟩
  · cases h
theorem xs_i2b (hC : xC κ m r p e R s me args below meth c) (hl : xat m pc = some (.i2b, nx, (a, b, c'), v, w)) (h : xst (.i2b, nx, (a, b, c'), v, w) P (pc, L, st, M, z) = some (P', X')) (hP : P') (k : xA κ m r p e R s me args below meth c Q X') : P ∧ xA κ m r p e R s me args below meth c Q (pc, L, st, M, z) := by
  have he := xat_ck hl hC.2.2.2.2.2.2.2.2.2.2.2.2.1
  have hL := xckL_at hl hC.2.2.2.2.2.2.2.2.2.2.2.2.2
  obtain ⟨hd, hn, ho⟩ := xck_d he rfl
  obtain ⟨hx, hb, hml, hown, hts, hK, hfr, hlo, hce, hsl, hsz, hini, -, -⟩ := hC
  dsimp only [xil] at hd hn
  subst hn
  unfold xst at h
  dsimp only at h
  split at h
  · cases h
    exact ⟨hP, fun H locs ls h1 h3 h4 h5 h6 h7 => lv_i2b hx hb hd rfl (k H locs ls h1 h3 h4 h5 h6 h7)⟩
  · cases h
theorem xs_i2s (hC : xC κ m r p e R s me args below meth c) (hl : xat m pc = some (.i2s, nx, (a, b, c'), v, w)) (h : xst (.i2s, nx, (a, b, c'), v, w) P (pc, L, st, M, z) = some (P', X')) (hP : P') (k : xA κ m r p e R s me args below meth c Q X') : P ∧ xA κ m r p e R s me args below meth c Q (pc, L, st, M, z) := by
  have he := xat_ck hl hC.2.2.2.2.2.2.2.2.2.2.2.2.1
  have hL := xckL_at hl hC.2.2.2.2.2.2.2.2.2.2.2.2.2
  obtain ⟨hd, hn, ho⟩ := xck_d he rfl
  obtain ⟨hx, hb, hml, hown, hts, hK, hfr, hlo, hce, hsl, hsz, hini, -, -⟩ := hC
  dsimp only [xil] at hd hn
  subst hn
  unfold xst at h
  dsimp only at h
  split at h
  · cases h
    exact ⟨hP, fun H locs ls h1 h3 h4 h5 h6 h7 => lv_i2s hx hb hd rfl (k H locs ls h1 h3 h4 h5 h6 h7)⟩
  · cases h
theorem xs_dup (hC : xC κ m r p e R s me args below meth c) (hl : xat m pc = some (.dup, nx, (a, b, c'), v, w)) (h : xst (.dup, nx, (a, b, c'), v, w) P (pc, L, st, M, z) = some (P', X')) (hP : P') (k : xA κ m r p e R s me args below meth c Q X') : P ∧ xA κ m r p e R s me args below meth c Q (pc, L, st, M, z) := by
  have he := xat_ck hl hC.2.2.2.2.2.2.2.2.2.2.2.2.1
  have hL := xckL_at hl hC.2.2.2.2.2.2.2.2.2.2.2.2.2
  obtain ⟨hd, hn, ho⟩ := xck_d he rfl
  obtain ⟨hx, hb, hml, hown, hts, hK, hfr, hlo, hce, hsl, hsz, hini, -, -⟩ := hC
  dsimp only [xil] at hd hn
  subst hn
  unfold xst at h
  dsimp only at h
  split at h
  · cases h
    exact ⟨hP, fun H locs ls h1 h3 h4 h5 h6 h7 => lv_dup hx hb hd rfl (k H locs ls h1 h3 h4 h5 h6 h7)⟩
  · cases h
    exact ⟨hP, fun H locs ls h1 h3 h4 h5 h6 h7 => lv_dup hx hb hd rfl (k H locs ls h1 h3 h4 h5 h6 h7)⟩
  · cases h
theorem xs_dup2 (hC : xC κ m r p e R s me args below meth c) (hl : xat m pc = some (.dup2, nx, (a, b, c'), v, w)) (h : xst (.dup2, nx, (a, b, c'), v, w) P (pc, L, st, M, z) = some (P', X')) (hP : P') (k : xA κ m r p e R s me args below meth c Q X') : P ∧ xA κ m r p e R s me args below meth c Q (pc, L, st, M, z) := by
  have he := xat_ck hl hC.2.2.2.2.2.2.2.2.2.2.2.2.1
  have hL := xckL_at hl hC.2.2.2.2.2.2.2.2.2.2.2.2.2
  obtain ⟨hd, hn, ho⟩ := xck_d he rfl
  obtain ⟨hx, hb, hml, hown, hts, hK, hfr, hlo, hce, hsl, hsz, hini, -, -⟩ := hC
  dsimp only [xil] at hd hn
  subst hn
  unfold xst at h
  dsimp only at h
  split at h
  · cases h
    exact ⟨hP, fun H locs ls h1 h3 h4 h5 h6 h7 => lv_dup2_2 hx hb hd rfl (k H locs ls h1 h3 h4 h5 h6 h7)⟩
  · cases h
    exact ⟨hP, fun H locs ls h1 h3 h4 h5 h6 h7 => lv_dup2_11 hx hb hd rfl rfl (k H locs ls h1 h3 h4 h5 h6 h7)⟩
  · cases h
theorem xs_idiv (hC : xC κ m r p e R s me args below meth c) (hl : xat m pc = some (.idiv, nx, (a, b, c'), v, w)) (h : xst (.idiv, nx, (a, b, c'), v, w) P (pc, L, st, M, z) = some (P', X')) (hP : P') (k : xA κ m r p e R s me args below meth c Q X') : P ∧ xA κ m r p e R s me args below meth c Q (pc, L, st, M, z) := by
  have he := xat_ck hl hC.2.2.2.2.2.2.2.2.2.2.2.2.1
  have hL := xckL_at hl hC.2.2.2.2.2.2.2.2.2.2.2.2.2
  obtain ⟨hd, hn, ho⟩ := xck_d he rfl
  obtain ⟨hx, hb, hml, hown, hts, hK, hfr, hlo, hce, hsl, hsz, hini, -, -⟩ := hC
  dsimp only [xil] at hd hn
  subst hn
  unfold xst at h
  dsimp only at h
  split at h
  · cases h
    exact ⟨hP.2, fun H locs ls h1 h3 h4 h5 h6 h7 => lv_idiv hx hb hd hP.1 (k H locs ls h1 h3 h4 h5 h6 h7)⟩
  · cases h
theorem xs_irem (hC : xC κ m r p e R s me args below meth c) (hl : xat m pc = some (.irem, nx, (a, b, c'), v, w)) (h : xst (.irem, nx, (a, b, c'), v, w) P (pc, L, st, M, z) = some (P', X')) (hP : P') (k : xA κ m r p e R s me args below meth c Q X') : P ∧ xA κ m r p e R s me args below meth c Q (pc, L, st, M, z) := by
  have he := xat_ck hl hC.2.2.2.2.2.2.2.2.2.2.2.2.1
  have hL := xckL_at hl hC.2.2.2.2.2.2.2.2.2.2.2.2.2
  obtain ⟨hd, hn, ho⟩ := xck_d he rfl
  obtain ⟨hx, hb, hml, hown, hts, hK, hfr, hlo, hce, hsl, hsz, hini, -, -⟩ := hC
  dsimp only [xil] at hd hn
  subst hn
  unfold xst at h
  dsimp only at h
  split at h
  · cases h
    exact ⟨hP.2, fun H locs ls h1 h3 h4 h5 h6 h7 => lv_irem hx hb hd hP.1 (k H locs ls h1 h3 h4 h5 h6 h7)⟩
  · cases h
theorem xs_ldiv (hC : xC κ m r p e R s me args below meth c) (hl : xat m pc = some (.ldiv, nx, (a, b, c'), v, w)) (h : xst (.ldiv, nx, (a, b, c'), v, w) P (pc, L, st, M, z) = some (P', X')) (hP : P') (k : xA κ m r p e R s me args below meth c Q X') : P ∧ xA κ m r p e R s me args below meth c Q (pc, L, st, M, z) := by
  have he := xat_ck hl hC.2.2.2.2.2.2.2.2.2.2.2.2.1
  have hL := xckL_at hl hC.2.2.2.2.2.2.2.2.2.2.2.2.2
  obtain ⟨hd, hn, ho⟩ := xck_d he rfl
  obtain ⟨hx, hb, hml, hown, hts, hK, hfr, hlo, hce, hsl, hsz, hini, -, -⟩ := hC
  dsimp only [xil] at hd hn
  subst hn
  unfold xst at h
  dsimp only at h
  split at h
  · cases h
    exact ⟨hP.2, fun H locs ls h1 h3 h4 h5 h6 h7 => lv_ldiv hx hb hd hP.1 (k H locs ls h1 h3 h4 h5 h6 h7)⟩
  · cases h
theorem xs_iconst {q : Int} (hC : xC κ m r p e R s me args below meth c) (hl : xat m pc = some (.iconst q, nx, (a, b, c'), v, w)) (h : xst (.iconst q, nx, (a, b, c'), v, w) P (pc, L, st, M, z) = some (P', X')) (hP : P') (k : xA κ m r p e R s me args below meth c Q X') : P ∧ xA κ m r p e R s me args below meth c Q (pc, L, st, M, z) := by
  have he := xat_ck hl hC.2.2.2.2.2.2.2.2.2.2.2.2.1
  have hL := xckL_at hl hC.2.2.2.2.2.2.2.2.2.2.2.2.2
  obtain ⟨hd, hn, ho⟩ := xck_d he rfl
  obtain ⟨hx, hb, hml, hown, hts, hK, hfr, hlo, hce, hsl, hsz, hini, -, -⟩ := hC
  dsimp only [xil] at hd hn
  subst hn
  unfold xst at h
  dsimp only at h
  cases h
  exact ⟨hP, fun H locs ls h1 h3 h4 h5 h6 h7 => lv_iconst hx hb hd (of_decide_eq_true ho) (k H locs ls h1 h3 h4 h5 h6 h7)⟩
theorem xs_bipush {q : Int} (hC : xC κ m r p e R s me args below meth c) (hl : xat m pc = some (.bipush q, nx, (a, b, c'), v, w)) (h : xst (.bipush q, nx, (a, b, c'), v, w) P (pc, L, st, M, z) = some (P', X')) (hP : P') (k : xA κ m r p e R s me args below meth c Q X') : P ∧ xA κ m r p e R s me args below meth c Q (pc, L, st, M, z) := by
  have he := xat_ck hl hC.2.2.2.2.2.2.2.2.2.2.2.2.1
  have hL := xckL_at hl hC.2.2.2.2.2.2.2.2.2.2.2.2.2
  obtain ⟨hd, hn, ho⟩ := xck_d he rfl
  obtain ⟨hx, hb, hml, hown, hts, hK, hfr, hlo, hce, hsl, hsz, hini, -, -⟩ := hC
  dsimp only [xil] at hd hn
  subst hn
  unfold xst at h
  dsimp only at h
  cases h
  exact ⟨hP, fun H locs ls h1 h3 h4 h5 h6 h7 => lv_bipush hx hb hd (of_decide_eq_true ho) (k H locs ls h1 h3 h4 h5 h6 h7)⟩
theorem xs_sipush {q : Int} (hC : xC κ m r p e R s me args below meth c) (hl : xat m pc = some (.sipush q, nx, (a, b, c'), v, w)) (h : xst (.sipush q, nx, (a, b, c'), v, w) P (pc, L, st, M, z) = some (P', X')) (hP : P') (k : xA κ m r p e R s me args below meth c Q X') : P ∧ xA κ m r p e R s me args below meth c Q (pc, L, st, M, z) := by
  have he := xat_ck hl hC.2.2.2.2.2.2.2.2.2.2.2.2.1
  have hL := xckL_at hl hC.2.2.2.2.2.2.2.2.2.2.2.2.2
  obtain ⟨hd, hn, ho⟩ := xck_d he rfl
  obtain ⟨hx, hb, hml, hown, hts, hK, hfr, hlo, hce, hsl, hsz, hini, -, -⟩ := hC
  dsimp only [xil] at hd hn
  subst hn
  unfold xst at h
  dsimp only at h
  cases h
  exact ⟨hP, fun H locs ls h1 h3 h4 h5 h6 h7 => lv_sipush hx hb hd (of_decide_eq_true ho) (k H locs ls h1 h3 h4 h5 h6 h7)⟩
theorem xs_lconst {q : Fin 2} (hC : xC κ m r p e R s me args below meth c) (hl : xat m pc = some (.lconst q, nx, (a, b, c'), v, w)) (h : xst (.lconst q, nx, (a, b, c'), v, w) P (pc, L, st, M, z) = some (P', X')) (hP : P') (k : xA κ m r p e R s me args below meth c Q X') : P ∧ xA κ m r p e R s me args below meth c Q (pc, L, st, M, z) := by
  have he := xat_ck hl hC.2.2.2.2.2.2.2.2.2.2.2.2.1
  have hL := xckL_at hl hC.2.2.2.2.2.2.2.2.2.2.2.2.2
  obtain ⟨hd, hn, ho⟩ := xck_d he rfl
  obtain ⟨hx, hb, hml, hown, hts, hK, hfr, hlo, hce, hsl, hsz, hini, -, -⟩ := hC
  dsimp only [xil] at hd hn
  subst hn
  unfold xst at h
  dsimp only at h
  cases h
  exact ⟨hP, fun H locs ls h1 h3 h4 h5 h6 h7 => lv_lconst hx hb hd (of_decide_eq_true ho) (k H locs ls h1 h3 h4 h5 h6 h7)⟩
theorem xs_ldc {q : Nat} (hC : xC κ m r p e R s me args below meth c) (hl : xat m pc = some (.ldc q, nx, (a, b, c'), v, w)) (h : xst (.ldc q, nx, (a, b, c'), v, w) P (pc, L, st, M, z) = some (P', X')) (hP : P') (k : xA κ m r p e R s me args below meth c Q X') : P ∧ xA κ m r p e R s me args below meth c Q (pc, L, st, M, z) := by
  have he := xat_ck hl hC.2.2.2.2.2.2.2.2.2.2.2.2.1
  have hL := xckL_at hl hC.2.2.2.2.2.2.2.2.2.2.2.2.2
  obtain ⟨hd, hn, ho⟩ := xck_d he rfl
  obtain ⟨hx, hb, hml, hown, hts, hK, hfr, hlo, hce, hsl, hsz, hini, -, -⟩ := hC
  dsimp only [xil] at hd hn
  subst hn
  unfold xst at h
  dsimp only at h
  cases hq : Nat.beq a 0 with
  | false => rw [hq] at h; cases h
  | true =>
    rw [hq] at h
    cases h
    have ha := Nat.eq_of_beq_eq_true hq
    subst ha
    exact ⟨hP, fun H locs ls h1 h3 h4 h5 h6 h7 => lv_ldc hx hb hown (hts _ (xw_in ho)) hd (k H locs ls h1 h3 h4 h5 h6 h7)⟩
theorem xs_ldc_w {q : Nat} (hC : xC κ m r p e R s me args below meth c) (hl : xat m pc = some (.ldc_w q, nx, (a, b, c'), v, w)) (h : xst (.ldc_w q, nx, (a, b, c'), v, w) P (pc, L, st, M, z) = some (P', X')) (hP : P') (k : xA κ m r p e R s me args below meth c Q X') : P ∧ xA κ m r p e R s me args below meth c Q (pc, L, st, M, z) := by
  have he := xat_ck hl hC.2.2.2.2.2.2.2.2.2.2.2.2.1
  have hL := xckL_at hl hC.2.2.2.2.2.2.2.2.2.2.2.2.2
  obtain ⟨hd, hn, ho⟩ := xck_d he rfl
  obtain ⟨hx, hb, hml, hown, hts, hK, hfr, hlo, hce, hsl, hsz, hini, -, -⟩ := hC
  dsimp only [xil] at hd hn
  subst hn
  unfold xst at h
  dsimp only at h
  cases hq : Nat.beq a 0 with
  | false => rw [hq] at h; cases h
  | true =>
    rw [hq] at h
    cases h
    have ha := Nat.eq_of_beq_eq_true hq
    subst ha
    exact ⟨hP, fun H locs ls h1 h3 h4 h5 h6 h7 => lv_ldcw hx hb hown (hts _ (xw_in ho)) hd (k H locs ls h1 h3 h4 h5 h6 h7)⟩
theorem xs_ldc2_w {q : Nat} (hC : xC κ m r p e R s me args below meth c) (hl : xat m pc = some (.ldc2_w q, nx, (a, b, c'), v, w)) (h : xst (.ldc2_w q, nx, (a, b, c'), v, w) P (pc, L, st, M, z) = some (P', X')) (hP : P') (k : xA κ m r p e R s me args below meth c Q X') : P ∧ xA κ m r p e R s me args below meth c Q (pc, L, st, M, z) := by
  have he := xat_ck hl hC.2.2.2.2.2.2.2.2.2.2.2.2.1
  have hL := xckL_at hl hC.2.2.2.2.2.2.2.2.2.2.2.2.2
  obtain ⟨hd, hn, ho⟩ := xck_d he rfl
  obtain ⟨hx, hb, hml, hown, hts, hK, hfr, hlo, hce, hsl, hsz, hini, -, -⟩ := hC
  dsimp only [xil] at hd hn
  subst hn
  unfold xst at h
  dsimp only at h
  cases h
  exact ⟨hP, fun H locs ls h1 h3 h4 h5 h6 h7 => lv_ldc2 hx hb hown (hts _ (xw_in ho)) hd (k H locs ls h1 h3 h4 h5 h6 h7)⟩
theorem xs_aconst_null (hC : xC κ m r p e R s me args below meth c) (hl : xat m pc = some (.aconst_null, nx, (a, b, c'), v, w)) (h : xst (.aconst_null, nx, (a, b, c'), v, w) P (pc, L, st, M, z) = some (P', X')) (hP : P') (k : xA κ m r p e R s me args below meth c Q X') : P ∧ xA κ m r p e R s me args below meth c Q (pc, L, st, M, z) := by
  have he := xat_ck hl hC.2.2.2.2.2.2.2.2.2.2.2.2.1
  have hL := xckL_at hl hC.2.2.2.2.2.2.2.2.2.2.2.2.2
  obtain ⟨hd, hn, ho⟩ := xck_d he rfl
  obtain ⟨hx, hb, hml, hown, hts, hK, hfr, hlo, hce, hsl, hsz, hini, -, -⟩ := hC
  dsimp only [xil] at hd hn
  subst hn
  unfold xst at h
  dsimp only at h
  cases h
  exact ⟨hP, fun H locs ls h1 h3 h4 h5 h6 h7 => lv_null hx hb hd (k H locs ls h1 h3 h4 h5 h6 h7)⟩
theorem xs_iload_n {q : Fin 4} (hC : xC κ m r p e R s me args below meth c) (hl : xat m pc = some (.iload_n q, nx, (a, b, c'), v, w)) (h : xst (.iload_n q, nx, (a, b, c'), v, w) P (pc, L, st, M, z) = some (P', X')) (hP : P') (k : xA κ m r p e R s me args below meth c Q X') : P ∧ xA κ m r p e R s me args below meth c Q (pc, L, st, M, z) := by
  have he := xat_ck hl hC.2.2.2.2.2.2.2.2.2.2.2.2.1
  have hL := xckL_at hl hC.2.2.2.2.2.2.2.2.2.2.2.2.2
  obtain ⟨hd, hn, ho⟩ := xck_d he rfl
  obtain ⟨hx, hb, hml, hown, hts, hK, hfr, hlo, hce, hsl, hsz, hini, -, -⟩ := hC
  dsimp only [xil] at hd hn
  subst hn
  unfold xst at h
  dsimp only at h
  have ha := Nat.eq_of_beq_eq_true ho
  split at h
  · rename_i hg
    cases h
    exact ⟨hP, fun H locs ls h1 h3 h4 h5 h6 h7 => lv_iload_n hx hb hd ha (xLR_get h5 hg) (k H locs ls h1 h3 h4 h5 h6 h7)⟩
  · cases h
theorem xs_iload {q : Nat} (hC : xC κ m r p e R s me args below meth c) (hl : xat m pc = some (.iload q, nx, (a, b, c'), v, w)) (h : xst (.iload q, nx, (a, b, c'), v, w) P (pc, L, st, M, z) = some (P', X')) (hP : P') (k : xA κ m r p e R s me args below meth c Q X') : P ∧ xA κ m r p e R s me args below meth c Q (pc, L, st, M, z) := by
  have he := xat_ck hl hC.2.2.2.2.2.2.2.2.2.2.2.2.1
  have hL := xckL_at hl hC.2.2.2.2.2.2.2.2.2.2.2.2.2
  obtain ⟨hd, hn, ho⟩ := xck_d he rfl
  obtain ⟨hx, hb, hml, hown, hts, hK, hfr, hlo, hce, hsl, hsz, hini, -, -⟩ := hC
  dsimp only [xil] at hd hn
  subst hn
  unfold xst at h
  dsimp only at h
  have ha := Nat.eq_of_beq_eq_true ho
  subst ha
  split at h
  · rename_i hg
    cases h
    exact ⟨hP, fun H locs ls h1 h3 h4 h5 h6 h7 => lv_iload hx hb hd (xLR_get h5 hg) (k H locs ls h1 h3 h4 h5 h6 h7)⟩
  · cases h
theorem xs_lload_n {q : Fin 4} (hC : xC κ m r p e R s me args below meth c) (hl : xat m pc = some (.lload_n q, nx, (a, b, c'), v, w)) (h : xst (.lload_n q, nx, (a, b, c'), v, w) P (pc, L, st, M, z) = some (P', X')) (hP : P') (k : xA κ m r p e R s me args below meth c Q X') : P ∧ xA κ m r p e R s me args below meth c Q (pc, L, st, M, z) := by
  have he := xat_ck hl hC.2.2.2.2.2.2.2.2.2.2.2.2.1
  have hL := xckL_at hl hC.2.2.2.2.2.2.2.2.2.2.2.2.2
  obtain ⟨hd, hn, ho⟩ := xck_d he rfl
  obtain ⟨hx, hb, hml, hown, hts, hK, hfr, hlo, hce, hsl, hsz, hini, -, -⟩ := hC
  dsimp only [xil] at hd hn
  subst hn
  unfold xst at h
  dsimp only at h
  have ha := Nat.eq_of_beq_eq_true ho
  split at h
  · rename_i hg
    cases h
    exact ⟨hP, fun H locs ls h1 h3 h4 h5 h6 h7 => lv_lload_n hx hb hd ha (xLR_get h5 hg) (k H locs ls h1 h3 h4 h5 h6 h7)⟩
  · cases h
theorem xs_lload {q : Nat} (hC : xC κ m r p e R s me args below meth c) (hl : xat m pc = some (.lload q, nx, (a, b, c'), v, w)) (h : xst (.lload q, nx, (a, b, c'), v, w) P (pc, L, st, M, z) = some (P', X')) (hP : P') (k : xA κ m r p e R s me args below meth c Q X') : P ∧ xA κ m r p e R s me args below meth c Q (pc, L, st, M, z) := by
  have he := xat_ck hl hC.2.2.2.2.2.2.2.2.2.2.2.2.1
  have hL := xckL_at hl hC.2.2.2.2.2.2.2.2.2.2.2.2.2
  obtain ⟨hd, hn, ho⟩ := xck_d he rfl
  obtain ⟨hx, hb, hml, hown, hts, hK, hfr, hlo, hce, hsl, hsz, hini, -, -⟩ := hC
  dsimp only [xil] at hd hn
  subst hn
  unfold xst at h
  dsimp only at h
  have ha := Nat.eq_of_beq_eq_true ho
  subst ha
  split at h
  · rename_i hg
    cases h
    exact ⟨hP, fun H locs ls h1 h3 h4 h5 h6 h7 => lv_lload hx hb hd (xLR_get h5 hg) (k H locs ls h1 h3 h4 h5 h6 h7)⟩
  · cases h
theorem xs_aload_n {q : Fin 4} (hC : xC κ m r p e R s me args below meth c) (hl : xat m pc = some (.aload_n q, nx, (a, b, c'), v, w)) (h : xst (.aload_n q, nx, (a, b, c'), v, w) P (pc, L, st, M, z) = some (P', X')) (hP : P') (k : xA κ m r p e R s me args below meth c Q X') : P ∧ xA κ m r p e R s me args below meth c Q (pc, L, st, M, z) := by
  have he := xat_ck hl hC.2.2.2.2.2.2.2.2.2.2.2.2.1
  have hL := xckL_at hl hC.2.2.2.2.2.2.2.2.2.2.2.2.2
  obtain ⟨hd, hn, ho⟩ := xck_d he rfl
  obtain ⟨hx, hb, hml, hown, hts, hK, hfr, hlo, hce, hsl, hsz, hini, -, -⟩ := hC
  dsimp only [xil] at hd hn
  subst hn
  unfold xst at h
  dsimp only at h
  have ha := Nat.eq_of_beq_eq_true ho
  split at h
  · rename_i hg
    cases h
    exact ⟨hP, fun H locs ls h1 h3 h4 h5 h6 h7 => lv_aload_n hx hb hd ha (xLR_get h5 hg) (k H locs ls h1 h3 h4 h5 h6 h7)⟩
  · rename_i hg
    cases h
    exact ⟨hP, fun H locs ls h1 h3 h4 h5 h6 h7 => lv_aload_nN hx hb hd ha (xLR_get h5 hg) (k H locs ls h1 h3 h4 h5 h6 h7)⟩
  · cases h
theorem xs_aload {q : Nat} (hC : xC κ m r p e R s me args below meth c) (hl : xat m pc = some (.aload q, nx, (a, b, c'), v, w)) (h : xst (.aload q, nx, (a, b, c'), v, w) P (pc, L, st, M, z) = some (P', X')) (hP : P') (k : xA κ m r p e R s me args below meth c Q X') : P ∧ xA κ m r p e R s me args below meth c Q (pc, L, st, M, z) := by
  have he := xat_ck hl hC.2.2.2.2.2.2.2.2.2.2.2.2.1
  have hL := xckL_at hl hC.2.2.2.2.2.2.2.2.2.2.2.2.2
  obtain ⟨hd, hn, ho⟩ := xck_d he rfl
  obtain ⟨hx, hb, hml, hown, hts, hK, hfr, hlo, hce, hsl, hsz, hini, -, -⟩ := hC
  dsimp only [xil] at hd hn
  subst hn
  unfold xst at h
  dsimp only at h
  have ha := Nat.eq_of_beq_eq_true ho
  subst ha
  split at h
  · rename_i hg
    cases h
    exact ⟨hP, fun H locs ls h1 h3 h4 h5 h6 h7 => lv_aload hx hb hd (xLR_get h5 hg) (k H locs ls h1 h3 h4 h5 h6 h7)⟩
  · rename_i hg
    cases h
    exact ⟨hP, fun H locs ls h1 h3 h4 h5 h6 h7 => lv_aloadN hx hb hd (xLR_get h5 hg) (k H locs ls h1 h3 h4 h5 h6 h7)⟩
  · cases h
theorem xs_istore_n {q : Fin 4} (hC : xC κ m r p e R s me args below meth c) (hl : xat m pc = some (.istore_n q, nx, (a, b, c'), v, w)) (h : xst (.istore_n q, nx, (a, b, c'), v, w) P (pc, L, st, M, z) = some (P', X')) (hP : P') (k : xA κ m r p e R s me args below meth c Q X') : P ∧ xA κ m r p e R s me args below meth c Q (pc, L, st, M, z) := by
  have he := xat_ck hl hC.2.2.2.2.2.2.2.2.2.2.2.2.1
  have hL := xckL_at hl hC.2.2.2.2.2.2.2.2.2.2.2.2.2
  obtain ⟨hd, hn, ho⟩ := xck_d he rfl
  obtain ⟨hx, hb, hml, hown, hts, hK, hfr, hlo, hce, hsl, hsz, hini, -, -⟩ := hC
  dsimp only [xil] at hd hn
  subst hn
  unfold xst at h
  dsimp only at h
  have ha := Nat.eq_of_beq_eq_true ho
  split at h
  · cases h
    exact ⟨hP, fun H locs ls h1 h3 h4 h5 h6 h7 => by
      obtain ⟨lv, hlv, hin⟩ := h5
      exact lv_istore_n hx hb hd ha hlv (Nat.le_of_ble_eq_true hL) rfl (fun ls' hv => k H locs ls' h1 h3 h4 (xLR_s1 hin hv) h6 h7)⟩
  · cases h
theorem xs_istore {q : Nat} (hC : xC κ m r p e R s me args below meth c) (hl : xat m pc = some (.istore q, nx, (a, b, c'), v, w)) (h : xst (.istore q, nx, (a, b, c'), v, w) P (pc, L, st, M, z) = some (P', X')) (hP : P') (k : xA κ m r p e R s me args below meth c Q X') : P ∧ xA κ m r p e R s me args below meth c Q (pc, L, st, M, z) := by
  have he := xat_ck hl hC.2.2.2.2.2.2.2.2.2.2.2.2.1
  have hL := xckL_at hl hC.2.2.2.2.2.2.2.2.2.2.2.2.2
  obtain ⟨hd, hn, ho⟩ := xck_d he rfl
  obtain ⟨hx, hb, hml, hown, hts, hK, hfr, hlo, hce, hsl, hsz, hini, -, -⟩ := hC
  dsimp only [xil] at hd hn
  subst hn
  unfold xst at h
  dsimp only at h
  have ha := Nat.eq_of_beq_eq_true ho
  subst ha
  split at h
  · cases h
    exact ⟨hP, fun H locs ls h1 h3 h4 h5 h6 h7 => by
      obtain ⟨lv, hlv, hin⟩ := h5
      exact lv_istore hx hb hd hlv (Nat.le_of_ble_eq_true hL) rfl (fun ls' hv => k H locs ls' h1 h3 h4 (xLR_s1 hin hv) h6 h7)⟩
  · cases h
theorem xs_lstore_n {q : Fin 4} (hC : xC κ m r p e R s me args below meth c) (hl : xat m pc = some (.lstore_n q, nx, (a, b, c'), v, w)) (h : xst (.lstore_n q, nx, (a, b, c'), v, w) P (pc, L, st, M, z) = some (P', X')) (hP : P') (k : xA κ m r p e R s me args below meth c Q X') : P ∧ xA κ m r p e R s me args below meth c Q (pc, L, st, M, z) := by
  have he := xat_ck hl hC.2.2.2.2.2.2.2.2.2.2.2.2.1
  have hL := xckL_at hl hC.2.2.2.2.2.2.2.2.2.2.2.2.2
  obtain ⟨hd, hn, ho⟩ := xck_d he rfl
  obtain ⟨hx, hb, hml, hown, hts, hK, hfr, hlo, hce, hsl, hsz, hini, -, -⟩ := hC
  dsimp only [xil] at hd hn
  subst hn
  unfold xst at h
  dsimp only at h
  have ha := Nat.eq_of_beq_eq_true ho
  split at h
  · cases h
    exact ⟨hP, fun H locs ls h1 h3 h4 h5 h6 h7 => by
      obtain ⟨lv, hlv, hin⟩ := h5
      exact lv_lstore_n hx hb hd ha hlv (Nat.le_of_ble_eq_true hL) rfl (fun ls' hv => k H locs ls' h1 h3 h4 (xLR_s2 hin hv) h6 h7)⟩
  · cases h
theorem xs_lstore {q : Nat} (hC : xC κ m r p e R s me args below meth c) (hl : xat m pc = some (.lstore q, nx, (a, b, c'), v, w)) (h : xst (.lstore q, nx, (a, b, c'), v, w) P (pc, L, st, M, z) = some (P', X')) (hP : P') (k : xA κ m r p e R s me args below meth c Q X') : P ∧ xA κ m r p e R s me args below meth c Q (pc, L, st, M, z) := by
  have he := xat_ck hl hC.2.2.2.2.2.2.2.2.2.2.2.2.1
  have hL := xckL_at hl hC.2.2.2.2.2.2.2.2.2.2.2.2.2
  obtain ⟨hd, hn, ho⟩ := xck_d he rfl
  obtain ⟨hx, hb, hml, hown, hts, hK, hfr, hlo, hce, hsl, hsz, hini, -, -⟩ := hC
  dsimp only [xil] at hd hn
  subst hn
  unfold xst at h
  dsimp only at h
  have ha := Nat.eq_of_beq_eq_true ho
  subst ha
  split at h
  · cases h
    exact ⟨hP, fun H locs ls h1 h3 h4 h5 h6 h7 => by
      obtain ⟨lv, hlv, hin⟩ := h5
      exact lv_lstore hx hb hd hlv (Nat.le_of_ble_eq_true hL) rfl (fun ls' hv => k H locs ls' h1 h3 h4 (xLR_s2 hin hv) h6 h7)⟩
  · cases h
theorem xs_astore_n {q : Fin 4} (hC : xC κ m r p e R s me args below meth c) (hl : xat m pc = some (.astore_n q, nx, (a, b, c'), v, w)) (h : xst (.astore_n q, nx, (a, b, c'), v, w) P (pc, L, st, M, z) = some (P', X')) (hP : P') (k : xA κ m r p e R s me args below meth c Q X') : P ∧ xA κ m r p e R s me args below meth c Q (pc, L, st, M, z) := by
  have he := xat_ck hl hC.2.2.2.2.2.2.2.2.2.2.2.2.1
  have hL := xckL_at hl hC.2.2.2.2.2.2.2.2.2.2.2.2.2
  obtain ⟨hd, hn, ho⟩ := xck_d he rfl
  obtain ⟨hx, hb, hml, hown, hts, hK, hfr, hlo, hce, hsl, hsz, hini, -, -⟩ := hC
  dsimp only [xil] at hd hn
  subst hn
  unfold xst at h
  dsimp only at h
  have ha := Nat.eq_of_beq_eq_true ho
  split at h
  · cases h
    exact ⟨hP, fun H locs ls h1 h3 h4 h5 h6 h7 => by
      obtain ⟨lv, hlv, hin⟩ := h5
      exact lv_astore_n hx hb hd ha hlv (Nat.le_of_ble_eq_true hL) rfl (fun ls' hv => k H locs ls' h1 h3 h4 (xLR_s1 hin hv) h6 h7)⟩
  · cases h
    exact ⟨hP, fun H locs ls h1 h3 h4 h5 h6 h7 => by
      obtain ⟨lv, hlv, hin⟩ := h5
      exact lv_astore_nN hx hb hd ha hlv (Nat.le_of_ble_eq_true hL) rfl (fun ls' hv => k H locs ls' h1 h3 h4 (xLR_s1 (v := .null) hin hv) h6 h7)⟩
  · cases h
theorem xs_astore {q : Nat} (hC : xC κ m r p e R s me args below meth c) (hl : xat m pc = some (.astore q, nx, (a, b, c'), v, w)) (h : xst (.astore q, nx, (a, b, c'), v, w) P (pc, L, st, M, z) = some (P', X')) (hP : P') (k : xA κ m r p e R s me args below meth c Q X') : P ∧ xA κ m r p e R s me args below meth c Q (pc, L, st, M, z) := by
  have he := xat_ck hl hC.2.2.2.2.2.2.2.2.2.2.2.2.1
  have hL := xckL_at hl hC.2.2.2.2.2.2.2.2.2.2.2.2.2
  obtain ⟨hd, hn, ho⟩ := xck_d he rfl
  obtain ⟨hx, hb, hml, hown, hts, hK, hfr, hlo, hce, hsl, hsz, hini, -, -⟩ := hC
  dsimp only [xil] at hd hn
  subst hn
  unfold xst at h
  dsimp only at h
  have ha := Nat.eq_of_beq_eq_true ho
  subst ha
  split at h
  · cases h
    exact ⟨hP, fun H locs ls h1 h3 h4 h5 h6 h7 => by
      obtain ⟨lv, hlv, hin⟩ := h5
      exact lv_astore hx hb hd hlv (Nat.le_of_ble_eq_true hL) rfl (fun ls' hv => k H locs ls' h1 h3 h4 (xLR_s1 hin hv) h6 h7)⟩
  · cases h
    exact ⟨hP, fun H locs ls h1 h3 h4 h5 h6 h7 => by
      obtain ⟨lv, hlv, hin⟩ := h5
      exact lv_astoreN hx hb hd hlv (Nat.le_of_ble_eq_true hL) rfl (fun ls' hv => k H locs ls' h1 h3 h4 (xLR_s1 (v := .null) hin hv) h6 h7)⟩
  · cases h
theorem xs_iinc {q : Nat} {n : Int} (hC : xC κ m r p e R s me args below meth c) (hl : xat m pc = some (.iinc q n, nx, (a, b, c'), v, w)) (h : xst (.iinc q n, nx, (a, b, c'), v, w) P (pc, L, st, M, z) = some (P', X')) (hP : P') (k : xA κ m r p e R s me args below meth c Q X') : P ∧ xA κ m r p e R s me args below meth c Q (pc, L, st, M, z) := by
  have he := xat_ck hl hC.2.2.2.2.2.2.2.2.2.2.2.2.1
  have hL := xckL_at hl hC.2.2.2.2.2.2.2.2.2.2.2.2.2
  obtain ⟨hd, hn, ho⟩ := xck_d he rfl
  obtain ⟨hx, hb, hml, hown, hts, hK, hfr, hlo, hce, hsl, hsz, hini, -, -⟩ := hC
  dsimp only [xil] at hd hn
  subst hn
  unfold xst at h
  dsimp only at h
  have ho : (Nat.beq q a && decide (Int32.ofInt n = v)) = true := ho
  rw [Bool.and_eq_true] at ho
  have ha := Nat.eq_of_beq_eq_true ho.1
  subst ha
  have hv2 := of_decide_eq_true ho.2
  split at h
  · rename_i x hg
    cases h
    exact ⟨hP, fun H locs ls h1 h3 h4 h5 h6 h7 => by
      obtain ⟨lv, hlv, hin⟩ := h5
      obtain ⟨i0, hi0, hk0⟩ := List.getElem_of_mem (hin _ _ hg)
      exact lv_iinc hx hb hd hlv (k := i0) (x := x) (v := x + v) (by rw [List.getElem?_eq_getElem hi0, hk0]; rfl) (by rw [hv2]) (Nat.le_of_ble_eq_true hL) rfl (fun ls' hv => k H locs ls' h1 h3 h4 (xLR_s1 hin hv) h6 h7)⟩
  · cases h
theorem xs_goto {q : Int} (hC : xC κ m r p e R s me args below meth c) (hl : xat m pc = some (.goto q, nx, (a, b, c'), v, w)) (h : xst (.goto q, nx, (a, b, c'), v, w) P (pc, L, st, M, z) = some (P', X')) (hP : P') (k : xA κ m r p e R s me args below meth c Q X') : P ∧ xA κ m r p e R s me args below meth c Q (pc, L, st, M, z) := by
  have he := xat_ck hl hC.2.2.2.2.2.2.2.2.2.2.2.2.1
  have hL := xckL_at hl hC.2.2.2.2.2.2.2.2.2.2.2.2.2
  obtain ⟨hd, hn, ho⟩ := xck_d he rfl
  obtain ⟨hx, hb, hml, hown, hts, hK, hfr, hlo, hce, hsl, hsz, hini, -, -⟩ := hC
  dsimp only [xil] at hd hn
  subst hn
  unfold xst at h
  dsimp only at h
  cases h
  exact ⟨hP, fun H locs ls h1 h3 h4 h5 h6 h7 => lv_goto hx hb hd (of_decide_eq_true ho) (k H locs ls h1 h3 h4 h5 h6 h7)⟩
theorem xs_ifnull {q : Int} (hC : xC κ m r p e R s me args below meth c) (hl : xat m pc = some (.ifnull q, nx, (a, b, c'), v, w)) (h : xst (.ifnull q, nx, (a, b, c'), v, w) P (pc, L, st, M, z) = some (P', X')) (hP : P') (k : xA κ m r p e R s me args below meth c Q X') : P ∧ xA κ m r p e R s me args below meth c Q (pc, L, st, M, z) := by
  have he := xat_ck hl hC.2.2.2.2.2.2.2.2.2.2.2.2.1
  have hL := xckL_at hl hC.2.2.2.2.2.2.2.2.2.2.2.2.2
  obtain ⟨hd, hn, ho⟩ := xck_d he rfl
  obtain ⟨hx, hb, hml, hown, hts, hK, hfr, hlo, hce, hsl, hsz, hini, -, -⟩ := hC
  dsimp only [xil] at hd hn
  subst hn
  unfold xst at h
  dsimp only at h
  split at h
  · cases h
    exact ⟨hP, fun H locs ls h1 h3 h4 h5 h6 h7 => lv_ifnull hx hb hd (k H locs ls h1 h3 h4 h5 h6 h7)⟩
  · cases h
    exact ⟨hP, fun H locs ls h1 h3 h4 h5 h6 h7 => lv_ifnullN hx hb hd (of_decide_eq_true ho) (k H locs ls h1 h3 h4 h5 h6 h7)⟩
  · cases h
theorem xs_ifnonnull {q : Int} (hC : xC κ m r p e R s me args below meth c) (hl : xat m pc = some (.ifnonnull q, nx, (a, b, c'), v, w)) (h : xst (.ifnonnull q, nx, (a, b, c'), v, w) P (pc, L, st, M, z) = some (P', X')) (hP : P') (k : xA κ m r p e R s me args below meth c Q X') : P ∧ xA κ m r p e R s me args below meth c Q (pc, L, st, M, z) := by
  have he := xat_ck hl hC.2.2.2.2.2.2.2.2.2.2.2.2.1
  have hL := xckL_at hl hC.2.2.2.2.2.2.2.2.2.2.2.2.2
  obtain ⟨hd, hn, ho⟩ := xck_d he rfl
  obtain ⟨hx, hb, hml, hown, hts, hK, hfr, hlo, hce, hsl, hsz, hini, -, -⟩ := hC
  dsimp only [xil] at hd hn
  subst hn
  unfold xst at h
  dsimp only at h
  split at h
  · cases h
    exact ⟨hP, fun H locs ls h1 h3 h4 h5 h6 h7 => lv_ifnonnull hx hb hd (of_decide_eq_true ho) (k H locs ls h1 h3 h4 h5 h6 h7)⟩
  · cases h
    exact ⟨hP, fun H locs ls h1 h3 h4 h5 h6 h7 => lv_ifnonnullN hx hb hd (k H locs ls h1 h3 h4 h5 h6 h7)⟩
  · cases h
theorem xs_getfield {q : Nat} (hC : xC κ m r p e R s me args below meth c) (hl : xat m pc = some (.getfield q, nx, (a, b, c'), v, w)) (h : xst (.getfield q, nx, (a, b, c'), v, w) P (pc, L, st, M, z) = some (P', X')) (hP : P') (k : xA κ m r p e R s me args below meth c Q X') : P ∧ xA κ m r p e R s me args below meth c Q (pc, L, st, M, z) := by
  have he := xat_ck hl hC.2.2.2.2.2.2.2.2.2.2.2.2.1
  have hL := xckL_at hl hC.2.2.2.2.2.2.2.2.2.2.2.2.2
  obtain ⟨hd, hn, ho⟩ := xck_d he rfl
  obtain ⟨hx, hb, hml, hown, hts, hK, hfr, hlo, hce, hsl, hsz, hini, -, -⟩ := hC
  dsimp only [xil] at hd hn
  subst hn
  unfold xst at h
  dsimp only at h
  have ho : (match vwCl[a]? with
    | some (_, T, n) => Nat.blt b n && xw c' (.fieldLink m.1.1 q (T b).1 (T b).2.1 (T b).2.2.1)
    | none => false) = true := ho
  cases hcl : vwCl[a]? with
  | none => rw [hcl] at ho; cases ho
  | some C3 =>
    obtain ⟨C, T, n⟩ := C3
    rw [hcl] at ho
    dsimp only at ho
    rw [Bool.and_eq_true] at ho
    have hbn : b < n := Nat.le_of_ble_eq_true ho.1
    have hw := xw_in ho.2
    obtain ⟨hin, hnm, hlen, ty, hty, hck⟩ := xgood hcl
    split at h
    · split at h
      · rename_i hq
        cases h
        obtain ⟨⟨hs, hlt⟩, hP⟩ := hP
        exact ⟨hP, fun H locs ls h1 h3 h4 h5 h6 h7 => va_get hx hb hts hin hown hK h1 _ (xws_at hlt hs) hcl b hbn (hts _ hw) (fun _ hx => hx) (xfs_at (xfk_at hq (by decide))) hd (k H locs ls h1 h3 h4 h5 h6 h7)⟩
      · rename_i hq
        cases h
        obtain ⟨⟨hs, hlt⟩, hP⟩ := hP
        exact ⟨hP, fun H locs ls h1 h3 h4 h5 h6 h7 => va_get hx hb hts hin hown hK h1 _ (xws_at hlt hs) hcl b hbn (hts _ hw) (fun _ hx => hx) (xfs_at (xfk_at hq (by decide))) hd (k H locs ls h1 h3 h4 h5 h6 h7)⟩
      · rename_i hq
        cases h
        obtain ⟨⟨hs, hlt⟩, hP⟩ := hP
        exact ⟨hP, fun H locs ls h1 h3 h4 h5 h6 h7 => va_get hx hb hts hin hown hK h1 _ (xws_at hlt hs) hcl b hbn (hts _ hw) (fun _ hx => hx) (xfs_at (xfk_at hq (by decide))) hd (k H locs ls h1 h3 h4 h5 h6 h7)⟩
      · rename_i hq
        cases h
        obtain ⟨⟨hs, hlt⟩, hP⟩ := hP
        exact ⟨hP, fun H locs ls h1 h3 h4 h5 h6 h7 => va_get hx hb hts hin hown hK h1 _ (xws_at hlt hs) hcl b hbn (hts _ hw) (fun _ hx => hx) (xfs_at (xfk_at hq (by decide))) hd (k H locs ls h1 h3 h4 h5 h6 h7)⟩
      · cases h
    · cases h
theorem xs_putfield {q : Nat} (hC : xC κ m r p e R s me args below meth c) (hl : xat m pc = some (.putfield q, nx, (a, b, c'), v, w)) (h : xst (.putfield q, nx, (a, b, c'), v, w) P (pc, L, st, M, z) = some (P', X')) (hP : P') (k : xA κ m r p e R s me args below meth c Q X') : P ∧ xA κ m r p e R s me args below meth c Q (pc, L, st, M, z) := by
  have he := xat_ck hl hC.2.2.2.2.2.2.2.2.2.2.2.2.1
  have hL := xckL_at hl hC.2.2.2.2.2.2.2.2.2.2.2.2.2
  obtain ⟨hd, hn, ho⟩ := xck_d he rfl
  obtain ⟨hx, hb, hml, hown, hts, hK, hfr, hlo, hce, hsl, hsz, hini, -, -⟩ := hC
  dsimp only [xil] at hd hn
  subst hn
  unfold xst at h
  dsimp only at h
  have ho : (match vwCl[a]? with
    | some (_, T, n) => Nat.blt b n && xw c' (.fieldLink m.1.1 q (T b).1 (T b).2.1 (T b).2.2.1)
    | none => false) = true := ho
  cases hcl : vwCl[a]? with
  | none => rw [hcl] at ho; cases ho
  | some C3 =>
    obtain ⟨C, T, n⟩ := C3
    rw [hcl] at ho
    dsimp only at ho
    rw [Bool.and_eq_true] at ho
    have hbn : b < n := Nat.le_of_ble_eq_true ho.1
    have hw := xw_in ho.2
    obtain ⟨hin, hnm, hlen, ty, hty, hck⟩ := xgood hcl
    have hL : (!(T b).2.2.2 || (decide (m.1.2.1.name = "<init>") && decide ((T b).1 = m.1.1))) = true := by
      have hL : (match vwCl[a]? with
        | some (_, T, _) => !(T b).2.2.2 || (decide (m.1.2.1.name = "<init>") && decide ((T b).1 = m.1.1))
        | none => false) = true := hL
      rw [hcl] at hL
      exact hL
    obtain ⟨hk0, hk1, hk2, hk3⟩ := xgood_k hck hbn
    split at h
    · split at h
      · rename_i hq
        cases h
        obtain ⟨⟨hs, hlt⟩, hP⟩ := hP
        exact ⟨hP, fun H locs ls h1 h3 h4 h5 h6 h7 => xput hx hb hts hown hK hin hnm hlen hty hcl hbn hw hini hL hd hs hlt h1 h4 hq (by decide) (congrArg Value.int (gI_self M _ b _)) xOff_I (fun j d' hj => xval_off ⟨gI_ne (Or.inr hj), rfl, rfl⟩) (by rw [hk0 hq]; rfl) (by rw [hk0 hq]; rfl) (fun H1 locs1 g1 g3 => k H1 locs1 ls g1 h3 g3 h5 h6 h7)⟩
      · rename_i hq
        cases h
        obtain ⟨⟨h01, hs, hlt⟩, hP⟩ := hP
        exact ⟨hP, fun H locs ls h1 h3 h4 h5 h6 h7 => xput hx hb hts hown hK hin hnm hlen hty hcl hbn hw hini hL hd hs hlt h1 h4 hq (by decide) (congrArg Value.int (gI_self M _ b _)) xOff_I (fun j d' hj => xval_off ⟨gI_ne (Or.inr hj), rfl, rfl⟩) (by rw [hk3 hq]; show Value.int (_ &&& 1) = Value.int _; rw [h01]) (by rw [hk3 hq]; exact and1_fits h01) (fun H1 locs1 g1 g3 => k H1 locs1 ls g1 h3 g3 h5 h6 h7)⟩
      · cases h
    · split at h
      · rename_i hq
        cases h
        obtain ⟨⟨hs, hlt⟩, hP⟩ := hP
        exact ⟨hP, fun H locs ls h1 h3 h4 h5 h6 h7 => xput hx hb hts hown hK hin hnm hlen hty hcl hbn hw hini hL hd hs hlt h1 h4 hq (by decide) (congrArg Value.long (gJ_self M _ b _)) xOff_J (fun j d' hj => xval_off ⟨rfl, gJ_ne (Or.inr hj), rfl⟩) (by rw [hk1 hq]; rfl) (by rw [hk1 hq]; rfl) (fun H1 locs1 g1 g3 => k H1 locs1 ls g1 h3 g3 h5 h6 h7)⟩
      · cases h
    · split at h
      · rename_i o _ _ hq
        cases hdy : (z.2.1 || xdyn o b) with
        | false => rw [hdy] at h; cases h
        | true =>
          rw [hdy] at h
          cases h
          obtain ⟨⟨hs, hlt⟩, hP⟩ := hP
          exact ⟨hP, fun H locs ls h1 h3 h4 h5 h6 h7 => xput hx hb hts hown hK hin hnm hlen hty hcl hbn hw hini hL hd hs hlt h1 h4 hq (by decide) (by show xcv _ (xrf (xpr _ _ _ _)) = xcv _ (.ref _); rw [xpr_self hdy]; rfl) xOff_P (fun j d' hj => xval_off ⟨rfl, rfl, xpr_ne (Or.inr hj)⟩) (xrT_nf (hk2 hq) _).1 (xrT_nf (hk2 hq) _).2 (fun H1 locs1 g1 g3 => k H1 locs1 ls g1 h3 g3 h5 h6 h7)⟩
      · cases h
    · cases h
theorem xs_iaload (hC : xC κ m r p e R s me args below meth c) (hl : xat m pc = some (.iaload, nx, (a, b, c'), v, w)) (h : xst (.iaload, nx, (a, b, c'), v, w) P (pc, L, st, M, z) = some (P', X')) (hP : P') (k : xA κ m r p e R s me args below meth c Q X') : P ∧ xA κ m r p e R s me args below meth c Q (pc, L, st, M, z) := by
  have he := xat_ck hl hC.2.2.2.2.2.2.2.2.2.2.2.2.1
  have hL := xckL_at hl hC.2.2.2.2.2.2.2.2.2.2.2.2.2
  obtain ⟨hd, hn, ho⟩ := xck_d he rfl
  obtain ⟨hx, hb, hml, hown, hts, hK, hfr, hlo, hce, hsl, hsz, hini, -, -⟩ := hC
  dsimp only [xil] at hd hn
  subst hn
  unfold xst at h
  dsimp only at h
  split at h
  · cases h
    obtain ⟨⟨len, hs, hlt, i0, i1⟩, hP⟩ := hP
    exact ⟨hP, fun H locs ls h1 h3 h4 h5 h6 h7 => va_iald hx hb hK h1 _ 0 (xws_at hlt hs) rfl (vp_in_iff.mpr ⟨i0, i1⟩) hd (k H locs ls h1 h3 h4 h5 h6 h7)⟩
  · cases h
theorem xs_laload (hC : xC κ m r p e R s me args below meth c) (hl : xat m pc = some (.laload, nx, (a, b, c'), v, w)) (h : xst (.laload, nx, (a, b, c'), v, w) P (pc, L, st, M, z) = some (P', X')) (hP : P') (k : xA κ m r p e R s me args below meth c Q X') : P ∧ xA κ m r p e R s me args below meth c Q (pc, L, st, M, z) := by
  have he := xat_ck hl hC.2.2.2.2.2.2.2.2.2.2.2.2.1
  have hL := xckL_at hl hC.2.2.2.2.2.2.2.2.2.2.2.2.2
  obtain ⟨hd, hn, ho⟩ := xck_d he rfl
  obtain ⟨hx, hb, hml, hown, hts, hK, hfr, hlo, hce, hsl, hsz, hini, -, -⟩ := hC
  dsimp only [xil] at hd hn
  subst hn
  unfold xst at h
  dsimp only at h
  split at h
  · cases h
    obtain ⟨⟨len, hs, hlt, i0, i1⟩, hP⟩ := hP
    exact ⟨hP, fun H locs ls h1 h3 h4 h5 h6 h7 => va_lald hx hb hK h1 _ 1 (xws_at hlt hs) rfl (vp_in_iff.mpr ⟨i0, i1⟩) hd (k H locs ls h1 h3 h4 h5 h6 h7)⟩
  · cases h
theorem xs_baload (hC : xC κ m r p e R s me args below meth c) (hl : xat m pc = some (.baload, nx, (a, b, c'), v, w)) (h : xst (.baload, nx, (a, b, c'), v, w) P (pc, L, st, M, z) = some (P', X')) (hP : P') (k : xA κ m r p e R s me args below meth c Q X') : P ∧ xA κ m r p e R s me args below meth c Q (pc, L, st, M, z) := by
  have he := xat_ck hl hC.2.2.2.2.2.2.2.2.2.2.2.2.1
  have hL := xckL_at hl hC.2.2.2.2.2.2.2.2.2.2.2.2.2
  obtain ⟨hd, hn, ho⟩ := xck_d he rfl
  obtain ⟨hx, hb, hml, hown, hts, hK, hfr, hlo, hce, hsl, hsz, hini, -, -⟩ := hC
  dsimp only [xil] at hd hn
  subst hn
  unfold xst at h
  dsimp only at h
  split at h
  · cases h
    obtain ⟨⟨len, hs, hlt, i0, i1⟩, hP⟩ := hP
    exact ⟨hP, fun H locs ls h1 h3 h4 h5 h6 h7 => va_zald hx hb hK h1 _ 2 (xws_at hlt hs) rfl (vp_in_iff.mpr ⟨i0, i1⟩) hd (k H locs ls h1 h3 h4 h5 h6 h7)⟩
  · cases h
theorem xs_aaload (hC : xC κ m r p e R s me args below meth c) (hl : xat m pc = some (.aaload, nx, (a, b, c'), v, w)) (h : xst (.aaload, nx, (a, b, c'), v, w) P (pc, L, st, M, z) = some (P', X')) (hP : P') (k : xA κ m r p e R s me args below meth c Q X') : P ∧ xA κ m r p e R s me args below meth c Q (pc, L, st, M, z) := by
  have he := xat_ck hl hC.2.2.2.2.2.2.2.2.2.2.2.2.1
  have hL := xckL_at hl hC.2.2.2.2.2.2.2.2.2.2.2.2.2
  obtain ⟨hd, hn, ho⟩ := xck_d he rfl
  obtain ⟨hx, hb, hml, hown, hts, hK, hfr, hlo, hce, hsl, hsz, hini, -, -⟩ := hC
  dsimp only [xil] at hd hn
  subst hn
  unfold xst at h
  dsimp only at h
  split at h
  · cases h
    obtain ⟨⟨kd, len, hk3, hk6, hs, hlt, i0, i1⟩, hP⟩ := hP
    have hin := vp_in_iff.mpr ⟨i0, i1⟩
    refine ⟨hP, fun H locs ls h1 h3 h4 h5 h6 h7 => ?_⟩
    have kk := k H locs ls h1 h3 h4 h5 h6 h7
    have hlt2 := Nat.not_le.mp fun q => hin (Or.inr q)
    rcases (show kd = 3 ∨ kd = 4 ∨ kd = 5 ∨ kd = 6 by omega) with rfl | rfl | rfl | rfl
    · exact va_aldq hx hb hK h1 _ 3 (xws_at hlt hs) rfl hin hd (by unfold xqs; rw [xrf_rf]; exact kk)
    · exact va_aldq hx hb hK h1 _ 4 (xws_at hlt hs) rfl hin hd (by unfold xqs; rw [xrf_rf]; exact kk)
    · exact va_aldq hx hb hK h1 _ 5 (xws_at hlt hs) rfl hin hd (by unfold xqs; rw [xrf_rf]; exact kk)
    · rename_i i o _
      exact W.aald (v := va_rf (xqs κ.2.1 z.2.1 M o i.toNatClampNeg)) (ty := .array .int) hx hb (h1 o _ (xws_at hlt hs)) ((hK.2 6 _ rfl).1 len (fun j => va_rf (xqs κ.2.1 z.2.1 M o j))) rfl (fun q => by cases q) (by show ¬ (i < 0 ∨ (arrV _ _ _).slots.size ≤ _); rw [arrV_size]; exact hin) (by show (arrV _ _ _).slots[_]? = _; rw [arrV_read _ _ hlt2]) rfl rfl hd (by unfold xqs; rw [xrf_rf]; exact kk)
  · cases h
theorem xs_iastore (hC : xC κ m r p e R s me args below meth c) (hl : xat m pc = some (.iastore, nx, (a, b, c'), v, w)) (h : xst (.iastore, nx, (a, b, c'), v, w) P (pc, L, st, M, z) = some (P', X')) (hP : P') (k : xA κ m r p e R s me args below meth c Q X') : P ∧ xA κ m r p e R s me args below meth c Q (pc, L, st, M, z) := by
  have he := xat_ck hl hC.2.2.2.2.2.2.2.2.2.2.2.2.1
  have hL := xckL_at hl hC.2.2.2.2.2.2.2.2.2.2.2.2.2
  obtain ⟨hd, hn, ho⟩ := xck_d he rfl
  obtain ⟨hx, hb, hml, hown, hts, hK, hfr, hlo, hce, hsl, hsz, hini, -, -⟩ := hC
  dsimp only [xil] at hd hn
  subst hn
  unfold xst at h
  dsimp only at h
  split at h
  · cases h
    obtain ⟨⟨len, hs, hlt, i0, i1⟩, hP⟩ := hP
    exact ⟨hP, fun H locs ls h1 h3 h4 h5 h6 h7 => va_iast hx hb hK h1 (xwsD κ _ M _) h4 _ 0 (xws_at hlt hs) rfl (vp_in_iff.mpr ⟨i0, i1⟩) hd (fun H1 locs1 g1 _ g3 => k H1 locs1 ls (xset_va hlt hs (congrArg (fun f => (Sum.inl (κ.2.2.2 0, len, Sum.inl f) : va_E)) (x_upd M _ _ _)) xOff_I g1) h3 g3 h5 h6 h7)⟩
  · cases h
theorem xs_lastore (hC : xC κ m r p e R s me args below meth c) (hl : xat m pc = some (.lastore, nx, (a, b, c'), v, w)) (h : xst (.lastore, nx, (a, b, c'), v, w) P (pc, L, st, M, z) = some (P', X')) (hP : P') (k : xA κ m r p e R s me args below meth c Q X') : P ∧ xA κ m r p e R s me args below meth c Q (pc, L, st, M, z) := by
  have he := xat_ck hl hC.2.2.2.2.2.2.2.2.2.2.2.2.1
  have hL := xckL_at hl hC.2.2.2.2.2.2.2.2.2.2.2.2.2
  obtain ⟨hd, hn, ho⟩ := xck_d he rfl
  obtain ⟨hx, hb, hml, hown, hts, hK, hfr, hlo, hce, hsl, hsz, hini, -, -⟩ := hC
  dsimp only [xil] at hd hn
  subst hn
  unfold xst at h
  dsimp only at h
  split at h
  · cases h
    obtain ⟨⟨len, hs, hlt, i0, i1⟩, hP⟩ := hP
    exact ⟨hP, fun H locs ls h1 h3 h4 h5 h6 h7 => va_last hx hb hK h1 (xwsD κ _ M _) h4 _ 1 (xws_at hlt hs) rfl (vp_in_iff.mpr ⟨i0, i1⟩) hd (fun H1 locs1 g1 _ g3 => k H1 locs1 ls (xset_va hlt hs (congrArg (fun f => (Sum.inl (κ.2.2.2 1, len, Sum.inr (Sum.inl f)) : va_E)) (x_updL M _ _ _)) xOff_J g1) h3 g3 h5 h6 h7)⟩
  · cases h
theorem xs_bastore (hC : xC κ m r p e R s me args below meth c) (hl : xat m pc = some (.bastore, nx, (a, b, c'), v, w)) (h : xst (.bastore, nx, (a, b, c'), v, w) P (pc, L, st, M, z) = some (P', X')) (hP : P') (k : xA κ m r p e R s me args below meth c Q X') : P ∧ xA κ m r p e R s me args below meth c Q (pc, L, st, M, z) := by
  have he := xat_ck hl hC.2.2.2.2.2.2.2.2.2.2.2.2.1
  have hL := xckL_at hl hC.2.2.2.2.2.2.2.2.2.2.2.2.2
  obtain ⟨hd, hn, ho⟩ := xck_d he rfl
  obtain ⟨hx, hb, hml, hown, hts, hK, hfr, hlo, hce, hsl, hsz, hini, -, -⟩ := hC
  dsimp only [xil] at hd hn
  subst hn
  unfold xst at h
  dsimp only at h
  split at h
  · cases h
    obtain ⟨⟨h01, len, hs, hlt, i0, i1⟩, hP⟩ := hP
    exact ⟨hP, fun H locs ls h1 h3 h4 h5 h6 h7 => va_zast hx hb hK h1 (xwsD κ _ M _) h4 _ 2 (xws_at hlt hs) rfl (vp_in_iff.mpr ⟨i0, i1⟩) hd (fun H1 locs1 g1 _ g3 => k H1 locs1 ls (xset_va hlt hs ((congrArg (fun y => (Sum.inl (κ.2.2.2 2, len, Sum.inl (upd (gI M _) _ y)) : va_E)) h01).trans (congrArg (fun f => (Sum.inl (κ.2.2.2 2, len, Sum.inl f) : va_E)) (x_upd M _ _ _))) xOff_I g1) h3 g3 h5 h6 h7)⟩
  · cases h
theorem xs_aastore (hC : xC κ m r p e R s me args below meth c) (hl : xat m pc = some (.aastore, nx, (a, b, c'), v, w)) (h : xst (.aastore, nx, (a, b, c'), v, w) P (pc, L, st, M, z) = some (P', X')) (hP : P') (k : xA κ m r p e R s me args below meth c Q X') : P ∧ xA κ m r p e R s me args below meth c Q (pc, L, st, M, z) := by
  have he := xat_ck hl hC.2.2.2.2.2.2.2.2.2.2.2.2.1
  have hL := xckL_at hl hC.2.2.2.2.2.2.2.2.2.2.2.2.2
  obtain ⟨hd, hn, ho⟩ := xck_d he rfl
  obtain ⟨hx, hb, hml, hown, hts, hK, hfr, hlo, hce, hsl, hsz, hini, -, -⟩ := hC
  dsimp only [xil] at hd hn
  subst hn
  unfold xst at h
  dsimp only at h
  split at h
  · rename_i x i o _
    cases hdy : ((z.2.1 || xdyn o i.toNatClampNeg) && (Nat.beq a 3 && Nat.beq b 3 || (Nat.beq a 4 && Nat.beq b 5 || Nat.beq a 5 && Nat.beq b 8))) with
    | false => rw [hdy] at h; cases h
    | true =>
      rw [hdy] at h
      cases h
      rw [Bool.and_eq_true] at hdy
      obtain ⟨hdy, hab⟩ := hdy
      simp only [Bool.and_eq_true, Bool.or_eq_true] at hab
      obtain ⟨⟨⟨len, hs, hlt, i0, i1⟩, hs2, hlt2⟩, hP⟩ := hP
      refine ⟨hP, fun H locs ls h1 h3 h4 h5 h6 h7 => ?_⟩
      have hin := vp_in_iff.mpr ⟨i0, i1⟩
      have fin : ∀ (H1 : Heap) (locs1 : List Loc), va_P κ.2.2.1 vwCl ((xws κ z.2.1 M z.1).set o (κ.2.1 + o, xcell κ.2.1 κ.2.2.2 z.2.1 (sP M o i.toNatClampNeg (some x)) o (.inr (a, len)))) H1 → va_S (fun q => κ.2.1 ≤ q) s.heap H1 locs1 → W p κ.1 e R s me args below meth c H1 locs1 z.2.2.1 z.2.2.2 Q (F0 me (pc + 1) ls (List.map (xcv κ.2.1) _)) := fun H1 locs1 g1 g3 => k H1 locs1 ls (xset_va hlt hs rfl xOff_P g1) h3 g3 h5 h6 h7
      rcases hab with ⟨ha, hb2⟩ | ⟨ha, hb2⟩ | ⟨ha, hb2⟩
      · have ha := Nat.eq_of_beq_eq_true ha
        have hb2 := Nat.eq_of_beq_eq_true hb2
        subst ha; subst hb2
        exact va_astq hx hb hK h1 (xwsD κ _ M _) h4 o 3 x 3 (r := (RX3, TX3, 8)) (xws_at hlt hs) rfl (xws_at hlt2 hs2) rfl hin hd (fun H1 locs1 g1 _ g3 => fin H1 locs1 (by rw [x_up M o _ x hdy] at g1; exact g1) g3)
      · have ha := Nat.eq_of_beq_eq_true ha
        have hb2 := Nat.eq_of_beq_eq_true hb2
        subst ha; subst hb2
        exact va_astq hx hb hK h1 (xwsD κ _ M _) h4 o 4 x 5 (r := (RX5, TX5, 7)) (xws_at hlt hs) rfl (xws_at hlt2 hs2) rfl hin hd (fun H1 locs1 g1 _ g3 => fin H1 locs1 (by rw [x_up M o _ x hdy] at g1; exact g1) g3)
      · have ha := Nat.eq_of_beq_eq_true ha
        have hb2 := Nat.eq_of_beq_eq_true hb2
        subst ha; subst hb2
        exact va_astq hx hb hK h1 (xwsD κ _ M _) h4 o 5 x 8 (r := (RX8, TX8, 5)) (xws_at hlt hs) rfl (xws_at hlt2 hs2) rfl hin hd (fun H1 locs1 g1 _ g3 => fin H1 locs1 (by rw [x_up M o _ x hdy] at g1; exact g1) g3)
  · cases h
theorem xs_arraylength (hC : xC κ m r p e R s me args below meth c) (hl : xat m pc = some (.arraylength, nx, (a, b, c'), v, w)) (h : xst (.arraylength, nx, (a, b, c'), v, w) P (pc, L, st, M, z) = some (P', X')) (hP : P') (k : xA κ m r p e R s me args below meth c Q X') : P ∧ xA κ m r p e R s me args below meth c Q (pc, L, st, M, z) := by
  have he := xat_ck hl hC.2.2.2.2.2.2.2.2.2.2.2.2.1
  have hL := xckL_at hl hC.2.2.2.2.2.2.2.2.2.2.2.2.2
  obtain ⟨hd, hn, ho⟩ := xck_d he rfl
  obtain ⟨hx, hb, hml, hown, hts, hK, hfr, hlo, hce, hsl, hsz, hini, -, -⟩ := hC
  dsimp only [xil] at hd hn
  subst hn
  unfold xst at h
  dsimp only at h
  split at h
  · rename_i o _
    cases h
    obtain ⟨⟨⟨kd, len, hk6, hs⟩, hlt⟩, hP⟩ := hP
    refine ⟨hP, fun H locs ls h1 h3 h4 h5 h6 h7 => ?_⟩
    have kk := k H locs ls h1 h3 h4 h5 h6 h7
    have hlen : xlen o = len := by unfold xlen; rw [hs]
    have hv : Int32.ofNat len = nI (xlen o) := by rw [hlen]; rfl
    rcases (show kd = 0 ∨ kd = 1 ∨ kd = 2 ∨ kd = 3 ∨ kd = 4 ∨ kd = 5 ∨ kd = 6 by omega) with rfl | rfl | rfl | rfl | rfl | rfl | rfl
    · exact va_alen hx hb hK h1 o 0 (xws_at hlt hs) rfl hv hd kk
    · exact va_alen hx hb hK h1 o 1 (xws_at hlt hs) rfl hv hd kk
    · exact va_alen hx hb hK h1 o 2 (xws_at hlt hs) rfl hv hd kk
    · exact va_alen hx hb hK h1 o 3 (xws_at hlt hs) rfl hv hd kk
    · exact va_alen hx hb hK h1 o 4 (xws_at hlt hs) rfl hv hd kk
    · exact va_alen hx hb hK h1 o 5 (xws_at hlt hs) rfl hv hd kk
    · exact va_alen hx hb hK h1 o 6 (xws_at hlt hs) rfl hv hd kk
  · cases h
theorem xs_invokestatic {q : Nat} (hC : xC κ m r p e R s me args below meth c) (hl : xat m pc = some (.invokestatic q, nx, (a, b, c'), v, w)) (h : xst (.invokestatic q, nx, (a, b, c'), v, w) P (pc, L, st, M, z) = some (P', X')) (hP : P') (k : xA κ m r p e R s me args below meth c Q X') : P ∧ xA κ m r p e R s me args below meth c Q (pc, L, st, M, z) := by
  have he := xat_ck hl hC.2.2.2.2.2.2.2.2.2.2.2.2.1
  have hL := xckL_at hl hC.2.2.2.2.2.2.2.2.2.2.2.2.2
  obtain ⟨hd, hn, ho⟩ := xck_d he rfl
  obtain ⟨hx, hb, hml, hown, hts, hK, hfr, hlo, hce, hsl, hsz, hini, -, -⟩ := hC
  dsimp only [xil] at hd hn
  subst hn
  unfold xst at h
  dsimp only at h
  unfold xsta at h
  cases hq999 : Nat.beq a 999 with
  | true =>
    rw [hq999] at h
    have ha := Nat.eq_of_beq_eq_true hq999
    subst ha
    dsimp only [cond_true] at h
    split at h
    · rename_i st9
      cases hcat : Nat.ble (xcat st9) 8 with
      | false => rw [hcat] at h; cases h
      | true =>
        rw [hcat] at h
        cases h
        have hcat := Nat.le_of_ble_eq_true hcat
        have hlk : _ ∈ GW := xw_in ho
        refine ⟨hP.2, fun H locs ls h1 h3 h4 h5 h6 h7 => ?_⟩
        have hlsz : c.maxLocals = ls.size := by obtain ⟨lv, hlv, _⟩ := h5; rw [hml, hlv.1]
        have hsum := xcat_eq κ.2.1 st9
        obtain ⟨⟨l0, l1, s0, s1, g0, g1, z0, z1, z2, z3, z4⟩, -⟩ := hP
        have cl : ∀ y : Int32, 0 ≤ y.toInt → (y.toNatClampNeg : Int) = y.toInt := fun y hy => Int.toNat_of_nonneg hy
        have nl : ∀ y : Int32, 0 ≤ y.toInt → ¬ y < 0 := fun y hy hq => by rw [Int32.lt_iff_toInt_lt, Int32.toInt_zero] at hq; omega
        exact va_copyi hx hb hlsz hown (hts _ hlk) (hts _ gw_cpy_n) (hts _ gw_cpy_s) (hts _ gw_sys) hK h1 (xwsD κ _ M _) h4 _ _ 0 0 (xws_at g0 s0) (xws_at g1 s1) rfl rfl rfl (nl _ z0) (nl _ z1) (nl _ z2) (by have := cl _ z0; have := cl _ z2; omega) (by have := cl _ z1; have := cl _ z2; omega) (fun _ _ => rfl) (by omega) (by have := nfw; rw [hsum]; omega) hd (fun H1 locs1 g9 _ g3 => k H1 locs1 ls (xset_va g1 s1 (congrArg (fun f => (Sum.inl (κ.2.2.2 0, l1, Sum.inl f) : va_E)) (x_cpy M _ _ _ _ _).symm) xOff_C g9) h3 g3 h5 h6 h7)
    · cases h
  | false =>
  rw [hq999] at h
  dsimp only [cond_false] at h
  cases hq991 : Nat.beq a 991 with
  | true =>
    rw [hq991] at h
    have ha := Nat.eq_of_beq_eq_true hq991
    subst ha
    dsimp only [cond_true] at h
    split at h
    · rename_i st9
      cases hcat : Nat.ble (xcat st9) 8 with
      | false => rw [hcat] at h; cases h
      | true =>
        rw [hcat] at h
        cases h
        have hcat := Nat.le_of_ble_eq_true hcat
        have hlk : _ ∈ GW := xw_in ho
        refine ⟨hP, fun H locs ls h1 h3 h4 h5 h6 h7 => ?_⟩
        have hlsz : c.maxLocals = ls.size := by obtain ⟨lv, hlv, _⟩ := h5; rw [hml, hlv.1]
        have hsum := xcat_eq κ.2.1 st9
        exact va_mmax hx hb hlsz hown (hts _ hlk) (hts _ gw_max_s) (hts _ gw_math) (hts _ gw_max_c) (by omega) (by rw [hsum]; omega) (by omega) (by omega) hd (k H locs ls h1 h3 h4 h5 h6 h7)
    · cases h
  | false =>
  rw [hq991] at h
  dsimp only [cond_false] at h
  cases hq992 : Nat.beq a 992 with
  | true =>
    rw [hq992] at h
    have ha := Nat.eq_of_beq_eq_true hq992
    subst ha
    dsimp only [cond_true] at h
    split at h
    · rename_i st9
      cases hcat : Nat.ble (xcat st9) 8 with
      | false => rw [hcat] at h; cases h
      | true =>
        rw [hcat] at h
        cases h
        have hcat := Nat.le_of_ble_eq_true hcat
        have hlk : _ ∈ GW := xw_in ho
        refine ⟨hP, fun H locs ls h1 h3 h4 h5 h6 h7 => ?_⟩
        have hlsz : c.maxLocals = ls.size := by obtain ⟨lv, hlv, _⟩ := h5; rw [hml, hlv.1]
        have hsum := xcat_eq κ.2.1 st9
        exact va_mmin hx hb hlsz hown (hts _ hlk) (hts _ gw_min_s) (hts _ gw_math) (hts _ gw_min_c) (by omega) (by rw [hsum]; omega) (by omega) (by omega) hd (k H locs ls h1 h3 h4 h5 h6 h7)
    · cases h
  | false =>
  rw [hq992] at h
  dsimp only [cond_false] at h
  cases hq993 : Nat.beq a 993 with
  | true =>
    rw [hq993] at h
    have ha := Nat.eq_of_beq_eq_true hq993
    subst ha
    dsimp only [cond_true] at h
    split at h
    · rename_i st9
      cases hcat : Nat.ble (xcat st9) 8 with
      | false => rw [hcat] at h; cases h
      | true =>
        rw [hcat] at h
        cases h
        have hcat := Nat.le_of_ble_eq_true hcat
        have hlk : _ ∈ GW := xw_in ho
        refine ⟨hP, fun H locs ls h1 h3 h4 h5 h6 h7 => ?_⟩
        have hlsz : c.maxLocals = ls.size := by obtain ⟨lv, hlv, _⟩ := h5; rw [hml, hlv.1]
        have hsum := xcat_eq κ.2.1 st9
        exact va_mabs hx hb hlsz hown (hts _ hlk) (hts _ gw_abs_s) (hts _ gw_math) (hts _ gw_abs_c) (by omega) (by rw [hsum]; omega) (by omega) (by omega) hd (k H locs ls h1 h3 h4 h5 h6 h7)
    · cases h
  | false =>
  rw [hq993] at h
  dsimp only [cond_false] at h
  cases hq994 : Nat.beq a 994 with
  | true =>
    rw [hq994] at h
    have ha := Nat.eq_of_beq_eq_true hq994
    subst ha
    dsimp only [cond_true] at h
    split at h
    · rename_i st9
      cases hcat : Nat.ble (xcat st9) 8 with
      | false => rw [hcat] at h; cases h
      | true =>
        rw [hcat] at h
        cases h
        have hcat := Nat.le_of_ble_eq_true hcat
        have hlk : _ ∈ GW := xw_in ho
        refine ⟨hP, fun H locs ls h1 h3 h4 h5 h6 h7 => ?_⟩
        have hlsz : c.maxLocals = ls.size := by obtain ⟨lv, hlv, _⟩ := h5; rw [hml, hlv.1]
        have hsum := xcat_eq κ.2.1 st9
        exact va_mmax_long hx hb hlsz hown (hts _ hlk) (hts _ gw_maxl_s) (hts _ gw_math) (hts _ gw_maxl_c) (by omega) (by rw [hsum]; omega) (by omega) (by omega) hd (k H locs ls h1 h3 h4 h5 h6 h7)
    · cases h
  | false =>
  rw [hq994] at h
  dsimp only [cond_false] at h
  cases hq995 : Nat.beq a 995 with
  | true =>
    rw [hq995] at h
    have ha := Nat.eq_of_beq_eq_true hq995
    subst ha
    dsimp only [cond_true] at h
    split at h
    · rename_i st9
      cases hcat : Nat.ble (xcat st9) 8 with
      | false => rw [hcat] at h; cases h
      | true =>
        rw [hcat] at h
        cases h
        have hcat := Nat.le_of_ble_eq_true hcat
        have hlk : _ ∈ GW := xw_in ho
        refine ⟨hP, fun H locs ls h1 h3 h4 h5 h6 h7 => ?_⟩
        have hlsz : c.maxLocals = ls.size := by obtain ⟨lv, hlv, _⟩ := h5; rw [hml, hlv.1]
        have hsum := xcat_eq κ.2.1 st9
        exact va_mmin_long hx hb hlsz hown (hts _ hlk) (hts _ gw_minl_s) (hts _ gw_math) (hts _ gw_minl_c) (by omega) (by rw [hsum]; omega) (by omega) (by omega) hd (k H locs ls h1 h3 h4 h5 h6 h7)
    · cases h
  | false =>
  rw [hq995] at h
  dsimp only [cond_false] at h
  cases hq996 : Nat.beq a 996 with
  | true =>
    rw [hq996] at h
    have ha := Nat.eq_of_beq_eq_true hq996
    subst ha
    dsimp only [cond_true] at h
    split at h
    · rename_i st9
      cases hcat : Nat.ble (xcat st9) 8 with
      | false => rw [hcat] at h; cases h
      | true =>
        rw [hcat] at h
        cases h
        have hcat := Nat.le_of_ble_eq_true hcat
        have hlk : _ ∈ GW := xw_in ho
        refine ⟨hP, fun H locs ls h1 h3 h4 h5 h6 h7 => ?_⟩
        have hlsz : c.maxLocals = ls.size := by obtain ⟨lv, hlv, _⟩ := h5; rw [hml, hlv.1]
        have hsum := xcat_eq κ.2.1 st9
        exact va_mabs_long hx hb hlsz hown (hts _ hlk) (hts _ gw_absl_s) (hts _ gw_math) (hts _ gw_absl_c) (by omega) (by rw [hsum]; omega) (by omega) (by omega) hd (k H locs ls h1 h3 h4 h5 h6 h7)
    · cases h
  | false =>
  rw [hq996] at h
  dsimp only [cond_false] at h
  cases h

end XSTEP
