section XRULE
variable {κ : xKK} {m : xMI} {r : xRm} {p : Program} {e : Env} {R : Room} {s : State} {me : MethodId} {args : Array Value} {below : List Frame} {meth : Method} {c : Code} {Q : State → Prop} {P P' : Prop} {pc nx a b c' : Nat} {v : Int32} {w : Int64} {L : xLc} {st : List Value} {M : xM} {z : xZ} {X X' : xX} {YS : xX → Prop}

theorem xst_ok {e0 : xI} (hC : xC κ m r p e R s me args below meth c) (hl : xat m X.1 = some e0) (h : xst e0 P X = some (P', X')) (hP : P') (k : xA κ m r p e R s me args below meth c Q X') : P ∧ xA κ m r p e R s me args below meth c Q X := by
  obtain ⟨pc, L, st, M, z⟩ := X
  obtain ⟨ins, nx, ⟨a, b, c'⟩, v, w⟩ := e0
  cases ins
  case iadd => exact xs_iadd hC hl h hP k
  case isub => exact xs_isub hC hl h hP k
  case imul => exact xs_imul hC hl h hP k
  case iand => exact xs_iand hC hl h hP k
  case ior => exact xs_ior hC hl h hP k
  case ixor => exact xs_ixor hC hl h hP k
  case ineg => exact xs_ineg hC hl h hP k
  case ishl => exact xs_ishl hC hl h hP k
  case ishr => exact xs_ishr hC hl h hP k
  case ladd => exact xs_ladd hC hl h hP k
  case lsub => exact xs_lsub hC hl h hP k
  case lmul => exact xs_lmul hC hl h hP k
  case lor => exact xs_lor hC hl h hP k
  case lneg => exact xs_lneg hC hl h hP k
  case lcmp => exact xs_lcmp hC hl h hP k
  case iushr => exact xs_iushr hC hl h hP k
  case lshl => exact xs_lshl hC hl h hP k
  case i2l => exact xs_i2l hC hl h hP k
  case l2i => exact xs_l2i hC hl h hP k
  case i2b => exact xs_i2b hC hl h hP k
  case i2s => exact xs_i2s hC hl h hP k
  case dup => exact xs_dup hC hl h hP k
  case dup2 => exact xs_dup2 hC hl h hP k
  case idiv => exact xs_idiv hC hl h hP k
  case irem => exact xs_irem hC hl h hP k
  case ldiv => exact xs_ldiv hC hl h hP k
  case iconst => exact xs_iconst hC hl h hP k
  case bipush => exact xs_bipush hC hl h hP k
  case sipush => exact xs_sipush hC hl h hP k
  case lconst => exact xs_lconst hC hl h hP k
  case ldc => exact xs_ldc hC hl h hP k
  case ldc_w => exact xs_ldc_w hC hl h hP k
  case ldc2_w => exact xs_ldc2_w hC hl h hP k
  case aconst_null => exact xs_aconst_null hC hl h hP k
  case iload_n => exact xs_iload_n hC hl h hP k
  case iload => exact xs_iload hC hl h hP k
  case lload_n => exact xs_lload_n hC hl h hP k
  case lload => exact xs_lload hC hl h hP k
  case aload_n => exact xs_aload_n hC hl h hP k
  case aload => exact xs_aload hC hl h hP k
  case istore_n => exact xs_istore_n hC hl h hP k
  case istore => exact xs_istore hC hl h hP k
  case lstore_n => exact xs_lstore_n hC hl h hP k
  case lstore => exact xs_lstore hC hl h hP k
  case astore_n => exact xs_astore_n hC hl h hP k
  case astore => exact xs_astore hC hl h hP k
  case iinc => exact xs_iinc hC hl h hP k
  case goto => exact xs_goto hC hl h hP k
  case ifnull => exact xs_ifnull hC hl h hP k
  case ifnonnull => exact xs_ifnonnull hC hl h hP k
  case getfield => exact xs_getfield hC hl h hP k
  case putfield => exact xs_putfield hC hl h hP k
  case iaload => exact xs_iaload hC hl h hP k
  case laload => exact xs_laload hC hl h hP k
  case baload => exact xs_baload hC hl h hP k
  case aaload => exact xs_aaload hC hl h hP k
  case iastore => exact xs_iastore hC hl h hP k
  case lastore => exact xs_lastore hC hl h hP k
  case bastore => exact xs_bastore hC hl h hP k
  case aastore => exact xs_aastore hC hl h hP k
  case arraylength => exact xs_arraylength hC hl h hP k
  case invokestatic => exact xs_invokestatic hC hl h hP k
  all_goals exact absurd (show (none : Option (Prop × xX)) = some (P', X') from h) (by intro q; cases q)
theorem xrun_ok (hC : xC κ m r p e R s me args below meth c) : ∀ (n : Nat) (P : Prop) (X : xX) (P' : Prop) (X' : xX), xrun m n P X = some (P', X') → P' → xA κ m r p e R s me args below meth c Q X' → P ∧ xA κ m r p e R s me args below meth c Q X
  | 0, P, X, P', X', h, hP, k => by
    rw [xrun] at h
    cases h
    exact ⟨hP, k⟩
  | n + 1, P, X, P', X', h, hP, k => by
    rw [xrun] at h
    split at h
    · rename_i e0 hl
      split at h
      · rename_i P1 X1 h1
        obtain ⟨q1, q2⟩ := xrun_ok hC n P1 X1 P' X' h hP k
        exact xst_ok hC hl h1 q1 q2
      · cases h
    · cases h
/-- n instructions at once: what they ask, then the state behind them -/
theorem xG_run (n : Nat) {C : Prop} (h : xrun m n True X = some (C, X')) (hc : C) (k : xG κ m r X' YS) : xG κ m r X YS :=
  fun p e R s me args below meth c Q hC hY => (xrun_ok hC n True X C X' h hc (k p e R s me args below meth c Q hC hY)).2
theorem xG_br {cd : Prop} {Xt Xf : xX} (h : xbr m X = some (cd, Xt, Xf)) (ht : cd → xG κ m r Xt YS) (hf : ¬ cd → xG κ m r Xf YS) : xG κ m r X YS := by
  intro p e R s me args below meth c Q hC hY
  have kt : cd → xA κ m r p e R s me args below meth c Q Xt := fun q => ht q p e R s me args below meth c Q hC hY
  have kf : ¬ cd → xA κ m r p e R s me args below meth c Q Xf := fun q => hf q p e R s me args below meth c Q hC hY
  clear ht hf hY
  obtain ⟨pc, L, st, M, z⟩ := X
  unfold xbr at h
  dsimp only at h
  split at h
  · rename_i ins nx a b c' v w hl
    have he := xat_ck hl hC.2.2.2.2.2.2.2.2.2.2.2.2.1
    obtain ⟨hx, hb, -⟩ := hC
    split at h
    · obtain ⟨hd, hn, ho⟩ := xck_d he rfl
      dsimp only [xil] at hd hn
      subst hn
      split at h
      · split at h
        · cases h
          exact fun H locs ls h1 h3 h4 h5 h6 h7 => lv_if_eq hx hb hd (of_decide_eq_true ho) (fun q => kt q H locs ls h1 h3 h4 h5 h6 h7) (fun q => kf q H locs ls h1 h3 h4 h5 h6 h7)
        · cases h
          exact fun H locs ls h1 h3 h4 h5 h6 h7 => lv_if_ne hx hb hd (of_decide_eq_true ho) (fun q => kt q H locs ls h1 h3 h4 h5 h6 h7) (fun q => kf (fun n => n q) H locs ls h1 h3 h4 h5 h6 h7)
        · cases h
          exact fun H locs ls h1 h3 h4 h5 h6 h7 => lv_if_lt hx hb hd (of_decide_eq_true ho) (fun q => kt q H locs ls h1 h3 h4 h5 h6 h7) (fun q => kf q H locs ls h1 h3 h4 h5 h6 h7)
        · cases h
          exact fun H locs ls h1 h3 h4 h5 h6 h7 => lv_if_ge hx hb hd (of_decide_eq_true ho) (fun q => kt q H locs ls h1 h3 h4 h5 h6 h7) (fun q => kf q H locs ls h1 h3 h4 h5 h6 h7)
        · cases h
          exact fun H locs ls h1 h3 h4 h5 h6 h7 => lv_if_gt hx hb hd (of_decide_eq_true ho) (fun q => kt q H locs ls h1 h3 h4 h5 h6 h7) (fun q => kf q H locs ls h1 h3 h4 h5 h6 h7)
        · cases h
          exact fun H locs ls h1 h3 h4 h5 h6 h7 => lv_if_le hx hb hd (of_decide_eq_true ho) (fun q => kt q H locs ls h1 h3 h4 h5 h6 h7) (fun q => kf q H locs ls h1 h3 h4 h5 h6 h7)
      · cases h
    · obtain ⟨hd, hn, ho⟩ := xck_d he rfl
      dsimp only [xil] at hd hn
      subst hn
      split at h
      · split at h
        · cases h
          exact fun H locs ls h1 h3 h4 h5 h6 h7 => lv_icmp_eq hx hb hd (of_decide_eq_true ho) (fun q => kt q H locs ls h1 h3 h4 h5 h6 h7) (fun q => kf q H locs ls h1 h3 h4 h5 h6 h7)
        · cases h
          exact fun H locs ls h1 h3 h4 h5 h6 h7 => lv_icmp_ne hx hb hd (of_decide_eq_true ho) (fun q => kt q H locs ls h1 h3 h4 h5 h6 h7) (fun q => kf (fun n => n q) H locs ls h1 h3 h4 h5 h6 h7)
        · cases h
          exact fun H locs ls h1 h3 h4 h5 h6 h7 => lv_icmp_lt hx hb hd (of_decide_eq_true ho) (fun q => kt q H locs ls h1 h3 h4 h5 h6 h7) (fun q => kf q H locs ls h1 h3 h4 h5 h6 h7)
        · cases h
          exact fun H locs ls h1 h3 h4 h5 h6 h7 => lv_icmp_ge hx hb hd (of_decide_eq_true ho) (fun q => kt q H locs ls h1 h3 h4 h5 h6 h7) (fun q => kf q H locs ls h1 h3 h4 h5 h6 h7)
        · cases h
          exact fun H locs ls h1 h3 h4 h5 h6 h7 => lv_icmp_gt hx hb hd (of_decide_eq_true ho) (fun q => kt q H locs ls h1 h3 h4 h5 h6 h7) (fun q => kf q H locs ls h1 h3 h4 h5 h6 h7)
        · cases h
          exact fun H locs ls h1 h3 h4 h5 h6 h7 => lv_icmp_le hx hb hd (of_decide_eq_true ho) (fun q => kt q H locs ls h1 h3 h4 h5 h6 h7) (fun q => kf q H locs ls h1 h3 h4 h5 h6 h7)
      · cases h
    · cases h
  · cases h
theorem xG_brT {cd : Prop} {Xt Xf : xX} (h : xbr m X = some (cd, Xt, Xf)) (hc : cd) (ht : xG κ m r Xt YS) : xG κ m r X YS := xG_br h (fun _ => ht) (fun q => absurd hc q)
theorem xG_brF {cd : Prop} {Xt Xf : xX} (h : xbr m X = some (cd, Xt, Xf)) (hc : ¬ cd) (hf : xG κ m r Xf YS) : xG κ m r X YS := xG_br h (fun q => absurd q hc) (fun _ => hf)
theorem xG_sw {d lo hi : Int} {offs : Array Int} {x : Int32} (tgt : Nat) (hl : xat m pc = some (.tableswitch d lo hi offs, nx, (a, b, c'), v, w)) (ho : if x.toInt < lo ∨ hi < x.toInt then (pc : Int) + d = (tgt : Int) else ∃ off, offs[(x.toInt - lo).toNat]? = some off ∧ (pc : Int) + off = (tgt : Int)) (k : xG κ m r (tgt, L, st, M, z) YS) : xG κ m r (pc, L, .int x :: st, M, z) YS := by
  intro p e R s me args below meth c Q hC hY
  have kk := k p e R s me args below meth c Q hC hY
  have he := xat_ck hl hC.2.2.2.2.2.2.2.2.2.2.2.2.1
  obtain ⟨hx, hb, -⟩ := hC
  have he : ((match decode m.1.2.2 pc with
      | .ok (i, _) => decide (i = .tableswitch d lo hi offs)
      | .error _ => false) && _) = true := he
  rw [Bool.and_eq_true] at he
  have he := he.1
  split at he
  · rename_i i len hd
    have hi2 := of_decide_eq_true he
    subst hi2
    split at ho
    · rename_i hh
      exact fun H locs ls h1 h3 h4 h5 h6 h7 => lv_tableOut hx hb hd hh ho (kk H locs ls h1 h3 h4 h5 h6 h7)
    · rename_i hh
      obtain ⟨off, o1, o2⟩ := ho
      exact fun H locs ls h1 h3 h4 h5 h6 h7 => lv_tableIn hx hb hd (fun q => hh (Or.inl q)) (fun q => hh (Or.inr q)) o1 o2 (kk H locs ls h1 h3 h4 h5 h6 h7)
  · cases he
theorem xG_lsw {d : Int} {ps : Array (Int × Int)} {x : Int32} (tgt : Nat) (off : Int) (hl : xat m pc = some (.lookupswitch d ps, nx, (a, b, c'), v, w)) (hs : (ps.toList.zip (ps.toList.drop 1)).all (fun (a, next) => a.1 < next.1) = true) (ho : Op.lookupswitch.offset ps.toList d x.toInt = off) (ht : (pc : Int) + off = (tgt : Int)) (k : xG κ m r (tgt, L, st, M, z) YS) : xG κ m r (pc, L, .int x :: st, M, z) YS := by
  intro p e R s me args below meth c Q hC hY
  have kk := k p e R s me args below meth c Q hC hY
  have he := xat_ck hl hC.2.2.2.2.2.2.2.2.2.2.2.2.1
  obtain ⟨hx, hb, -⟩ := hC
  have he : ((match decode m.1.2.2 pc with
      | .ok (i, _) => decide (i = .lookupswitch d ps)
      | .error _ => false) && _) = true := he
  rw [Bool.and_eq_true] at he
  have he := he.1
  split at he
  · rename_i i len hd
    have hi2 := of_decide_eq_true he
    subst hi2
    exact fun H locs ls h1 h3 h4 h5 h6 h7 => lv_lookup hx hb hd hs ho ht (kk H locs ls h1 h3 h4 h5 h6 h7)
  · cases he
end XRULE
/-! ===== a method: its contract, out of a walk from its entry to its returns ===== -/
def xPc (κ : xKK) (as : List Value) (M : xM) (n : Nat) (ex : Bool) : Array Value → State → Prop := fun v U => v = (as.map (xcv κ.2.1)).toArray ∧ va_P κ.2.2.1 vwCl (xws κ ex M n) U.heap ∧ va_K κ.2.2.1 vwCl (xtys κ.2.2.2) U ∧ κ.2.1 ≤ U.heap.size ∧ (ex = true → U.heap.size = κ.2.1 + n)
def xQc (κ : xKK) (ex : Bool) (Post : Option Value → xM → Nat → Prop) : Array Value → State → Outcome → State → Prop := fun _ st oc t => (∃ (v : Option Value) (M' : xM) (n' : Nat), oc = .returned (v.map (xcv κ.2.1)) ∧ Post v M' n' ∧ va_P κ.2.2.1 vwCl (xws κ ex M' n') t.heap) ∧ va_F (fun q => κ.2.1 ≤ q) st t
noncomputable def xwm (m : xMI) : List Cond := .code m.1.2.1 m.1.2.2 m.2.1.1 m.2.1.2.1 :: GW
def xrm (r : xRm) : Room := { frames := r.1 + 1, cells := r.2.1, slots := r.2.2, locals := 40 * (r.1 + 1) }
/-- the method m, with these arguments, over this memory of n cells, comes back with Post -/
def xEv (κ : xKK) (m : xMI) (r : xRm) (as : List Value) (M : xM) (n : Nat) (ex : Bool) (Post : Option Value → xM → Nat → Prop) : Prop :=
  Met κ.1 m.1.2.1 (xwm m) (xrm r) (xPc κ as M n ex) (xQc κ ex Post) r.2.1 r.2.2 (fun q => κ.2.1 ≤ q)
def xRet (m : xMI) (ex : Bool) (Post : Option Value → xM → Nat → Prop) (Y : xX) : Prop :=
  ∃ e0, xat m Y.1 = some e0 ∧ Y.2.2.2.2.2.1 = ex ∧
  ((e0.1 = .ireturn ∧ ∃ v t, Y.2.2.1 = [.int v] ∧ m.2.1.2.1 = some t ∧ narrow t (.int v) = .int v ∧ Post (some (.int v)) Y.2.2.2.1 Y.2.2.2.2.1) ∨
   (e0.1 = .lreturn ∧ ∃ v, Y.2.2.1 = [.long v] ∧ m.2.1.2.1 = some .long ∧ Post (some (.long v)) Y.2.2.2.1 Y.2.2.2.2.1) ∨
   (e0.1 = .areturn ∧ ∃ q t, Y.2.2.1 = [xrf q] ∧ m.2.1.2.1 = some t ∧ xrT t = true ∧ Post (some (xrf q)) Y.2.2.2.1 Y.2.2.2.2.1) ∨
   (e0.1 = .return_ ∧ Y.2.2.1 = [] ∧ m.2.1.2.1 = none ∧ Post none Y.2.2.2.1 Y.2.2.2.2.1))
def xent : List Value → xLc
  | [] => []
  | .long x :: l => some (.long x) :: none :: xent l
  | .double x :: l => some (.double x) :: none :: xent l
  | v :: l => some v :: xent l
def xfill : Nat → xLc → xLc
  | 0, _ => []
  | n + 1, [] => none :: xfill n []
  | n + 1, a :: l => a :: xfill n l
theorem xfill_get : ∀ (n : Nat) (l : xLc) (j : Nat) (w : Value), xget (xfill n l) j = some w → xget l j = some w
  | 0, _, _, _, h => by rw [xfill, xget_nil] at h; cases h
  | n + 1, [], 0, _, h => by rw [xfill, xget_0] at h; cases h
  | n + 1, [], j + 1, w, h => by
    rw [xfill, xget_s] at h
    have := xfill_get n [] j w h
    rw [xget_nil] at this
    cases this
  | n + 1, a :: l, 0, _, h => by rw [xfill, xget_0] at h; rw [xget_0]; exact h
  | n + 1, a :: l, j + 1, w, h => by rw [xfill, xget_s] at h; rw [xget_s]; exact xfill_get n l j w h
theorem xent_1 (b : Nat) (v : Value) (l : List Value) (hv : v.category = 1) (ih : ∀ i j w, xget (xent l) j = some w → (i + j, xcv b w) ∈ lv_args i (l.map (xcv b))) (i j : Nat) (w : Value) (h : xget (some v :: xent l) j = some w) : (i + j, xcv b w) ∈ lv_args i ((v :: l).map (xcv b)) := by
  rw [List.map_cons, lv_args, if_neg (by rw [xcv_cat, hv]; decide)]
  cases j with
  | zero => rw [xget_0] at h; cases h; exact List.mem_cons_self
  | succ j =>
    rw [xget_s] at h
    have := ih (i + 1) j w h
    rw [show i + (j + 1) = i + 1 + j by omega]
    exact List.mem_cons_of_mem _ this
theorem xent_2 (b : Nat) (v : Value) (l : List Value) (hv : v.category = 2) (ih : ∀ i j w, xget (xent l) j = some w → (i + j, xcv b w) ∈ lv_args i (l.map (xcv b))) (i j : Nat) (w : Value) (h : xget (some v :: none :: xent l) j = some w) : (i + j, xcv b w) ∈ lv_args i ((v :: l).map (xcv b)) := by
  rw [List.map_cons, lv_args, if_pos (by rw [xcv_cat, hv])]
  match j, h with
  | 0, h => rw [xget_0] at h; cases h; exact List.mem_cons_self
  | 1, h => rw [xget_s, xget_0] at h; cases h
  | j + 2, h =>
    rw [xget_s, xget_s] at h
    have := ih (i + 2) j w h
    rw [show i + (j + 2) = i + 2 + j by omega]
    exact List.mem_cons_of_mem _ this
theorem xent_get (b : Nat) : ∀ (l : List Value) (i j : Nat) (w : Value), xget (xent l) j = some w → (i + j, xcv b w) ∈ lv_args i (l.map (xcv b))
  | [], _, _, _, h => by rw [xent, xget_nil] at h; cases h
  | .long x :: l, i, j, w, h => xent_2 b (.long x) l rfl (xent_get b l) i j w h
  | .double x :: l, i, j, w, h => xent_2 b (.double x) l rfl (xent_get b l) i j w h
  | .int x :: l, i, j, w, h => xent_1 b (.int x) l rfl (xent_get b l) i j w h
  | .float x :: l, i, j, w, h => xent_1 b (.float x) l rfl (xent_get b l) i j w h
  | .null :: l, i, j, w, h => xent_1 b .null l rfl (xent_get b l) i j w h
  | .ref x :: l, i, j, w, h => xent_1 b (.ref x) l rfl (xent_get b l) i j w h
  | .retAddr x :: l, i, j, w, h => xent_1 b (.retAddr x) l rfl (xent_get b l) i j w h
def xwid : List Value → Nat
  | [] => 0
  | v :: l => v.category + xwid l
theorem xwid_sl (b : Nat) : ∀ l : List Value, (lg_sl (l.map (xcv b))).length = xwid l
  | [] => rfl
  | v :: l => by
    have h := xwid_sl b l
    unfold lg_sl at h ⊢
    rw [List.map_cons, List.flatMap_cons, List.length_append, h, xwid]
    congr 1
    rw [xcv_cat]
    rcases lv_cat v with q | q <;> rw [q] <;> rfl
theorem xckW_d {m : xMI} (h : xckW m = true) : (Cond.code m.1.2.1 m.1.2.2 m.2.1.1 m.2.1.2.1 ∈ GW) ∧ (if m.2.1.2.2.2 = true then Cond.static m.1.2.1 ∈ GW else Cond.instanceMethod m.1.2.1 ∈ GW) ∧ (m.2.1.2.2.2 = true ∨ m.1.2.1.name = "<init>" ∨ Cond.selects m.1.2.1.cls m.1.2.1 m.1.2.1 ∈ GW) ∧ Cond.initialized m.1.2.1.cls ∈ GW ∧ m.1.1 = m.1.2.1.cls ∧ (m.1.2.1.cls ≠ "java/lang/invoke/MethodHandle" ∧ m.1.2.1.cls ≠ "java/lang/invoke/VarHandle" ∧ (parseMethodDescriptor m.1.2.1.desc).map (fun d => d.parameters.length) = some m.2.1.2.2.1) ∧ m.2.1.1 ≤ 21 ∧ plainName m.1.2.1.cls = true := by
  obtain ⟨⟨own, y, by'⟩, ⟨maxL, ret, n, stt⟩, ⟨p0, p1, p2, p3⟩, es⟩ := m
  unfold xckW at h
  dsimp only at h
  simp only [Bool.and_eq_true] at h
  obtain ⟨⟨⟨⟨⟨⟨⟨h1, h2⟩, h3⟩, h4⟩, h5⟩, h6⟩, h7⟩, h8⟩ := h
  refine ⟨xw_in h1, ?_, ?_, xw_in h4, of_decide_eq_true h5, of_decide_eq_true h6, Nat.le_of_ble_eq_true h7, h8⟩
  · cases stt with
    | true => exact xw_in h2
    | false => exact xw_in h2
  · simp only [Bool.or_eq_true] at h3
    rcases h3 with (h3 | h3) | h3
    · exact Or.inl h3
    · exact Or.inr (Or.inl (of_decide_eq_true h3))
    · exact Or.inr (Or.inr (xw_in h3))
theorem xrf_or (b : Nat) (q : Option Nat) : xcv b (xrf q) = .null ∨ ∃ a, xcv b (xrf q) = .ref a := by
  cases q with
  | none => exact Or.inl rfl
  | some a => exact Or.inr ⟨_, rfl⟩
theorem xrT_or {t : FieldType} (h : xrT t = true) : (∃ n, t = .object n) ∨ ∃ t', t = .array t' := by
  cases t <;> first | exact Or.inl ⟨_, rfl⟩ | exact Or.inr ⟨_, rfl⟩ | exact absurd h (by decide)
theorem GW_good : ∀ w ∈ GW, (w.onTables && w.keeps) = true ∨ ∃ ty, w = .arrayClass ty := fun w hw => good_of_word (List.mem_filter.mp hw).2
theorem xEv_of {κ : xKK} {m : xMI} {r : xRm} {as : List Value} {M : xM} {n : Nat} {ex : Bool} {L : xLc} {Post : Option Value → xM → Nat → Prop} (hI : xckI m = true) (hLl : xckL m = true) (hW : xckW m = true) (hwid : Nat.ble (xwid as) m.2.1.1 = true) (hL : xfill m.2.1.1 (xent as) = L)
    (h : xG κ m r (0, L, [], M, n, ex, 0, 0) (xRet m ex Post)) : xEv κ m r as M n ex Post := by
  subst hL
  obtain ⟨w1, w2, w3, w4, w5, w6, w7, w8⟩ := xckW_d hW
  refine Met.ofW (cc := m.1.2.2) (maxL := m.2.1.1) (ret := m.2.1.2.1) w8 rfl ?_
  intro p e s me args below meth c s₁ B hml hv
  obtain ⟨rfl, hP, hK, hsz, hexa⟩ := hv
  have hts := atoms_spec (ws := xwm m) B.pre
  have hown : s.vm.findClass m.1.2.1.cls = some me.cls := findClass_of_methodNamed B.named
  have hin : meth.name = m.1.2.1.name := (name_of_methodNamed B.named B.method).1
  have hlocks := B.notSynchronized
  have hret := B.returns
  rw [lg_entry_eq]
  have hlv := lv_entry (as.map (xcv κ.2.1)) (n := m.2.1.1) (by rw [xwid_sl]; exact Nat.le_of_ble_eq_true hwid)
  have hC : xC κ m r p e (xrm r) s me (as.map (xcv κ.2.1)).toArray below meth c := ⟨B.exec, B.bytes, hml, by rw [w5]; exact hown, fun w hw => hts w (List.mem_cons_of_mem _ hw), hK, Nat.le_refl _, Nat.le_refl _, Nat.le_refl _, Nat.le_refl _, hsz, fun q => hin.trans q, hI, hLl⟩
  refine h p e (xrm r) s me _ below meth c _ hC ?_ s.heap [] _ hP (fun q => by rw [hexa q]; rfl) va_S.rf ⟨_, hlv, fun i v q => ?_⟩ (Nat.zero_le _) (Nat.zero_le _)
  · intro Y hY
    obtain ⟨e0, hl, hex, hY⟩ := hY
    subst hex
    obtain ⟨pc, L, st, M', z⟩ := Y
    obtain ⟨ins, nx, ⟨a, b, c'⟩, v0, w0⟩ := e0
    have he := xat_ck hl hI
    have fin : ∀ (H : Heap) (locs : List Loc) (v : Option Value), va_P κ.2.2.1 vwCl (xws κ z.2.1 M' z.1) H → va_S (fun q => κ.2.1 ≤ q) s.heap H locs → Post v M' z.1 → ∀ t : State, t.heap = H → s.WarmedH t.vm → xQc κ z.2.1 Post (as.map (xcv κ.2.1)).toArray s (.returned (v.map (xcv κ.2.1))) t := fun H locs v g1 g4 hp t ht _ => ⟨⟨v, M', z.1, rfl, hp, by rw [ht]; exact g1⟩, g4.F ht⟩
    rcases hY with ⟨hi, v, t, hst, hr, hn, hp⟩ | ⟨hi, v, hst, hr, hp⟩ | ⟨hi, q, t, hst, hr, hn, hp⟩ | ⟨hi, hst, hr, hp⟩
    · dsimp only at hi hst
      subst hi hst
      obtain ⟨hd, -, -⟩ := xck_d he rfl
      exact fun H locs ls g1 g3 g4 g5 g6 g7 => W.widen g6 g7 (W.zret B.exec B.bytes (hret.trans hr) hn (fin H locs _ g1 g4 hp) (fun q hq => g4.2.2 q hq) hd)
    · dsimp only at hi hst
      subst hi hst
      obtain ⟨hd, -, -⟩ := xck_d he rfl
      exact fun H locs ls g1 g3 g4 g5 g6 g7 => W.widen g6 g7 (W.lret B.exec B.bytes (hret.trans hr) (fin H locs _ g1 g4 hp) (fun q hq => g4.2.2 q hq) hd)
    · dsimp only at hi hst
      subst hi hst
      obtain ⟨hd, -, -⟩ := xck_d he rfl
      exact fun H locs ls g1 g3 g4 g5 g6 g7 => W.widen g6 g7 (W.aret B.exec B.bytes (hret.trans hr) (xrT_or hn) (xrf_or _ _) (fin H locs _ g1 g4 hp) (fun q hq => g4.2.2 q hq) hd)
    · dsimp only at hi hst
      subst hi hst
      obtain ⟨hd, -, -⟩ := xck_d he rfl
      exact fun H locs ls g1 g3 g4 g5 g6 g7 => W.widen g6 g7 (W.vret B.exec B.bytes (hret.trans hr) (fin H locs _ g1 g4 hp) (fun q hq => g4.2.2 q hq) hd)
  · have := xent_get κ.2.1 as 0 i v (xfill_get _ _ _ _ q)
    rwa [Nat.zero_add] at this

