/-! ===== the class reads rules: the loop ===== -/
theorem u_stepT {κ : xKK} {d t n p k i : Nat} {l : Int32} {T : Nat → Int32} {M : xM} {YS : xX → Prop} (hC : uC M t n T) (r3 : gI M 130 3 = nI p) (hpn : p < n) (r4 : gI M 130 4 = 0) (r5 : gI M 130 5 = 1) (r6 : gI M 130 6 = nI k) (hk : k ≤ 8) {a tu : Bool} (ha : gI M 134 k = bl2 a) (ht : gI M 135 k = bl2 tu) (hi : i ≤ p) (hd : 6 ≤ d) (kk : ∀ M', ((chr T n p = 33 ∧ M' = sI (sI M 135 k (bl2 (!tu))) 130 3 (nI (p + 1))) ∨ (chr T n p = 40 ∧ k = 8 ∧ M' = sI M 130 4 1) ∨ (chr T n p = 40 ∧ k < 8 ∧ M' = boM (sI (sI M 130 6 (nI (k + 1))) 130 3 (nI (p + 1))) (k + 1)) ∨ (¬ chr T n p = 33 ∧ ¬ chr T n p = 40 ∧ ∃ M1 b, uF M M1 ∧ ((cpX T n (fun i => gI M 131 i) p).1 = true → b = (cpX T n (fun i => gI M 131 i) p).2.2) ∧ gI M1 130 3 = nI (cpX T n (fun i => gI M 131 i) p).2.1 ∧ gI M1 130 4 = (if (cpX T n (fun i => gI M 131 i) p).1 = true then 0 else 1) ∧ M' = etM M1 k b a tu)) → xG κ mX6_read (d, 0, 0) (36, [some (.ref 130), some (.ref t), some (.int l), some (.int (nI (i + 1)))], [], M', z2) YS) : xG κ mX6_read (d, 0, 0) (36, [some (.ref 130), some (.ref t), some (.int l), some (.int (nI i))], [], M, z2) YS := by
  have hC9 := hC
  obtain ⟨c1, s2, hn2, hT, hsh, ht1, ht2⟩ := hC
  refine xG_run 3 rfl (by repeat' (first | exact trivial | assumption | exact xob_b rfl | exact xal_b rfl | (apply And.intro) | decide)) ?_
  try dsimp only [xsto1, xsto2, xkill, xget, xset, gd_0, gd_s]
  try simp (disch := omega) only [gI_self, g_ne, s2, r3, r4, r5, nI_1]
  try simp only [s2]
  refine xG_brF rfl (nI_ge (a := i) (b := n) (by omega) (by omega)) ?_
  refine xG_run 2 rfl (by repeat' (first | exact trivial | assumption | exact xob_b rfl | exact xal_b rfl | (apply And.intro) | decide)) ?_
  try dsimp only [xsto1, xsto2, xkill, xget, xset, gd_0, gd_s]
  try simp (disch := omega) only [gI_self, g_ne, s2, r3, r4, r5, nI_1]
  try simp only [r3]
  refine xG_run 2 rfl (by repeat' (first | exact trivial | assumption | exact xob_b rfl | exact xal_b rfl | (apply And.intro) | decide)) ?_
  try dsimp only [xsto1, xsto2, xkill, xget, xset, gd_0, gd_s]
  try simp (disch := omega) only [gI_self, g_ne, s2, r3, r4, r5, nI_1]
  try simp only [s2, r3]
  refine xG_brF rfl (nI_ge (a := p) (b := n) hpn (by omega)) ?_
  refine xG_run 2 rfl (by repeat' (first | exact trivial | assumption | exact xob_b rfl | exact xal_b rfl | (apply And.intro) | decide)) ?_
  try dsimp only [xsto1, xsto2, xkill, xget, xset, gd_0, gd_s]
  try simp (disch := omega) only [gI_self, g_ne, s2, r3, r4, r5, nI_1]
  try simp only [r4]
  refine xG_brF rfl (fun z => z rfl) ?_
  refine xG_run 2 rfl (by repeat' (first | exact trivial | assumption | exact xob_b rfl | exact xal_b rfl | (apply And.intro) | decide)) ?_
  try dsimp only [xsto1, xsto2, xkill, xget, xset, gd_0, gd_s]
  try simp (disch := omega) only [gI_self, g_ne, s2, r3, r4, r5, nI_1]
  try simp only [r5]
  refine xG_brF rfl (by decide) ?_
  refine xG_run 1 rfl (by repeat' (first | exact trivial | assumption | exact xob_b rfl | exact xal_b rfl | (apply And.intro) | decide)) ?_
  try dsimp only [xsto1, xsto2, xkill, xget, xset, gd_0, gd_s]
  try simp (disch := omega) only [gI_self, g_ne, s2, r3, r4, r5, nI_1]
  refine xG_c2 0 rfl (by repeat' (first | exact trivial | assumption | exact xob_b rfl | exact xal_b rfl | (apply And.intro) | decide)) rfl rfl (by decide) cw_X6_beginTest (d' := d - 1) (e_ubeginTest hC9 r3 hpn r4 r6 hk ha ht (by omega)) (by omega) ?_
  rintro v M' ⟨rfl, hv⟩
  dsimp only [Option.toList, List.cons_append, List.nil_append]
  refine xG_run 3 rfl (by repeat' (first | exact trivial | assumption | exact xob_b rfl | exact xal_b rfl | (apply And.intro) | decide)) ?_
  try dsimp only [xsto1, xsto2, xkill, xget, xset, gd_0, gd_s]
  try simp (disch := omega) only [gI_self, g_ne, s2, r3, r4, r5, nI_1]
  exact kk _ hv
theorem u_stepG {κ : xKK} {d t n p k i : Nat} {l : Int32} {T : Nat → Int32} {M : xM} {YS : xX → Prop} (hC : uC M t n T) (r3 : gI M 130 3 = nI p) (hpn : p < n) (r4 : gI M 130 4 = 0) (r5 : gI M 130 5 = 0) (r6 : gI M 130 6 = nI k) (hk : k ≤ 8) {y a a' t' : Bool} (hy : gI M 133 k = bl2 y) (ha : gI M 134 k = bl2 a) (hl : ∀ k', k = k' + 1 → gI M 134 k' = bl2 a' ∧ gI M 135 k' = bl2 t') (hi : i ≤ p) (hd : 6 ≤ d) (kk : ∀ M', ((chr T n p = 38 ∧ M' = sI (sI M 130 5 1) 130 3 (nI (p + 1))) ∨ (chr T n p = 124 ∧ M' = sI (sI (sI (sI M 133 k (bl2 (y || a))) 134 k 1) 130 5 1) 130 3 (nI (p + 1))) ∨ (chr T n p = 41 ∧ ∃ k', k = k' + 1 ∧ M' = sI (etM (sI M 130 6 (nI k')) k' (y || a) a' t') 130 3 (nI (p + 1))) ∨ (¬ chr T n p = 38 ∧ ¬ chr T n p = 124 ∧ ¬ (chr T n p = 41 ∧ 0 < k) ∧ M' = sI M 130 4 1)) → xG κ mX6_read (d, 0, 0) (36, [some (.ref 130), some (.ref t), some (.int l), some (.int (nI (i + 1)))], [], M', z2) YS) : xG κ mX6_read (d, 0, 0) (36, [some (.ref 130), some (.ref t), some (.int l), some (.int (nI i))], [], M, z2) YS := by
  have hC9 := hC
  obtain ⟨c1, s2, hn2, hT, hsh, ht1, ht2⟩ := hC
  refine xG_run 3 rfl (by repeat' (first | exact trivial | assumption | exact xob_b rfl | exact xal_b rfl | (apply And.intro) | decide)) ?_
  try dsimp only [xsto1, xsto2, xkill, xget, xset, gd_0, gd_s]
  try simp (disch := omega) only [gI_self, g_ne, s2, r3, r4, r5, nI_1]
  try simp only [s2]
  refine xG_brF rfl (nI_ge (a := i) (b := n) (by omega) (by omega)) ?_
  refine xG_run 2 rfl (by repeat' (first | exact trivial | assumption | exact xob_b rfl | exact xal_b rfl | (apply And.intro) | decide)) ?_
  try dsimp only [xsto1, xsto2, xkill, xget, xset, gd_0, gd_s]
  try simp (disch := omega) only [gI_self, g_ne, s2, r3, r4, r5, nI_1]
  try simp only [r3]
  refine xG_run 2 rfl (by repeat' (first | exact trivial | assumption | exact xob_b rfl | exact xal_b rfl | (apply And.intro) | decide)) ?_
  try dsimp only [xsto1, xsto2, xkill, xget, xset, gd_0, gd_s]
  try simp (disch := omega) only [gI_self, g_ne, s2, r3, r4, r5, nI_1]
  try simp only [s2, r3]
  refine xG_brF rfl (nI_ge (a := p) (b := n) hpn (by omega)) ?_
  refine xG_run 2 rfl (by repeat' (first | exact trivial | assumption | exact xob_b rfl | exact xal_b rfl | (apply And.intro) | decide)) ?_
  try dsimp only [xsto1, xsto2, xkill, xget, xset, gd_0, gd_s]
  try simp (disch := omega) only [gI_self, g_ne, s2, r3, r4, r5, nI_1]
  try simp only [r4]
  refine xG_brF rfl (fun z => z rfl) ?_
  refine xG_run 2 rfl (by repeat' (first | exact trivial | assumption | exact xob_b rfl | exact xal_b rfl | (apply And.intro) | decide)) ?_
  try dsimp only [xsto1, xsto2, xkill, xget, xset, gd_0, gd_s]
  try simp (disch := omega) only [gI_self, g_ne, s2, r3, r4, r5, nI_1]
  try simp only [r5]
  refine xG_brT rfl (rfl) ?_
  refine xG_run 1 rfl (by repeat' (first | exact trivial | assumption | exact xob_b rfl | exact xal_b rfl | (apply And.intro) | decide)) ?_
  try dsimp only [xsto1, xsto2, xkill, xget, xset, gd_0, gd_s]
  try simp (disch := omega) only [gI_self, g_ne, s2, r3, r4, r5, nI_1]
  refine xG_c2 0 rfl (by repeat' (first | exact trivial | assumption | exact xob_b rfl | exact xal_b rfl | (apply And.intro) | decide)) rfl rfl (by decide) cw_X6_goOn (d' := d - 1) (e_ugoOn hC9 r3 hpn r4 r6 hk hy ha hl (by omega)) (by omega) ?_
  rintro v M' ⟨rfl, hv⟩
  dsimp only [Option.toList, List.cons_append, List.nil_append]
  refine xG_run 2 rfl (by repeat' (first | exact trivial | assumption | exact xob_b rfl | exact xal_b rfl | (apply And.intro) | decide)) ?_
  try dsimp only [xsto1, xsto2, xkill, xget, xset, gd_0, gd_s]
  try simp (disch := omega) only [gI_self, g_ne, s2, r3, r4, r5, nI_1]
  exact kk _ hv
def uS (M : xM) (p k : Nat) (tw : Int32) (y a t : Bool) : Prop := gI M 130 3 = nI p ∧ gI M 130 4 = 0 ∧ gI M 130 5 = tw ∧ gI M 130 6 = nI k ∧ gI M 133 k = bl2 y ∧ gI M 134 k = bl2 a ∧ gI M 135 k = bl2 t
def uG (k : Nat) (M M' : xM) : Prop := (∀ x j, ¬ (x = 130 ∧ 3 ≤ j ∧ j ≤ 6) → ¬ ((x = 133 ∨ x = 134 ∨ x = 135) ∧ k ≤ j) → gI M' x j = gI M x j) ∧ (∀ x j, gJ M' x j = gJ M x j) ∧ ∀ x j, gP M' x j = gP M x j
theorem uG_r {k : Nat} {M : xM} : uG k M M := ⟨fun _ _ _ _ => rfl, fun _ _ => rfl, fun _ _ => rfl⟩
theorem uG_t {k : Nat} {M M' M2 : xM} (h : uG k M M') (h2 : uG k M' M2) : uG k M M2 := ⟨fun x j q r => (h2.1 x j q r).trans (h.1 x j q r), fun x j => (h2.2.1 x j).trans (h.2.1 x j), fun x j => (h2.2.2 x j).trans (h.2.2 x j)⟩
theorem uG_m {k k' : Nat} {M M' : xM} (h : uG k' M M') (hk : k ≤ k') : uG k M M' := ⟨fun x j q r => h.1 x j q (fun z => r ⟨z.1, Nat.le_trans hk z.2⟩), h.2.1, h.2.2⟩
theorem uG_F {k : Nat} {M M' : xM} (h : uF M M') : uG k M M' := ⟨fun x j q _ => h.1 x j (fun z => q ⟨z.1, by omega, by omega⟩), h.2.1, h.2.2⟩
theorem uG_i {k j : Nat} {v : Int32} {M : xM} (h : 3 ≤ j ∧ j ≤ 6) : uG k M (sI M 130 j v) := ⟨fun x y q _ => gI_ne (by omega), fun _ _ => rfl, fun _ _ => rfl⟩
theorem uG_a {k x j : Nat} {v : Int32} {M : xM} (h : x = 133 ∨ x = 134 ∨ x = 135) (hj : k ≤ j) : uG k M (sI M x j v) := ⟨fun x' y _ r => gI_ne (by
  by_cases c : x' = x
  · exact Or.inr (fun e => r ⟨c ▸ h, e ▸ hj⟩)
  · exact Or.inl c), fun _ _ => rfl, fun _ _ => rfl⟩
theorem uG_et {k : Nat} {M : xM} {b a t : Bool} : uG k M (etM M k b a t) := uG_t (uG_t (uG_a (Or.inr (Or.inl rfl)) (Nat.le_refl _)) (uG_a (Or.inr (Or.inr rfl)) (Nat.le_refl _))) (uG_i (by omega))
theorem uG_bo {k : Nat} {M : xM} : uG k M (boM M k) := uG_t (uG_t (uG_t (uG_a (Or.inl rfl) (Nat.le_refl _)) (uG_a (Or.inr (Or.inl rfl)) (Nat.le_refl _))) (uG_a (Or.inr (Or.inr rfl)) (Nat.le_refl _))) (uG_i (by omega))
theorem uC_G {k t n : Nat} {T : Nat → Int32} {M M' : xM} (h : uC M t n T) (f : uG k M M') : uC M' t n T := ⟨(f.2.2 _ _).trans h.1, (f.1 _ _ (by omega) (by omega)).trans h.2.1, h.2.2.1, fun j hj => (f.1 _ _ (by have := h.2.2.2.2.2.1; omega) (by have := h.2.2.2.2.2.1; omega)).trans (h.2.2.2.1 j hj), h.2.2.2.2⟩
theorem uS_et {k q : Nat} {M : xM} {b a t y : Bool} (h3 : gI M 130 3 = nI q) (h4 : gI M 130 4 = 0) (h6 : gI M 130 6 = nI k) (hy : gI M 133 k = bl2 y) : uS (etM M k b a t) q k 0 y (a && (b != t)) false :=
  ⟨(etM_o (by omega) (by omega)).trans h3, (etM_o (by omega) (by omega)).trans h4, gI_self _ _ _ _, (etM_o (by omega) (by omega)).trans h6, (etM_o (by omega) (by omega)).trans hy, (gI_ne (by omega)).trans ((gI_ne (by omega)).trans (gI_self _ _ _ _)), (gI_ne (by omega)).trans (gI_self _ _ _ _)⟩
theorem uS_bo {k q : Nat} {M : xM} (h3 : gI M 130 3 = nI q) (h4 : gI M 130 4 = 0) (h6 : gI M 130 6 = nI k) : uS (boM M k) q k 1 false true false := by
  unfold boM
  exact ⟨(gI_ne (by omega)).trans ((gI_ne (by omega)).trans ((gI_ne (by omega)).trans ((gI_ne (by omega)).trans h3))), (gI_ne (by omega)).trans ((gI_ne (by omega)).trans ((gI_ne (by omega)).trans ((gI_ne (by omega)).trans h4))), gI_self _ _ _ _, (gI_ne (by omega)).trans ((gI_ne (by omega)).trans ((gI_ne (by omega)).trans ((gI_ne (by omega)).trans h6))), (gI_ne (by omega)).trans ((gI_ne (by omega)).trans ((gI_ne (by omega)).trans (gI_self _ _ _ _))), (gI_ne (by omega)).trans ((gI_ne (by omega)).trans (gI_self _ _ _ _)), (gI_ne (by omega)).trans (gI_self _ _ _ _)⟩
def fX (n : Nat) (M : xM) (q : Nat) : Prop := gI M 130 3 = nI q ∧ (gI M 130 4 = 1 ∨ (q = n ∧ gI M 130 4 = 0 ∧ (gI M 130 5 = 1 ∨ ∃ j, gI M 130 6 = nI (j + 1) ∧ j + 1 ≤ 8)))
def okX (m : Nat) (y a tu v y' a' : Bool) : Prop := if m = 0 then y' = y ∧ a' = (a && (v != tu)) else if m = 1 then y' = y ∧ a' = (a && v) else (y' || a') = (y || v)
section PE
variable {T : Nat → Int32} {n : Nat} {φ : Nat → Int32}
theorem RX_n {k : Nat} : RX T n φ 0 k n = (false, n, false) := by
  have hc : chr T n n = -1000 := chr_ge (Nat.lt_irrefl n)
  rw [RX_t (Nat.le_refl n), hc, if_neg (by decide), if_neg (by decide)]
  have ha : atX T n φ n = (false, n, 0) := by
    unfold atX n4
    rw [hc, if_neg (by decide), if_pos (by rw [if_pos dg_m])]
  have hs : suX T n φ n = (false, n, 0) := by
    unfold suX
    rw [ha]
    exact if_neg (fun z => absurd (show false = true from z) (by decide))
  rw [cpX_f1 (by rw [hs]; exact fun q => absurd (show false = true from q.1) (by decide)), hs]
theorem RX_e : ∀ (s m k p : Nat), n - p = s → p ≤ n → (RX T n φ (m + 1) k p).1 = true → ¬ chr T n (RX T n φ (m + 1) k p).2.1 = sgX m := by
  intro s
  induction s using Nat.strongRecOn with
  | ind s IH =>
    intro m k p hs hp h
    rw [RX_s hp] at h ⊢
    by_cases c : (RX T n φ m k p).1 = true
    · obtain ⟨b1, b2, b3⟩ := RX_b (T := T) (n := n) (φ := φ) (m := m) (k := k) hp
      have b4 := b3 c
      rw [if_pos c] at h ⊢
      by_cases c2 : chr T n (RX T n φ m k p).2.1 = sgX m
      · rw [if_pos c2] at h ⊢
        exact IH _ (by have := sg_lt c2; omega) m k ((RX T n φ m k p).2.1 + 1) rfl (sg_lt c2) h
      · rw [if_neg c2]; exact c2
    · rw [if_neg c] at h
      exact absurd (show false = true from h) (by decide)
theorem RX_e1 : ∀ (s k p : Nat), n - p = s → p ≤ n → (RX T n φ 2 k p).1 = true → ¬ chr T n (RX T n φ 2 k p).2.1 = 38 := by
  intro s
  induction s using Nat.strongRecOn with
  | ind s IH =>
    intro k p hs hp h
    have he := RX_e (T := T) (n := n) (φ := φ) (n - p) 0 k p rfl hp
    rw [RX_s hp] at h ⊢
    by_cases c : (RX T n φ 1 k p).1 = true
    · obtain ⟨b1, b2, b3⟩ := RX_b (T := T) (n := n) (φ := φ) (m := 1) (k := k) hp
      have b4 := b3 c
      rw [if_pos c] at h ⊢
      by_cases c2 : chr T n (RX T n φ 1 k p).2.1 = sgX 1
      · rw [if_pos c2] at h ⊢
        exact IH _ (by have := sg_lt c2; omega) k ((RX T n φ 1 k p).2.1 + 1) rfl (sg_lt c2) h
      · rw [if_neg c2]; exact he c
    · rw [if_neg c] at h
      exact absurd (show false = true from h) (by decide)
end PE
def uB (M : xM) (k : Nat) : Prop := ∀ j, j < k → ∃ a t, gI M 134 j = bl2 a ∧ gI M 135 j = bl2 t
theorem uB_G {M M' : xM} {k : Nat} (h : uB M k) (f : uG k M M') : uB M' k := fun j hj => by
  obtain ⟨a, t, h1, h2⟩ := h j hj
  exact ⟨a, t, (f.1 _ _ (by omega) (by omega)).trans h1, (f.1 _ _ (by omega) (by omega)).trans h2⟩
theorem uB_l {M : xM} {k : Nat} (h : uB M k) : ∃ a t, ∀ k', k = k' + 1 → gI M 134 k' = bl2 a ∧ gI M 135 k' = bl2 t := by
  cases k with
  | zero => exact ⟨false, false, fun k' q => absurd q (by omega)⟩
  | succ k =>
    obtain ⟨a, t, h1⟩ := h k (Nat.lt_succ_self k)
    refine ⟨a, t, fun k' q => ?_⟩
    have : k = k' := by omega
    subst this
    exact h1
theorem uS_3 {M : xM} {p q k : Nat} {tw : Int32} {y a t : Bool} (h : uS M p k tw y a t) : uS (sI M 130 3 (nI q)) q k tw y a t := ⟨gI_self _ _ _ _, (gI_ne (by omega)).trans h.2.1, (gI_ne (by omega)).trans h.2.2.1, (gI_ne (by omega)).trans h.2.2.2.1, (gI_ne (by omega)).trans h.2.2.2.2.1, (gI_ne (by omega)).trans h.2.2.2.2.2.1, (gI_ne (by omega)).trans h.2.2.2.2.2.2⟩
theorem u_sim {κ : xKK} {d t n : Nat} {l : Int32} {T : Nat → Int32} {φ : Nat → Int32} {YS : xX → Prop} (hd : 6 ≤ d) : ∀ (s m k p i : Nat) (M : xM) (y a tu : Bool), 3 * (n - p) + m = s → m ≤ 2 → p ≤ n → i ≤ p → k ≤ 8 → uC M t n T → (∀ j, gI M 131 j = φ j) → uB M k → uS M p k 1 y a tu → (1 ≤ m → tu = false) → (m = 2 → a = true) → (∀ (M' : xM) (i' : Nat) (y' a' : Bool), (RX T n φ m k p).1 = true → i' ≤ (RX T n φ m k p).2.1 → uG k M M' → uS M' (RX T n φ m k p).2.1 k 0 y' a' false → okX m y a tu (RX T n φ m k p).2.2 y' a' → xG κ mX6_read (d, 0, 0) (36, [some (.ref 130), some (.ref t), some (.int l), some (.int (nI i'))], [], M', z2) YS) → (∀ (M' : xM) (i' : Nat), (RX T n φ m k p).1 = false → uG k M M' → fX n M' (RX T n φ m k p).2.1 → xG κ mX6_read (d, 0, 0) (36, [some (.ref 130), some (.ref t), some (.int l), some (.int (nI i'))], [], M', z2) YS) → xG κ mX6_read (d, 0, 0) (36, [some (.ref 130), some (.ref t), some (.int l), some (.int (nI i))], [], M, z2) YS := by
  intro s
  induction s using Nat.strongRecOn with
  | ind s IH =>
    intro m k p i M y a tu hs hm hp hi hk hC hφ hB hS htu ha2 hok hno
    have hS9 := hS
    obtain ⟨r3, r4, r5, r6, hy, ha, ht⟩ := hS
    have hcx : cpX T n (fun i => gI M 131 i) p = cpX T n φ p := by rw [show (fun i => gI M 131 i) = φ from funext hφ]
    rcases (show m = 0 ∨ m = 1 ∨ m = 2 by omega) with rfl | rfl | rfl
    · by_cases hpn : p < n
      · refine u_stepT hC r3 hpn r4 r5 r6 hk ha ht hi hd (fun M' hv => ?_)
        have e := RX_t (T := T) (n := n) (φ := φ) (k := k) hp
        simp only [hcx] at hv
        rcases hv with ⟨c, rfl⟩ | ⟨c, rfl, rfl⟩ | ⟨c, hk8, rfl⟩ | ⟨c1, c2, M1, b, hF1, hb, k3, k4, rfl⟩
        · rw [if_pos c] at e
          rw [e] at hok hno
          have hG : uG k M (sI (sI M 135 k (bl2 (!tu))) 130 3 (nI (p + 1))) := uG_t (uG_a (Or.inr (Or.inr rfl)) (Nat.le_refl _)) (uG_i (by omega))
          refine IH (3 * (n - (p + 1)) + 0) (by omega) 0 k (p + 1) (i + 1) _ y a (!tu) rfl (by omega) hpn (by omega) hk (uC_G hC hG) (fun j => (hG.1 _ _ (by omega) (by omega)).trans (hφ j)) (uB_G hB hG) (uS_3 ⟨(gI_ne (by omega)).trans r3, (gI_ne (by omega)).trans r4, (gI_ne (by omega)).trans r5, (gI_ne (by omega)).trans r6, (gI_ne (by omega)).trans hy, (gI_ne (by omega)).trans ha, gI_self _ _ _ _⟩) (fun q => absurd q (by omega)) (fun q => absurd q (by omega)) (fun M' i' y' a' h1 h2 h3 h4 h5 => hok M' i' y' a' h1 h2 (uG_t hG h3) h4 ?_) (fun M' i' h1 h2 h3 => hno M' i' h1 (uG_t hG h2) h3)
          have h6 : y' = y ∧ a' = (a && ((RX T n φ 0 k (p + 1)).2.2 != !tu)) := h5
          show y' = y ∧ a' = (a && ((!(RX T n φ 0 k (p + 1)).2.2) != tu))
          refine ⟨h6.1, h6.2.trans ?_⟩
          cases (RX T n φ 0 k (p + 1)).2.2 <;> cases tu <;> rfl
        · rw [if_neg (by rw [c]; decide), if_pos c, if_pos rfl] at e
          rw [e] at hno
          exact hno _ (i + 1) rfl (uG_i (by omega)) ⟨(gI_ne (by omega)).trans r3, Or.inl (gI_self _ _ _ _)⟩
        · rw [if_neg (by rw [c]; decide), if_pos c, if_neg (by omega)] at e
          have hG : uG (k + 1) M (boM (sI (sI M 130 6 (nI (k + 1))) 130 3 (nI (p + 1))) (k + 1)) := uG_t (uG_t (uG_i (by omega)) (uG_i (by omega))) uG_bo
          obtain ⟨b1, b2, b3⟩ := RX_b (T := T) (n := n) (φ := φ) (m := 2) (k := k + 1) (p := p + 1) hpn
          refine IH (3 * (n - (p + 1)) + 2) (by omega) 2 (k + 1) (p + 1) (i + 1) _ false true false rfl (by omega) hpn (by omega) (by omega) (uC_G hC hG) (fun j => (hG.1 _ _ (by omega) (by omega)).trans (hφ j)) (fun j hj => ?_) (uS_bo (gI_self _ _ _ _) ((gI_ne (by omega)).trans ((gI_ne (by omega)).trans r4)) ((gI_ne (by omega)).trans (gI_self _ _ _ _))) (fun _ => rfl) (fun _ => rfl) (fun M2 i2 y2 a2 g1 g2 g3 g4 g5 => ?_) (fun M2 i2 g1 g2 g3 => ?_)
          · by_cases cj : j = k
            · subst cj
              exact ⟨a, tu, (hG.1 _ _ (by omega) (by omega)).trans ha, (hG.1 _ _ (by omega) (by omega)).trans ht⟩
            · obtain ⟨a9, t9, w1, w2⟩ := hB j (by omega)
              exact ⟨a9, t9, (hG.1 _ _ (by omega) (by omega)).trans w1, (hG.1 _ _ (by omega) (by omega)).trans w2⟩
          · obtain ⟨z3, z4, z5, z6, zy, za, zt⟩ := g4
            have g6 : (y2 || a2) = (false || (RX T n φ 2 (k + 1) (p + 1)).2.2) := g5
            rw [Bool.false_or] at g6
            rw [if_pos g1] at e
            by_cases hqn : (RX T n φ 2 (k + 1) (p + 1)).2.1 < n
            · have wa : gI M2 134 k = bl2 a := (g3.1 _ _ (by omega) (by omega)).trans ((hG.1 _ _ (by omega) (by omega)).trans ha)
              have wt : gI M2 135 k = bl2 tu := (g3.1 _ _ (by omega) (by omega)).trans ((hG.1 _ _ (by omega) (by omega)).trans ht)
              have wy : gI M2 133 k = bl2 y := (g3.1 _ _ (by omega) (by omega)).trans ((hG.1 _ _ (by omega) (by omega)).trans hy)
              refine u_stepG (uC_G (uC_G hC hG) g3) z3 hqn z4 z5 z6 (by omega) zy za (a' := a) (t' := tu) (fun k' q => by obtain rfl : k' = k := (by omega); exact ⟨wa, wt⟩) g2 hd (fun M3 hv => ?_)
              rcases hv with ⟨c5, _⟩ | ⟨c5, _⟩ | ⟨c5, k9, q9, rfl⟩ | ⟨_, _, c5, rfl⟩
              · exact absurd c5 (RX_e1 _ (k + 1) (p + 1) rfl hpn g1)
              · exact absurd c5 (RX_e _ 1 (k + 1) (p + 1) rfl hpn g1)
              · have e9 : k9 = k := by omega
                subst e9
                rw [if_pos c5] at e
                rw [e] at hok
                refine hok _ (i2 + 1) y (a && ((y2 || a2) != tu)) rfl (by show i2 + 1 ≤ (RX T n φ 2 (k9 + 1) (p + 1)).2.1 + 1; omega) (uG_t (uG_m hG (by omega)) (uG_t (uG_m g3 (by omega)) (uG_t (uG_t (uG_i (by omega)) uG_et) (uG_i (by omega))))) (uS_3 (uS_et ((gI_ne (by omega)).trans z3) ((gI_ne (by omega)).trans z4) (gI_self _ _ _ _) ((gI_ne (by omega)).trans wy))) ?_
                show y = y ∧ (a && ((y2 || a2) != tu)) = (a && ((RX T n φ 2 (k9 + 1) (p + 1)).2.2 != tu))
                exact ⟨rfl, by rw [g6]⟩
              · rw [if_neg (fun z => c5 ⟨z, by omega⟩)] at e
                rw [e] at hno
                exact hno _ (i2 + 1) rfl (uG_t (uG_m hG (by omega)) (uG_t (uG_m g3 (by omega)) (uG_i (by omega)))) ⟨(gI_ne (by omega)).trans z3, Or.inl (gI_self _ _ _ _)⟩
            · rw [if_neg (by rw [chr_ge hqn]; decide)] at e
              rw [e] at hno
              exact hno M2 i2 rfl (uG_t (uG_m hG (by omega)) (uG_m g3 (by omega))) ⟨z3, Or.inr ⟨by show (RX T n φ 2 (k + 1) (p + 1)).2.1 = n; omega, z4, Or.inr ⟨k, z6, by omega⟩⟩⟩
          · rw [if_neg (by rw [g1]; decide)] at e
            rw [e] at hno
            exact hno M2 i2 rfl (uG_t (uG_m hG (by omega)) (uG_m g2 (by omega))) g3
        · rw [if_neg c1, if_neg c2] at e
          rw [e] at hok hno
          obtain ⟨b1, b2, b3⟩ := cpX_b (T := T) (n := n) (φ := φ) hp
          have hGe : uG k M (etM M1 k b a tu) := uG_t (uG_F hF1) uG_et
          by_cases c9 : (cpX T n φ p).1 = true
          · rw [if_pos c9] at k4
            exact hok _ (i + 1) y (a && (b != tu)) c9 (by have := b3 c9; omega) hGe (uS_et k3 k4 ((hF1.1 _ _ (by omega)).trans r6) ((hF1.1 _ _ (by omega)).trans hy)) ⟨rfl, by rw [hb c9]⟩
          · rw [if_neg c9] at k4
            exact hno _ (i + 1) (Bool.eq_false_iff.mpr c9) hGe ⟨(etM_o (by omega) (by omega)).trans k3, Or.inl ((etM_o (by omega) (by omega)).trans k4)⟩
      · have e : p = n := by omega
        subst e
        rw [RX_n] at hno
        exact hno M i rfl uG_r ⟨r3, Or.inr ⟨rfl, r4, Or.inl r5⟩⟩
    · have ht0 := htu (by omega)
      subst ht0
      have e := RX_s (T := T) (n := n) (φ := φ) (m := 0) (k := k) hp
      obtain ⟨b1, b2, b3⟩ := RX_b (T := T) (n := n) (φ := φ) (m := 0) (k := k) hp
      refine IH (3 * (n - p) + 0) (by omega) 0 k p i M y a false rfl (by omega) hp hi hk hC hφ hB hS9 (fun _ => rfl) (fun q => absurd q (by omega)) (fun M2 i2 y2 a2 g1 g2 g3 g4 g5 => ?_) (fun M2 i2 g1 g2 g3 => ?_)
      · have b4 := b3 g1
        have g6 : y2 = y ∧ a2 = (a && ((RX T n φ 0 k p).2.2 != false)) := g5
        obtain ⟨rfl, rfl⟩ := g6
        have g9 := g4
        obtain ⟨z3, z4, z5, z6, zy, za, zt⟩ := g4
        rw [if_pos g1] at e
        by_cases c2 : chr T n (RX T n φ 0 k p).2.1 = sgX 0
        · rw [if_pos c2] at e
          have hqn : (RX T n φ 0 k p).2.1 < n := sg_lt c2
          obtain ⟨a9, t9, hl⟩ := uB_l (uB_G hB g3)
          refine u_stepG (uC_G hC g3) z3 hqn z4 z5 z6 hk zy za hl g2 hd (fun M3 hv => ?_)
          rcases hv with ⟨c5, rfl⟩ | ⟨c5, _⟩ | ⟨c5, _⟩ | ⟨c5, _⟩
          · have hG3 : uG k M2 (sI (sI M2 130 5 1) 130 3 (nI ((RX T n φ 0 k p).2.1 + 1))) := uG_t (uG_i (by omega)) (uG_i (by omega))
            rw [e] at hok hno
            refine IH (3 * (n - ((RX T n φ 0 k p).2.1 + 1)) + 1) (by omega) 1 k ((RX T n φ 0 k p).2.1 + 1) (i2 + 1) _ y2 (a && ((RX T n φ 0 k p).2.2 != false)) false rfl (by omega) hqn (by omega) hk (uC_G (uC_G hC g3) hG3) (fun j => (hG3.1 _ _ (by omega) (by omega)).trans ((g3.1 _ _ (by omega) (by omega)).trans (hφ j))) (uB_G (uB_G hB g3) hG3) (uS_3 ⟨(gI_ne (by omega)).trans z3, (gI_ne (by omega)).trans z4, gI_self _ _ _ _, (gI_ne (by omega)).trans z6, (gI_ne (by omega)).trans zy, (gI_ne (by omega)).trans za, (gI_ne (by omega)).trans zt⟩) (fun _ => rfl) (fun q => absurd q (by omega)) (fun M4 i4 y4 a4 f1 f2 f3 f4 f5 => hok M4 i4 y4 a4 f1 f2 (uG_t g3 (uG_t hG3 f3)) f4 ?_) (fun M4 i4 f1 f2 f3 => hno M4 i4 f1 (uG_t g3 (uG_t hG3 f2)) f3)
            have f6 : y4 = y2 ∧ a4 = ((a && ((RX T n φ 0 k p).2.2 != false)) && (RX T n φ 1 k ((RX T n φ 0 k p).2.1 + 1)).2.2) := f5
            show y4 = y2 ∧ a4 = (a && ((RX T n φ 0 k p).2.2 && (RX T n φ 1 k ((RX T n φ 0 k p).2.1 + 1)).2.2))
            refine ⟨f6.1, f6.2.trans ?_⟩
            cases a <;> cases (RX T n φ 0 k p).2.2 <;> rfl
          · exact absurd (show (38 : Int32) = 124 from c2.symm.trans c5) (by decide)
          · exact absurd (show (38 : Int32) = 41 from c2.symm.trans c5) (by decide)
          · exact absurd c2 c5
        · rw [if_neg c2] at e
          rw [e] at hok
          refine hok M2 i2 y2 _ g1 g2 g3 g9 ?_
          show y2 = y2 ∧ (a && ((RX T n φ 0 k p).2.2 != false)) = (a && (RX T n φ 0 k p).2.2)
          exact ⟨rfl, by cases (RX T n φ 0 k p).2.2 <;> rfl⟩
      · rw [if_neg (by rw [g1]; decide)] at e
        rw [e] at hno
        exact hno M2 i2 rfl g2 g3
    · have ht0 := htu (by omega)
      subst ht0
      have e := RX_s (T := T) (n := n) (φ := φ) (m := 1) (k := k) hp
      obtain ⟨b1, b2, b3⟩ := RX_b (T := T) (n := n) (φ := φ) (m := 1) (k := k) hp
      refine IH (3 * (n - p) + 1) (by omega) 1 k p i M y a false rfl (by omega) hp hi hk hC hφ hB hS9 (fun _ => rfl) (fun q => absurd q (by omega)) (fun M2 i2 y2 a2 g1 g2 g3 g4 g5 => ?_) (fun M2 i2 g1 g2 g3 => ?_)
      · have b4 := b3 g1
        have g6 : y2 = y ∧ a2 = (a && (RX T n φ 1 k p).2.2) := g5
        obtain ⟨rfl, rfl⟩ := g6
        have g9 := g4
        obtain ⟨z3, z4, z5, z6, zy, za, zt⟩ := g4
        rw [if_pos g1] at e
        by_cases c2 : chr T n (RX T n φ 1 k p).2.1 = sgX 1
        · rw [if_pos c2] at e
          have hqn : (RX T n φ 1 k p).2.1 < n := sg_lt c2
          obtain ⟨a9, t9, hl⟩ := uB_l (uB_G hB g3)
          refine u_stepG (uC_G hC g3) z3 hqn z4 z5 z6 hk zy za hl g2 hd (fun M3 hv => ?_)
          rcases hv with ⟨c5, _⟩ | ⟨c5, rfl⟩ | ⟨c5, _⟩ | ⟨_, c5, _⟩
          · exact absurd (show (124 : Int32) = 38 from c2.symm.trans c5) (by decide)
          · have hG3 : uG k M2 (sI (sI (sI (sI M2 133 k (bl2 (y2 || (a && (RX T n φ 1 k p).2.2)))) 134 k 1) 130 5 1) 130 3 (nI ((RX T n φ 1 k p).2.1 + 1))) := uG_t (uG_t (uG_t (uG_a (Or.inl rfl) (Nat.le_refl _)) (uG_a (Or.inr (Or.inl rfl)) (Nat.le_refl _))) (uG_i (by omega))) (uG_i (by omega))
            rw [e] at hok hno
            refine IH (3 * (n - ((RX T n φ 1 k p).2.1 + 1)) + 2) (by omega) 2 k ((RX T n φ 1 k p).2.1 + 1) (i2 + 1) _ (y2 || (a && (RX T n φ 1 k p).2.2)) true false rfl (by omega) hqn (by omega) hk (uC_G (uC_G hC g3) hG3) (fun j => (hG3.1 _ _ (by omega) (by omega)).trans ((g3.1 _ _ (by omega) (by omega)).trans (hφ j))) (uB_G (uB_G hB g3) hG3) (uS_3 ⟨(gI_ne (by omega)).trans ((gI_ne (by omega)).trans ((gI_ne (by omega)).trans z3)), (gI_ne (by omega)).trans ((gI_ne (by omega)).trans ((gI_ne (by omega)).trans z4)), gI_self _ _ _ _, (gI_ne (by omega)).trans ((gI_ne (by omega)).trans ((gI_ne (by omega)).trans z6)), (gI_ne (by omega)).trans ((gI_ne (by omega)).trans (gI_self _ _ _ _)), (gI_ne (by omega)).trans (gI_self _ _ _ _), (gI_ne (by omega)).trans ((gI_ne (by omega)).trans ((gI_ne (by omega)).trans zt))⟩) (fun _ => rfl) (fun q => rfl) (fun M4 i4 y4 a4 f1 f2 f3 f4 f5 => hok M4 i4 y4 a4 f1 f2 (uG_t g3 (uG_t hG3 f3)) f4 ?_) (fun M4 i4 f1 f2 f3 => hno M4 i4 f1 (uG_t g3 (uG_t hG3 f2)) f3)
            have f6 : (y4 || a4) = ((y2 || (a && (RX T n φ 1 k p).2.2)) || (RX T n φ 2 k ((RX T n φ 1 k p).2.1 + 1)).2.2) := f5
            show (y4 || a4) = (y2 || ((RX T n φ 1 k p).2.2 || (RX T n φ 2 k ((RX T n φ 1 k p).2.1 + 1)).2.2))
            rw [f6, ha2 rfl, Bool.true_and, Bool.or_assoc]
          · exact absurd (show (124 : Int32) = 41 from c2.symm.trans c5) (by decide)
          · exact absurd c2 c5
        · rw [if_neg c2] at e
          rw [e] at hok
          refine hok M2 i2 y2 _ g1 g2 g3 g9 ?_
          show (y2 || (a && (RX T n φ 1 k p).2.2)) = (y2 || (RX T n φ 1 k p).2.2)
          rw [ha2 rfl, Bool.true_and]
      · rw [if_neg (by rw [g1]; decide)] at e
        rw [e] at hno
        exact hno M2 i2 rfl g2 g3
