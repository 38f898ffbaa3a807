/-! ===== the class reads texts ===== -/
theorem sI_sI {M : xM} {a k : Nat} {v w : Int32} : sI (sI M a k v) a k w = sI M a k w := by
  refine xM_ext (fun x y => ?_) (fun _ _ => rfl) (fun _ _ => rfl)
  rw [gIsI, gIsI, gIsI]
  by_cases c : x = a ∧ y = k
  · rw [if_pos c, if_pos c]
  · rw [if_neg c, if_neg c, if_neg c]
theorem nI_nlt9 {k n : Nat} (z : k < n) (hn : n < 2147483648) (h : nI n ≤ nI k) : False := by
  have := (nI_leI (a := n) (b := k) (by omega) (by omega)).mp h
  omega
theorem nI_lt9 {k n : Nat} (hk : k < 2147483648) (hn : n < 2147483648) (h : ¬ nI n ≤ nI k) : k < n := by
  have : ¬ n ≤ k := fun q => h (nI_le q hk)
  omega
def tC (M : xM) (t n : Nat) (T : Nat → Int32) : Prop := gP M 127 0 = some t ∧ gI M 127 1 = nI n ∧ n ≤ 120 ∧ (∀ k, k < n → gI M t k = T k) ∧ shp[t]? = some (.inr (0, 120)) ∧ 129 < t ∧ t < 182
def tR (M : xM) (s : tsT) : Prop := gI M 127 2 = nI s.2.1 ∧ gI M 127 3 = (if s.1 = true then 0 else 1) ∧ gI M 127 4 = nI s.2.2.1.length ∧ (∀ i, i < s.2.2.1.length → gI M 129 i = s.2.2.1.getD i 0) ∧ gI M 127 8 = s.2.2.2
def tF (M M' : xM) : Prop := (∀ a k, (a ≠ 127 ∧ a ≠ 129) ∨ (a = 127 ∧ (k = 1 ∨ k = 5 ∨ k = 6)) → gI M' a k = gI M a k) ∧ (∀ a k, gJ M' a k = gJ M a k) ∧ ∀ a k, gP M' a k = gP M a k
def tG (M M' : xM) : Prop := (∀ a k, (a ≠ 127 ∧ a ≠ 129) ∨ (a = 127 ∧ k = 1) → gI M' a k = gI M a k) ∧ (∀ a k, gJ M' a k = gJ M a k) ∧ ∀ a k, gP M' a k = gP M a k
section TRS
variable {M M' M2 : xM} {t n p q : Nat} {T : Nat → Int32} {l : List Int32} {sd V : Int32} {ok : Bool}
theorem tF_r : tF M M := ⟨fun _ _ _ => rfl, fun _ _ => rfl, fun _ _ => rfl⟩
theorem tF_t (h : tF M M') (h2 : tF M' M2) : tF M M2 := ⟨fun a k q => (h2.1 a k q).trans (h.1 a k q), fun a k => (h2.2.1 a k).trans (h.2.1 a k), fun a k => (h2.2.2 a k).trans (h.2.2 a k)⟩
theorem tG_t (h : tG M M') (h2 : tG M' M2) : tG M M2 := ⟨fun a k q => (h2.1 a k q).trans (h.1 a k q), fun a k => (h2.2.1 a k).trans (h.2.1 a k), fun a k => (h2.2.2 a k).trans (h.2.2 a k)⟩
theorem tG_r : tG M M := ⟨fun _ _ _ => rfl, fun _ _ => rfl, fun _ _ => rfl⟩
theorem tF_G (h : tF M M') : tG M M' := ⟨fun a k q => h.1 a k (q.elim Or.inl (fun z => Or.inr ⟨z.1, Or.inl z.2⟩)), h.2.1, h.2.2⟩
theorem tC_G (h : tC M t n T) (f : tG M M') : tC M' t n T := ⟨(f.2.2 _ _).trans h.1, (f.1 _ _ (Or.inr ⟨rfl, rfl⟩)).trans h.2.1, h.2.2.1, fun k hk => (f.1 _ _ (Or.inl ⟨by have := h.2.2.2.2.2.1; omega, by have := h.2.2.2.2.2.1; omega⟩)).trans (h.2.2.2.1 k hk), h.2.2.2.2⟩
theorem tC_F (h : tC M t n T) (f : tF M M') : tC M' t n T := tC_G h (tF_G f)
theorem tF_i {k : Nat} {v : Int32} (h : k = 2 ∨ k = 3 ∨ k = 4 ∨ k = 8) : tF M (sI M 127 k v) := ⟨fun _ _ _ => gI_ne (by omega), fun _ _ => rfl, fun _ _ => rfl⟩
theorem tF_n {k : Nat} {v : Int32} : tF M (sI M 129 k v) := ⟨fun _ _ _ => gI_ne (by omega), fun _ _ => rfl, fun _ _ => rfl⟩
theorem tG_i {k : Nat} {v : Int32} (h : k ≠ 1) : tG M (sI M 127 k v) := ⟨fun _ _ _ => gI_ne (by omega), fun _ _ => rfl, fun _ _ => rfl⟩
theorem tR_s (h : tR M (ok, p, l, sd)) : tR (sI M 127 3 1) (false, p, l, sd) := ⟨(gI_ne (by omega)).trans h.1, gI_self _ _ _ _, (gI_ne (by omega)).trans h.2.2.1, fun i hi => (gI_ne (by omega)).trans (h.2.2.2.1 i hi), (gI_ne (by omega)).trans h.2.2.2.2⟩
theorem tR_a (h : tR M (ok, p, l, sd)) : tR (sI M 127 2 (nI q)) (ok, q, l, sd) := ⟨gI_self _ _ _ _, (gI_ne (by omega)).trans h.2.1, (gI_ne (by omega)).trans h.2.2.1, fun i hi => (gI_ne (by omega)).trans (h.2.2.2.1 i hi), (gI_ne (by omega)).trans h.2.2.2.2⟩
theorem tR_d (h : tR M (ok, p, l, sd)) : tR (sI M 127 8 V) (ok, p, l, V) := ⟨(gI_ne (by omega)).trans h.1, (gI_ne (by omega)).trans h.2.1, (gI_ne (by omega)).trans h.2.2.1, fun i hi => (gI_ne (by omega)).trans (h.2.2.2.1 i hi), gI_self _ _ _ _⟩
theorem tR_n (h : tR M (ok, p, l, sd)) : tR (sI (sI M 129 l.length V) 127 4 (nI (l.length + 1))) (ok, p, l ++ [V], sd) := by
  obtain ⟨h1, h2, h3, h4, h5⟩ := h
  refine ⟨(gI_ne (by omega)).trans ((gI_ne (by omega)).trans h1), (gI_ne (by omega)).trans ((gI_ne (by omega)).trans h2), ?_, fun i hi => ?_, (gI_ne (by omega)).trans ((gI_ne (by omega)).trans h5)⟩
  · rw [gI_self, List.length_append]; rfl
  · rw [gI_ne (Or.inl (by decide)), gIsI]
    dsimp only at h4 hi ⊢
    rw [List.length_append] at hi
    by_cases c : i < l.length
    · rw [if_neg (by omega), h4 i c]
      simp [List.getD_eq_getElem?_getD, List.getElem?_append_left c]
    · have e : i = l.length := by have : [V].length = 1 := rfl; omega
      subst e
      rw [if_pos ⟨rfl, rfl⟩]
      simp [List.getD_eq_getElem?_getD]
theorem rd1_cf {it : Nat} (h0 : it ≠ 0) (h1 : it ≠ 1) (h : ¬ chr T n p = nI it) : rd1 T n it (true, p, l, sd) = (false, p, l, sd) := by unfold rd1; rw [if_neg (by simp), if_neg h0, if_neg h1, if_neg h]
theorem rd1_ct {it : Nat} (h0 : it ≠ 0) (h1 : it ≠ 1) (h : chr T n p = nI it) : rd1 T n it (true, p, l, sd) = (true, p + 1, l, sd) := by unfold rd1; rw [if_neg (by simp), if_neg h0, if_neg h1, if_pos h]
theorem rd1_nf (h : nL T n p = 0) : rd1 T n 0 (true, p, l, sd) = (false, p, l, sd) := by unfold rd1; rw [if_neg (by simp), if_pos rfl, if_pos h]
theorem rd1_nt {k : Nat} (h : nL T n p = k ∧ nV T n p = V) (hk : k ≠ 0) : rd1 T n 0 (true, p, l, sd) = (true, p + k, l ++ [V], sd) := by obtain ⟨rfl, rfl⟩ := h; unfold rd1; rw [if_neg (by simp), if_pos rfl, if_neg hk]
theorem rd1_se (h : chr T n p = 101) : rd1 T n 1 (true, p, l, sd) = (true, p + 1, l, 1) := by unfold rd1; rw [if_neg (by simp), if_neg (by decide), if_pos rfl, if_pos h]
theorem rd1_sw (h0 : ¬ chr T n p = 101) (h : chr T n p = 119) : rd1 T n 1 (true, p, l, sd) = (true, p + 1, l, -1) := by unfold rd1; rw [if_neg (by simp), if_neg (by decide), if_pos rfl, if_neg h0, if_pos h]
theorem rd1_sf (h0 : ¬ chr T n p = 101) (h : ¬ chr T n p = 119) : rd1 T n 1 (true, p, l, sd) = (false, p, l, sd) := by unfold rd1; rw [if_neg (by simp), if_neg (by decide), if_pos rfl, if_neg h0, if_neg h]
theorem nI_m {c : Nat} (h : c < 128) : ¬ (-1000 : Int32) = nI c := fun q => by
  have := congrArg Int32.toInt q
  rw [nI_ti (by omega), show (-1000 : Int32).toInt = -1000 by decide] at this
  omega
theorem dg_m : ¬ dgP (-1000) := by decide
theorem dg_ge {k : Nat} (h : ¬ k < n) : ¬ dgP (chr T n k) := by rw [chr_ge h]; exact dg_m
end TRS
set_option maxRecDepth 4000 in
theorem e_isDigit {κ : xKK} {d : Nat} {M : xM} {c : Int32} : xE2 κ mX10_isDigit d [.int c] M (fun v M' => v = some (.int (if dgP c then 1 else 0)) ∧ M' = M) := by
  refine xE2_of ci_X10_isDigit cl_X10_isDigit cw_X10_isDigit rfl (L := [some (.int c)]) rfl ?_
  refine xG_run 2 rfl (by repeat' (first | exact trivial | assumption | exact xob_b rfl | exact xal_b rfl | (apply And.intro) | decide)) ?_
  try dsimp only [xsto1, xsto2, xkill, xget, xset, gd_0, gd_s]
  refine xG_br rfl (fun h3 => ?_) (fun h3 => ?_)
  · refine xG_run 1 rfl (by repeat' (first | exact trivial | assumption | exact xob_b rfl | exact xal_b rfl | (apply And.intro) | decide)) ?_
    try dsimp only [xsto1, xsto2, xkill, xget, xset, gd_0, gd_s]
    refine r2_z rfl rfl (by first | decide | assumption) ?_
    refine ⟨?_, rfl⟩
    first
      | (rw [if_pos ⟨Int32.not_lt.mp h3, Int32.not_lt.mp h9⟩]; done)
      | (rw [if_neg (fun q => by first | exact i_nlt q.1 h3 | exact i_nlt q.2 h9)]; done)
  · refine xG_run 2 rfl (by repeat' (first | exact trivial | assumption | exact xob_b rfl | exact xal_b rfl | (apply And.intro) | decide)) ?_
    try dsimp only [xsto1, xsto2, xkill, xget, xset, gd_0, gd_s]
    refine xG_br rfl (fun h9 => ?_) (fun h9 => ?_)
    · refine xG_run 1 rfl (by repeat' (first | exact trivial | assumption | exact xob_b rfl | exact xal_b rfl | (apply And.intro) | decide)) ?_
      try dsimp only [xsto1, xsto2, xkill, xget, xset, gd_0, gd_s]
      refine r2_z rfl rfl (by first | decide | assumption) ?_
      refine ⟨?_, rfl⟩
      first
        | (rw [if_pos ⟨Int32.not_lt.mp h3, Int32.not_lt.mp h9⟩]; done)
        | (rw [if_neg (fun q => by first | exact i_nlt q.1 h3 | exact i_nlt q.2 h9)]; done)
    · refine xG_run 2 rfl (by repeat' (first | exact trivial | assumption | exact xob_b rfl | exact xal_b rfl | (apply And.intro) | decide)) ?_
      try dsimp only [xsto1, xsto2, xkill, xget, xset, gd_0, gd_s]
      refine r2_z rfl rfl (by first | decide | assumption) ?_
      refine ⟨?_, rfl⟩
      first
        | (rw [if_pos ⟨Int32.not_lt.mp h3, Int32.not_lt.mp h9⟩]; done)
        | (rw [if_neg (fun q => by first | exact i_nlt q.1 h3 | exact i_nlt q.2 h9)]; done)
set_option maxRecDepth 4000 in
theorem e_expect {κ : xKK} {d : Nat} {M : xM} {t n : Nat} {T : Nat → Int32} {s : tsT} (hC : tC M t n T) (hR : tR M s) (hs : s.2.1 ≤ n) {c : Nat} (hc : 1 < c ∧ c < 128) : xE2 κ mX10_expect d [.ref 127, .int (nI c)] M (fun v M' => v = none ∧ tR M' (rd1 T n c s) ∧ tF M M') := by
  refine xE2_of ci_X10_expect cl_X10_expect cw_X10_expect rfl (L := [some (.ref 127), some (.int (nI c))]) rfl ?_
  obtain ⟨ok, p, l, sd⟩ := s
  obtain ⟨c1, hn1, hn2, hT, hsh, ht1, ht2⟩ := hC
  have hR9 := hR
  obtain ⟨r1, r2, r3, r4, r5⟩ := hR
  dsimp only at r1 r2 r3 r4 r5 hs
  have hb0 : xrf (xpr z2.2.1 M 127 0) = .ref t := by show xrf (gP M 127 0) = _; rw [c1]; rfl
  have hb : ∀ v, xrf (xpr z2.2.1 (sI M 127 2 v) 127 0) = .ref t := fun _ => hb0
  have har : ∀ k, k < n → xar t 0 182 (nI k) := fun k hk => ⟨120, hsh, ht2, by rw [nI_ti (by omega)]; omega, by rw [nI_ti (by omega)]; omega⟩
  have hch : ∀ k, k < n → gI M t (nI k).toNatClampNeg = chr T n k := fun k hk => by rw [nI_cl (by omega), chr_lt hk]; exact hT k hk
  cases ok
  · have r2 : gI M 127 3 = 1 := r2
    refine xG_run 2 rfl (by repeat' (first | exact trivial | assumption | exact xob_b rfl | exact xal_b rfl | (apply And.intro) | decide)) ?_
    try dsimp only [xsto1, xsto2, xkill, xget, xset, gd_0, gd_s]
    try simp (disch := omega) only [gI_self, g_ne, sI_sI, r1, r2, r3, hn1, nI_1]
    refine xG_brT rfl (by first | decide | (rw [r2]; decide)) ?_
    refine xG_run 3 rfl (by repeat' (first | exact trivial | assumption | exact xob_b rfl | exact xal_b rfl | (apply And.intro) | decide)) ?_
    try dsimp only [xsto1, xsto2, xkill, xget, xset, gd_0, gd_s]
    try simp (disch := omega) only [gI_self, g_ne, sI_sI, r1, r2, r3, hn1, nI_1]
    refine r2_v rfl rfl ?_
    exact ⟨rfl, by rw [rd1_f rfl]; exact tR_s hR9, tF_i (by omega)⟩
  · have r2 : gI M 127 3 = 0 := r2
    refine xG_run 2 rfl (by repeat' (first | exact trivial | assumption | exact xob_b rfl | exact xal_b rfl | (apply And.intro) | decide)) ?_
    try dsimp only [xsto1, xsto2, xkill, xget, xset, gd_0, gd_s]
    try simp (disch := omega) only [gI_self, g_ne, sI_sI, r1, r2, r3, hn1, nI_1]
    refine xG_brF rfl (by first | decide | (rw [r2]; decide)) ?_
    refine xG_run 4 rfl (by repeat' (first | exact trivial | assumption | exact xob_b rfl | exact xal_b rfl | (apply And.intro) | decide)) ?_
    try dsimp only [xsto1, xsto2, xkill, xget, xset, gd_0, gd_s]
    try simp (disch := omega) only [gI_self, g_ne, sI_sI, r1, r2, r3, hn1, nI_1]
    refine xG_br rfl (fun h15 => ?_) (fun h15 => ?_)
    · have hge0 : ¬ p < n := fun z => nI_nlt9 z (by omega) h15
      refine xG_run 3 rfl (by repeat' (first | exact trivial | assumption | exact xob_b rfl | exact xal_b rfl | (apply And.intro) | decide)) ?_
      try dsimp only [xsto1, xsto2, xkill, xget, xset, gd_0, gd_s]
      try simp (disch := omega) only [gI_self, g_ne, sI_sI, r1, r2, r3, hn1, nI_1]
      refine r2_v rfl rfl ?_
      first
        | (refine ⟨rfl, ?_, tF_i (by omega)⟩
           rw [rd1_cf (by omega) (by omega) (by rw [chr_ge hge0]; exact nI_m hc.2)]
           exact tR_s hR9)
        | (refine ⟨rfl, ?_, tF_i (by omega)⟩
           rw [rd1_cf (by omega) (by omega) (by rw [← hc0]; exact h28)]
           exact tR_s hR9)
        | (refine ⟨rfl, ?_, tF_i (by omega)⟩
           rw [rd1_ct (by omega) (by omega) (by rw [← hc0]; exact Decidable.not_not.mp h28)]
           exact tR_a hR9)
    · have hlt0 : p < n := nI_lt9 (by omega) (by omega) h15
      have ha0 := har (p) hlt0
      have hc0 := hch (p) hlt0
      refine xG_run 2 rfl (by repeat' (first | exact trivial | assumption | exact xob_b rfl | exact xal_b rfl | (apply And.intro) | decide)) ?_
      try dsimp only [xsto1, xsto2, xkill, xget, xset, gd_0, gd_s]
      try simp (disch := omega) only [gI_self, g_ne, sI_sI, r1, r2, r3, hn1, nI_1]
      rw [hb0]
      refine xG_run 2 rfl (by repeat' (first | exact trivial | assumption | exact xob_b rfl | exact xal_b rfl | (apply And.intro) | decide)) ?_
      try dsimp only [xsto1, xsto2, xkill, xget, xset, gd_0, gd_s]
      try simp (disch := omega) only [gI_self, g_ne, sI_sI, r1, r2, r3, hn1, nI_1]
      try simp (disch := omega) only [gI_self, g_ne, sI_sI, r1, r2, r3, hn1, nI_1]
      refine xG_run 2 rfl (by repeat' (first | exact trivial | assumption | exact xob_b rfl | exact xal_b rfl | (apply And.intro) | decide)) ?_
      try dsimp only [xsto1, xsto2, xkill, xget, xset, gd_0, gd_s]
      try simp (disch := omega) only [gI_self, g_ne, sI_sI, r1, r2, r3, hn1, nI_1]
      refine xG_br rfl (fun h28 => ?_) (fun h28 => ?_)
      · refine xG_run 3 rfl (by repeat' (first | exact trivial | assumption | exact xob_b rfl | exact xal_b rfl | (apply And.intro) | decide)) ?_
        try dsimp only [xsto1, xsto2, xkill, xget, xset, gd_0, gd_s]
        try simp (disch := omega) only [gI_self, g_ne, sI_sI, r1, r2, r3, hn1, nI_1]
        refine r2_v rfl rfl ?_
        first
          | (refine ⟨rfl, ?_, tF_i (by omega)⟩
             rw [rd1_cf (by omega) (by omega) (by rw [chr_ge hge0]; exact nI_m hc.2)]
             exact tR_s hR9)
          | (refine ⟨rfl, ?_, tF_i (by omega)⟩
             rw [rd1_cf (by omega) (by omega) (by rw [← hc0]; exact h28)]
             exact tR_s hR9)
          | (refine ⟨rfl, ?_, tF_i (by omega)⟩
             rw [rd1_ct (by omega) (by omega) (by rw [← hc0]; exact Decidable.not_not.mp h28)]
             exact tR_a hR9)
      · refine xG_run 7 rfl (by repeat' (first | exact trivial | assumption | exact xob_b rfl | exact xal_b rfl | (apply And.intro) | decide)) ?_
        try dsimp only [xsto1, xsto2, xkill, xget, xset, gd_0, gd_s]
        try simp (disch := omega) only [gI_self, g_ne, sI_sI, r1, r2, r3, hn1, nI_1]
        refine r2_v rfl rfl ?_
        first
          | (refine ⟨rfl, ?_, tF_i (by omega)⟩
             rw [rd1_cf (by omega) (by omega) (by rw [chr_ge hge0]; exact nI_m hc.2)]
             exact tR_s hR9)
          | (refine ⟨rfl, ?_, tF_i (by omega)⟩
             rw [rd1_cf (by omega) (by omega) (by rw [← hc0]; exact h28)]
             exact tR_s hR9)
          | (refine ⟨rfl, ?_, tF_i (by omega)⟩
             rw [rd1_ct (by omega) (by omega) (by rw [← hc0]; exact Decidable.not_not.mp h28)]
             exact tR_a hR9)
set_option maxRecDepth 4000 in
theorem e_readSide {κ : xKK} {d : Nat} {M : xM} {t n : Nat} {T : Nat → Int32} {s : tsT} (hC : tC M t n T) (hR : tR M s) (hs : s.2.1 ≤ n) : xE2 κ mX10_readSide d [.ref 127] M (fun v M' => v = none ∧ tR M' (rd1 T n 1 s) ∧ tF M M') := by
  refine xE2_of ci_X10_readSide cl_X10_readSide cw_X10_readSide rfl (L := [some (.ref 127)]) rfl ?_
  obtain ⟨ok, p, l, sd⟩ := s
  obtain ⟨c1, hn1, hn2, hT, hsh, ht1, ht2⟩ := hC
  have hR9 := hR
  obtain ⟨r1, r2, r3, r4, r5⟩ := hR
  dsimp only at r1 r2 r3 r4 r5 hs
  have hb0 : xrf (xpr z2.2.1 M 127 0) = .ref t := by show xrf (gP M 127 0) = _; rw [c1]; rfl
  have hb : ∀ v, xrf (xpr z2.2.1 (sI M 127 2 v) 127 0) = .ref t := fun _ => hb0
  have har : ∀ k, k < n → xar t 0 182 (nI k) := fun k hk => ⟨120, hsh, ht2, by rw [nI_ti (by omega)]; omega, by rw [nI_ti (by omega)]; omega⟩
  have hch : ∀ k, k < n → gI M t (nI k).toNatClampNeg = chr T n k := fun k hk => by rw [nI_cl (by omega), chr_lt hk]; exact hT k hk
  cases ok
  · have r2 : gI M 127 3 = 1 := r2
    refine xG_run 2 rfl (by repeat' (first | exact trivial | assumption | exact xob_b rfl | exact xal_b rfl | (apply And.intro) | decide)) ?_
    try dsimp only [xsto1, xsto2, xkill, xget, xset, gd_0, gd_s]
    try simp (disch := omega) only [gI_self, g_ne, sI_sI, r1, r2, r3, hn1, nI_1]
    refine xG_brT rfl (by first | decide | (rw [r2]; decide)) ?_
    refine xG_run 3 rfl (by repeat' (first | exact trivial | assumption | exact xob_b rfl | exact xal_b rfl | (apply And.intro) | decide)) ?_
    try dsimp only [xsto1, xsto2, xkill, xget, xset, gd_0, gd_s]
    try simp (disch := omega) only [gI_self, g_ne, sI_sI, r1, r2, r3, hn1, nI_1]
    refine r2_v rfl rfl ?_
    exact ⟨rfl, by rw [rd1_f rfl]; exact tR_s hR9, tF_i (by omega)⟩
  · have r2 : gI M 127 3 = 0 := r2
    refine xG_run 2 rfl (by repeat' (first | exact trivial | assumption | exact xob_b rfl | exact xal_b rfl | (apply And.intro) | decide)) ?_
    try dsimp only [xsto1, xsto2, xkill, xget, xset, gd_0, gd_s]
    try simp (disch := omega) only [gI_self, g_ne, sI_sI, r1, r2, r3, hn1, nI_1]
    refine xG_brF rfl (by first | decide | (rw [r2]; decide)) ?_
    refine xG_run 4 rfl (by repeat' (first | exact trivial | assumption | exact xob_b rfl | exact xal_b rfl | (apply And.intro) | decide)) ?_
    try dsimp only [xsto1, xsto2, xkill, xget, xset, gd_0, gd_s]
    try simp (disch := omega) only [gI_self, g_ne, sI_sI, r1, r2, r3, hn1, nI_1]
    refine xG_br rfl (fun h15 => ?_) (fun h15 => ?_)
    · have hge0 : ¬ p < n := fun z => nI_nlt9 z (by omega) h15
      refine xG_run 3 rfl (by repeat' (first | exact trivial | assumption | exact xob_b rfl | exact xal_b rfl | (apply And.intro) | decide)) ?_
      try dsimp only [xsto1, xsto2, xkill, xget, xset, gd_0, gd_s]
      try simp (disch := omega) only [gI_self, g_ne, sI_sI, r1, r2, r3, hn1, nI_1]
      refine r2_v rfl rfl ?_
      first
        | (refine ⟨rfl, ?_, tF_i (by omega)⟩
           rw [rd1_sf (by rw [chr_ge hge0]; decide) (by rw [chr_ge hge0]; decide)]
           exact tR_s hR9)
        | (refine ⟨rfl, ?_, tF_i (by omega)⟩
           rw [rd1_sf (by rw [← hc0]; exact h29) (by rw [← hc0]; exact h43)]
           exact tR_s hR9)
        | (refine ⟨rfl, ?_, tF_t (tF_i (by omega)) (tF_i (by omega))⟩
           rw [rd1_se (by rw [← hc0]; exact h29)]
           exact tR_a (tR_d hR9))
        | (refine ⟨rfl, ?_, tF_t (tF_i (by omega)) (tF_i (by omega))⟩
           rw [rd1_sw (by rw [← hc0]; exact h29) (by rw [← hc0]; exact Decidable.not_not.mp h43)]
           exact tR_a (tR_d hR9))
    · have hlt0 : p < n := nI_lt9 (by omega) (by omega) h15
      have ha0 := har (p) hlt0
      have hc0 := hch (p) hlt0
      refine xG_run 2 rfl (by repeat' (first | exact trivial | assumption | exact xob_b rfl | exact xal_b rfl | (apply And.intro) | decide)) ?_
      try dsimp only [xsto1, xsto2, xkill, xget, xset, gd_0, gd_s]
      try simp (disch := omega) only [gI_self, g_ne, sI_sI, r1, r2, r3, hn1, nI_1]
      rw [hb0]
      refine xG_run 2 rfl (by repeat' (first | exact trivial | assumption | exact xob_b rfl | exact xal_b rfl | (apply And.intro) | decide)) ?_
      try dsimp only [xsto1, xsto2, xkill, xget, xset, gd_0, gd_s]
      try simp (disch := omega) only [gI_self, g_ne, sI_sI, r1, r2, r3, hn1, nI_1]
      try simp (disch := omega) only [gI_self, g_ne, sI_sI, r1, r2, r3, hn1, nI_1]
      refine xG_run 2 rfl (by repeat' (first | exact trivial | assumption | exact xob_b rfl | exact xal_b rfl | (apply And.intro) | decide)) ?_
      try dsimp only [xsto1, xsto2, xkill, xget, xset, gd_0, gd_s]
      try simp (disch := omega) only [gI_self, g_ne, sI_sI, r1, r2, r3, hn1, nI_1]
      refine xG_br rfl (fun h29 => ?_) (fun h29 => ?_)
      · refine xG_run 3 rfl (by repeat' (first | exact trivial | assumption | exact xob_b rfl | exact xal_b rfl | (apply And.intro) | decide)) ?_
        try dsimp only [xsto1, xsto2, xkill, xget, xset, gd_0, gd_s]
        try simp (disch := omega) only [gI_self, g_ne, sI_sI, r1, r2, r3, hn1, nI_1]
        rw [hb0]
        refine xG_run 2 rfl (by repeat' (first | exact trivial | assumption | exact xob_b rfl | exact xal_b rfl | (apply And.intro) | decide)) ?_
        try dsimp only [xsto1, xsto2, xkill, xget, xset, gd_0, gd_s]
        try simp (disch := omega) only [gI_self, g_ne, sI_sI, r1, r2, r3, hn1, nI_1]
        try simp (disch := omega) only [gI_self, g_ne, sI_sI, r1, r2, r3, hn1, nI_1]
        refine xG_run 2 rfl (by repeat' (first | exact trivial | assumption | exact xob_b rfl | exact xal_b rfl | (apply And.intro) | decide)) ?_
        try dsimp only [xsto1, xsto2, xkill, xget, xset, gd_0, gd_s]
        try simp (disch := omega) only [gI_self, g_ne, sI_sI, r1, r2, r3, hn1, nI_1]
        refine xG_br rfl (fun h58 => ?_) (fun h58 => ?_)
        · first
            | (exfalso; first | exact h58 (by assumption) | exact absurd (Decidable.not_not.mp h58) (by assumption) | exact h29 (Decidable.not_not.mp h58))
            | (refine xG_run 8 rfl (by repeat' (first | exact trivial | assumption | exact xob_b rfl | exact xal_b rfl | (apply And.intro) | decide)) ?_
               try dsimp only [xsto1, xsto2, xkill, xget, xset, gd_0, gd_s]
               try simp (disch := omega) only [gI_self, g_ne, sI_sI, r1, r2, r3, hn1, nI_1]
               refine xG_run 1 rfl (by repeat' (first | exact trivial | assumption | exact xob_b rfl | exact xal_b rfl | (apply And.intro) | decide)) ?_
               try dsimp only [xsto1, xsto2, xkill, xget, xset, gd_0, gd_s]
               try simp (disch := omega) only [gI_self, g_ne, sI_sI, r1, r2, r3, hn1, nI_1]
               refine r2_v rfl rfl ?_
               first
                 | (refine ⟨rfl, ?_, tF_i (by omega)⟩
                    rw [rd1_sf (by rw [chr_ge hge0]; decide) (by rw [chr_ge hge0]; decide)]
                    exact tR_s hR9)
                 | (refine ⟨rfl, ?_, tF_i (by omega)⟩
                    rw [rd1_sf (by rw [← hc0]; exact h29) (by rw [← hc0]; exact h43)]
                    exact tR_s hR9)
                 | (refine ⟨rfl, ?_, tF_t (tF_i (by omega)) (tF_i (by omega))⟩
                    rw [rd1_se (by rw [← hc0]; exact h29)]
                    exact tR_a (tR_d hR9))
                 | (refine ⟨rfl, ?_, tF_t (tF_i (by omega)) (tF_i (by omega))⟩
                    rw [rd1_sw (by rw [← hc0]; exact h29) (by rw [← hc0]; exact Decidable.not_not.mp h43)]
                    exact tR_a (tR_d hR9)))
        · first
            | (exfalso; first | exact h58 (by assumption) | exact absurd (Decidable.not_not.mp h58) (by assumption) | exact h29 (Decidable.not_not.mp h58))
            | (refine xG_run 8 rfl (by repeat' (first | exact trivial | assumption | exact xob_b rfl | exact xal_b rfl | (apply And.intro) | decide)) ?_
               try dsimp only [xsto1, xsto2, xkill, xget, xset, gd_0, gd_s]
               try simp (disch := omega) only [gI_self, g_ne, sI_sI, r1, r2, r3, hn1, nI_1]
               refine xG_run 2 rfl (by repeat' (first | exact trivial | assumption | exact xob_b rfl | exact xal_b rfl | (apply And.intro) | decide)) ?_
               try dsimp only [xsto1, xsto2, xkill, xget, xset, gd_0, gd_s]
               try simp (disch := omega) only [gI_self, g_ne, sI_sI, r1, r2, r3, hn1, nI_1]
               refine r2_v rfl rfl ?_
               first
                 | (refine ⟨rfl, ?_, tF_i (by omega)⟩
                    rw [rd1_sf (by rw [chr_ge hge0]; decide) (by rw [chr_ge hge0]; decide)]
                    exact tR_s hR9)
                 | (refine ⟨rfl, ?_, tF_i (by omega)⟩
                    rw [rd1_sf (by rw [← hc0]; exact h29) (by rw [← hc0]; exact h43)]
                    exact tR_s hR9)
                 | (refine ⟨rfl, ?_, tF_t (tF_i (by omega)) (tF_i (by omega))⟩
                    rw [rd1_se (by rw [← hc0]; exact h29)]
                    exact tR_a (tR_d hR9))
                 | (refine ⟨rfl, ?_, tF_t (tF_i (by omega)) (tF_i (by omega))⟩
                    rw [rd1_sw (by rw [← hc0]; exact h29) (by rw [← hc0]; exact Decidable.not_not.mp h43)]
                    exact tR_a (tR_d hR9)))
      · refine xG_run 2 rfl (by repeat' (first | exact trivial | assumption | exact xob_b rfl | exact xal_b rfl | (apply And.intro) | decide)) ?_
        try dsimp only [xsto1, xsto2, xkill, xget, xset, gd_0, gd_s]
        try simp (disch := omega) only [gI_self, g_ne, sI_sI, r1, r2, r3, hn1, nI_1]
        rw [hb0]
        refine xG_run 2 rfl (by repeat' (first | exact trivial | assumption | exact xob_b rfl | exact xal_b rfl | (apply And.intro) | decide)) ?_
        try dsimp only [xsto1, xsto2, xkill, xget, xset, gd_0, gd_s]
        try simp (disch := omega) only [gI_self, g_ne, sI_sI, r1, r2, r3, hn1, nI_1]
        try simp (disch := omega) only [gI_self, g_ne, sI_sI, r1, r2, r3, hn1, nI_1]
        refine xG_run 2 rfl (by repeat' (first | exact trivial | assumption | exact xob_b rfl | exact xal_b rfl | (apply And.intro) | decide)) ?_
        try dsimp only [xsto1, xsto2, xkill, xget, xset, gd_0, gd_s]
        try simp (disch := omega) only [gI_self, g_ne, sI_sI, r1, r2, r3, hn1, nI_1]
        refine xG_br rfl (fun h43 => ?_) (fun h43 => ?_)
        · refine xG_run 3 rfl (by repeat' (first | exact trivial | assumption | exact xob_b rfl | exact xal_b rfl | (apply And.intro) | decide)) ?_
          try dsimp only [xsto1, xsto2, xkill, xget, xset, gd_0, gd_s]
          try simp (disch := omega) only [gI_self, g_ne, sI_sI, r1, r2, r3, hn1, nI_1]
          refine r2_v rfl rfl ?_
          first
            | (refine ⟨rfl, ?_, tF_i (by omega)⟩
               rw [rd1_sf (by rw [chr_ge hge0]; decide) (by rw [chr_ge hge0]; decide)]
               exact tR_s hR9)
            | (refine ⟨rfl, ?_, tF_i (by omega)⟩
               rw [rd1_sf (by rw [← hc0]; exact h29) (by rw [← hc0]; exact h43)]
               exact tR_s hR9)
            | (refine ⟨rfl, ?_, tF_t (tF_i (by omega)) (tF_i (by omega))⟩
               rw [rd1_se (by rw [← hc0]; exact h29)]
               exact tR_a (tR_d hR9))
            | (refine ⟨rfl, ?_, tF_t (tF_i (by omega)) (tF_i (by omega))⟩
               rw [rd1_sw (by rw [← hc0]; exact h29) (by rw [← hc0]; exact Decidable.not_not.mp h43)]
               exact tR_a (tR_d hR9))
        · refine xG_run 3 rfl (by repeat' (first | exact trivial | assumption | exact xob_b rfl | exact xal_b rfl | (apply And.intro) | decide)) ?_
          try dsimp only [xsto1, xsto2, xkill, xget, xset, gd_0, gd_s]
          try simp (disch := omega) only [gI_self, g_ne, sI_sI, r1, r2, r3, hn1, nI_1]
          rw [hb0]
          refine xG_run 2 rfl (by repeat' (first | exact trivial | assumption | exact xob_b rfl | exact xal_b rfl | (apply And.intro) | decide)) ?_
          try dsimp only [xsto1, xsto2, xkill, xget, xset, gd_0, gd_s]
          try simp (disch := omega) only [gI_self, g_ne, sI_sI, r1, r2, r3, hn1, nI_1]
          try simp (disch := omega) only [gI_self, g_ne, sI_sI, r1, r2, r3, hn1, nI_1]
          refine xG_run 2 rfl (by repeat' (first | exact trivial | assumption | exact xob_b rfl | exact xal_b rfl | (apply And.intro) | decide)) ?_
          try dsimp only [xsto1, xsto2, xkill, xget, xset, gd_0, gd_s]
          try simp (disch := omega) only [gI_self, g_ne, sI_sI, r1, r2, r3, hn1, nI_1]
          refine xG_br rfl (fun h58 => ?_) (fun h58 => ?_)
          · first
              | (exfalso; first | exact h58 (by assumption) | exact absurd (Decidable.not_not.mp h58) (by assumption) | exact h29 (Decidable.not_not.mp h58))
              | (refine xG_run 8 rfl (by repeat' (first | exact trivial | assumption | exact xob_b rfl | exact xal_b rfl | (apply And.intro) | decide)) ?_
                 try dsimp only [xsto1, xsto2, xkill, xget, xset, gd_0, gd_s]
                 try simp (disch := omega) only [gI_self, g_ne, sI_sI, r1, r2, r3, hn1, nI_1]
                 refine xG_run 1 rfl (by repeat' (first | exact trivial | assumption | exact xob_b rfl | exact xal_b rfl | (apply And.intro) | decide)) ?_
                 try dsimp only [xsto1, xsto2, xkill, xget, xset, gd_0, gd_s]
                 try simp (disch := omega) only [gI_self, g_ne, sI_sI, r1, r2, r3, hn1, nI_1]
                 refine r2_v rfl rfl ?_
                 first
                   | (refine ⟨rfl, ?_, tF_i (by omega)⟩
                      rw [rd1_sf (by rw [chr_ge hge0]; decide) (by rw [chr_ge hge0]; decide)]
                      exact tR_s hR9)
                   | (refine ⟨rfl, ?_, tF_i (by omega)⟩
                      rw [rd1_sf (by rw [← hc0]; exact h29) (by rw [← hc0]; exact h43)]
                      exact tR_s hR9)
                   | (refine ⟨rfl, ?_, tF_t (tF_i (by omega)) (tF_i (by omega))⟩
                      rw [rd1_se (by rw [← hc0]; exact h29)]
                      exact tR_a (tR_d hR9))
                   | (refine ⟨rfl, ?_, tF_t (tF_i (by omega)) (tF_i (by omega))⟩
                      rw [rd1_sw (by rw [← hc0]; exact h29) (by rw [← hc0]; exact Decidable.not_not.mp h43)]
                      exact tR_a (tR_d hR9)))
          · first
              | (exfalso; first | exact h58 (by assumption) | exact absurd (Decidable.not_not.mp h58) (by assumption) | exact h29 (Decidable.not_not.mp h58))
              | (refine xG_run 8 rfl (by repeat' (first | exact trivial | assumption | exact xob_b rfl | exact xal_b rfl | (apply And.intro) | decide)) ?_
                 try dsimp only [xsto1, xsto2, xkill, xget, xset, gd_0, gd_s]
                 try simp (disch := omega) only [gI_self, g_ne, sI_sI, r1, r2, r3, hn1, nI_1]
                 refine xG_run 2 rfl (by repeat' (first | exact trivial | assumption | exact xob_b rfl | exact xal_b rfl | (apply And.intro) | decide)) ?_
                 try dsimp only [xsto1, xsto2, xkill, xget, xset, gd_0, gd_s]
                 try simp (disch := omega) only [gI_self, g_ne, sI_sI, r1, r2, r3, hn1, nI_1]
                 refine r2_v rfl rfl ?_
                 first
                   | (refine ⟨rfl, ?_, tF_i (by omega)⟩
                      rw [rd1_sf (by rw [chr_ge hge0]; decide) (by rw [chr_ge hge0]; decide)]
                      exact tR_s hR9)
                   | (refine ⟨rfl, ?_, tF_i (by omega)⟩
                      rw [rd1_sf (by rw [← hc0]; exact h29) (by rw [← hc0]; exact h43)]
                      exact tR_s hR9)
                   | (refine ⟨rfl, ?_, tF_t (tF_i (by omega)) (tF_i (by omega))⟩
                      rw [rd1_se (by rw [← hc0]; exact h29)]
                      exact tR_a (tR_d hR9))
                   | (refine ⟨rfl, ?_, tF_t (tF_i (by omega)) (tF_i (by omega))⟩
                      rw [rd1_sw (by rw [← hc0]; exact h29) (by rw [← hc0]; exact Decidable.not_not.mp h43)]
                      exact tR_a (tR_d hR9)))
set_option maxRecDepth 4000 in
set_option maxHeartbeats 1000000 in
theorem e_readNumber {κ : xKK} {d : Nat} {M : xM} {t n : Nat} {T : Nat → Int32} {s : tsT} (hC : tC M t n T) (hR : tR M s) (hs : s.2.1 ≤ n) (hl : s.2.2.1.length < 5) (hd : 1 ≤ d) : xE2 κ mX10_readNumber d [.ref 127] M (fun v M' => v = none ∧ tR M' (rd1 T n 0 s) ∧ tF M M') := by
  refine xE2_of ci_X10_readNumber cl_X10_readNumber cw_X10_readNumber rfl (L := [some (.ref 127), none, none]) rfl ?_
  obtain ⟨ok, p, l, sd⟩ := s
  obtain ⟨c1, hn1, hn2, hT, hsh, ht1, ht2⟩ := hC
  have hR9 := hR
  obtain ⟨r1, r2, r3, r4, r5⟩ := hR
  dsimp only at r1 r2 r3 r4 r5 hs
  have hb0 : xrf (xpr z2.2.1 M 127 0) = .ref t := by show xrf (gP M 127 0) = _; rw [c1]; rfl
  have hb : ∀ v, xrf (xpr z2.2.1 (sI M 127 2 v) 127 0) = .ref t := fun _ => hb0
  have har : ∀ k, k < n → xar t 0 182 (nI k) := fun k hk => ⟨120, hsh, ht2, by rw [nI_ti (by omega)]; omega, by rw [nI_ti (by omega)]; omega⟩
  have hch : ∀ k, k < n → gI M t (nI k).toNatClampNeg = chr T n k := fun k hk => by rw [nI_cl (by omega), chr_lt hk]; exact hT k hk
  dsimp only at hl
  have hs9 : xar 129 0 182 (nI l.length) := xar_n rfl 5 rfl hl (by omega)
  have e7 : (nI l.length).toNatClampNeg = l.length := nI_cl (by omega)
  cases ok
  · have r2 : gI M 127 3 = 1 := r2
    refine xG_run 2 rfl (by repeat' (first | exact trivial | assumption | exact xob_b rfl | exact xal_b rfl | (apply And.intro) | decide)) ?_
    try dsimp only [xsto1, xsto2, xkill, xget, xset, gd_0, gd_s]
    try simp (disch := omega) only [gI_self, g_ne, sI_sI, r1, r2, r3, hn1, nI_1]
    refine xG_brT rfl (by first | decide | (rw [r2]; decide)) ?_
    refine xG_run 3 rfl (by repeat' (first | exact trivial | assumption | exact xob_b rfl | exact xal_b rfl | (apply And.intro) | decide)) ?_
    try dsimp only [xsto1, xsto2, xkill, xget, xset, gd_0, gd_s]
    try simp (disch := omega) only [gI_self, g_ne, sI_sI, r1, r2, r3, hn1, nI_1]
    refine r2_v rfl rfl ?_
    exact ⟨rfl, by rw [rd1_f rfl]; exact tR_s hR9, tF_i (by omega)⟩
  · have r2 : gI M 127 3 = 0 := r2
    refine xG_run 2 rfl (by repeat' (first | exact trivial | assumption | exact xob_b rfl | exact xal_b rfl | (apply And.intro) | decide)) ?_
    try dsimp only [xsto1, xsto2, xkill, xget, xset, gd_0, gd_s]
    try simp (disch := omega) only [gI_self, g_ne, sI_sI, r1, r2, r3, hn1, nI_1, Nat.add_assoc, Nat.reduceAdd]
    try rw [e7]
    try rw [hc0]
    try rw [hc1]
    try rw [hc2]
    refine xG_brF rfl (by first | decide | (rw [r2]; decide)) ?_
    refine xG_run 4 rfl (by repeat' (first | exact trivial | assumption | exact xob_b rfl | exact xal_b rfl | (apply And.intro) | decide)) ?_
    try dsimp only [xsto1, xsto2, xkill, xget, xset, gd_0, gd_s]
    try simp (disch := omega) only [gI_self, g_ne, sI_sI, r1, r2, r3, hn1, nI_1, Nat.add_assoc, Nat.reduceAdd]
    try rw [e7]
    try rw [hc0]
    try rw [hc1]
    try rw [hc2]
    refine xG_br rfl (fun h15 => ?_) (fun h15 => ?_)
    · have hge0 : ¬ p < n := fun z => nI_nlt9 z (by omega) h15
      refine xG_run 3 rfl (by repeat' (first | exact trivial | assumption | exact xob_b rfl | exact xal_b rfl | (apply And.intro) | decide)) ?_
      try dsimp only [xsto1, xsto2, xkill, xget, xset, gd_0, gd_s]
      try simp (disch := omega) only [gI_self, g_ne, sI_sI, r1, r2, r3, hn1, nI_1, Nat.add_assoc, Nat.reduceAdd]
      try rw [e7]
      try rw [hc0]
      try rw [hc1]
      try rw [hc2]
      refine r2_v rfl rfl ?_
      first
        | (refine ⟨rfl, ?_, tF_i (by omega)⟩
           rw [rd1_nf (nL_0 (dg_ge hge0))]
           exact tR_s hR9)
        | (refine ⟨rfl, ?_, tF_i (by omega)⟩
           rw [rd1_nf (nL_0 b30)]
           exact tR_s hR9)
    · have hlt0 : p < n := nI_lt9 (by omega) (by omega) h15
      have ha0 := har (p) hlt0
      have hc0 := hch (p) hlt0
      refine xG_run 2 rfl (by repeat' (first | exact trivial | assumption | exact xob_b rfl | exact xal_b rfl | (apply And.intro) | decide)) ?_
      try dsimp only [xsto1, xsto2, xkill, xget, xset, gd_0, gd_s]
      try simp (disch := omega) only [gI_self, g_ne, sI_sI, r1, r2, r3, hn1, nI_1, Nat.add_assoc, Nat.reduceAdd]
      try rw [e7]
      try rw [hc0]
      try rw [hc1]
      try rw [hc2]
      first | rw [hb] | rw [hb0]
      refine xG_run 2 rfl (by repeat' (first | exact trivial | assumption | exact xob_b rfl | exact xal_b rfl | (apply And.intro) | decide)) ?_
      try dsimp only [xsto1, xsto2, xkill, xget, xset, gd_0, gd_s]
      try simp (disch := omega) only [gI_self, g_ne, sI_sI, r1, r2, r3, hn1, nI_1, Nat.add_assoc, Nat.reduceAdd]
      try rw [e7]
      try rw [hc0]
      try rw [hc1]
      try rw [hc2]
      try simp (disch := omega) only [gI_self, g_ne, sI_sI, r1, r2, r3, hn1, nI_1]
      refine xG_run 1 rfl (by repeat' (first | exact trivial | assumption | exact xob_b rfl | exact xal_b rfl | (apply And.intro) | decide)) ?_
      try dsimp only [xsto1, xsto2, xkill, xget, xset, gd_0, gd_s]
      try simp (disch := omega) only [gI_self, g_ne, sI_sI, r1, r2, r3, hn1, nI_1, Nat.add_assoc, Nat.reduceAdd]
      try rw [e7]
      try rw [hc0]
      try rw [hc1]
      try rw [hc2]
      refine xG_c2 1 rfl (by repeat' (first | exact trivial | assumption | exact xob_b rfl | exact xal_b rfl | (apply And.intro) | decide)) rfl rfl (by decide) cw_X10_isDigit (d' := d - 1) e_isDigit (by omega) ?_
      rintro v M' ⟨rfl, hM⟩
      subst M'
      dsimp only [Option.toList, List.cons_append, List.nil_append]
      refine xG_br rfl (fun h30 => ?_) (fun h30 => ?_)
      · have b30 := z0.mp h30
        refine xG_run 3 rfl (by repeat' (first | exact trivial | assumption | exact xob_b rfl | exact xal_b rfl | (apply And.intro) | decide)) ?_
        try dsimp only [xsto1, xsto2, xkill, xget, xset, gd_0, gd_s]
        try simp (disch := omega) only [gI_self, g_ne, sI_sI, r1, r2, r3, hn1, nI_1, Nat.add_assoc, Nat.reduceAdd]
        try rw [e7]
        try rw [hc0]
        try rw [hc1]
        try rw [hc2]
        refine r2_v rfl rfl ?_
        first
          | (refine ⟨rfl, ?_, tF_i (by omega)⟩
             rw [rd1_nf (nL_0 (dg_ge hge0))]
             exact tR_s hR9)
          | (refine ⟨rfl, ?_, tF_i (by omega)⟩
             rw [rd1_nf (nL_0 b30)]
             exact tR_s hR9)
      · have b30 := z1.mp h30
        refine xG_run 5 rfl (by repeat' (first | exact trivial | assumption | exact xob_b rfl | exact xal_b rfl | (apply And.intro) | decide)) ?_
        try dsimp only [xsto1, xsto2, xkill, xget, xset, gd_0, gd_s]
        try simp (disch := omega) only [gI_self, g_ne, sI_sI, r1, r2, r3, hn1, nI_1, Nat.add_assoc, Nat.reduceAdd]
        try rw [e7]
        try rw [hc0]
        try rw [hc1]
        try rw [hc2]
        refine xG_brT rfl (show nI l.length < nI 5 from nI_lt hl (by omega)) ?_
        refine xG_run 2 rfl (by repeat' (first | exact trivial | assumption | exact xob_b rfl | exact xal_b rfl | (apply And.intro) | decide)) ?_
        try dsimp only [xsto1, xsto2, xkill, xget, xset, gd_0, gd_s]
        try simp (disch := omega) only [gI_self, g_ne, sI_sI, r1, r2, r3, hn1, nI_1, Nat.add_assoc, Nat.reduceAdd]
        try rw [e7]
        try rw [hc0]
        try rw [hc1]
        try rw [hc2]
        first | rw [hb] | rw [hb0]
        refine xG_run 2 rfl (by repeat' (first | exact trivial | assumption | exact xob_b rfl | exact xal_b rfl | (apply And.intro) | decide)) ?_
        try dsimp only [xsto1, xsto2, xkill, xget, xset, gd_0, gd_s]
        try simp (disch := omega) only [gI_self, g_ne, sI_sI, r1, r2, r3, hn1, nI_1, Nat.add_assoc, Nat.reduceAdd]
        try rw [e7]
        try rw [hc0]
        try rw [hc1]
        try rw [hc2]
        try simp (disch := omega) only [gI_self, g_ne, sI_sI, r1, r2, r3, hn1, nI_1]
        refine xG_run 8 rfl (by repeat' (first | exact trivial | assumption | exact xob_b rfl | exact xal_b rfl | (apply And.intro) | decide)) ?_
        try dsimp only [xsto1, xsto2, xkill, xget, xset, gd_0, gd_s]
        try simp (disch := omega) only [gI_self, g_ne, sI_sI, r1, r2, r3, hn1, nI_1, Nat.add_assoc, Nat.reduceAdd]
        try rw [e7]
        try rw [hc0]
        try rw [hc1]
        try rw [hc2]
        refine xG_run 3 rfl (by repeat' (first | exact trivial | assumption | exact xob_b rfl | exact xal_b rfl | (apply And.intro) | decide)) ?_
        try dsimp only [xsto1, xsto2, xkill, xget, xset, gd_0, gd_s]
        try simp (disch := omega) only [gI_self, g_ne, sI_sI, r1, r2, r3, hn1, nI_1, Nat.add_assoc, Nat.reduceAdd]
        try rw [e7]
        try rw [hc0]
        try rw [hc1]
        try rw [hc2]
        refine xG_br rfl (fun h75 => ?_) (fun h75 => ?_)
        · refine xG_run 2 rfl (by repeat' (first | exact trivial | assumption | exact xob_b rfl | exact xal_b rfl | (apply And.intro) | decide)) ?_
          try dsimp only [xsto1, xsto2, xkill, xget, xset, gd_0, gd_s]
          try simp (disch := omega) only [gI_self, g_ne, sI_sI, r1, r2, r3, hn1, nI_1, Nat.add_assoc, Nat.reduceAdd]
          try rw [e7]
          try rw [hc0]
          try rw [hc1]
          try rw [hc2]
          refine xG_run 2 rfl (by repeat' (first | exact trivial | assumption | exact xob_b rfl | exact xal_b rfl | (apply And.intro) | decide)) ?_
          try dsimp only [xsto1, xsto2, xkill, xget, xset, gd_0, gd_s]
          try simp (disch := omega) only [gI_self, g_ne, sI_sI, r1, r2, r3, hn1, nI_1, Nat.add_assoc, Nat.reduceAdd]
          try rw [e7]
          try rw [hc0]
          try rw [hc1]
          try rw [hc2]
          refine xG_brF rfl (by decide) ?_
          refine xG_run 4 rfl (by repeat' (first | exact trivial | assumption | exact xob_b rfl | exact xal_b rfl | (apply And.intro) | decide)) ?_
          try dsimp only [xsto1, xsto2, xkill, xget, xset, gd_0, gd_s]
          try simp (disch := omega) only [gI_self, g_ne, sI_sI, r1, r2, r3, hn1, nI_1, Nat.add_assoc, Nat.reduceAdd]
          try rw [e7]
          try rw [hc0]
          try rw [hc1]
          try rw [hc2]
          refine xG_br rfl (fun h97 => ?_) (fun h97 => ?_)
          · have hge1 : ¬ p + 1 < n := fun z => nI_nlt9 z (by omega) h97
            refine xG_run 5 rfl (by repeat' (first | exact trivial | assumption | exact xob_b rfl | exact xal_b rfl | (apply And.intro) | decide)) ?_
            try dsimp only [xsto1, xsto2, xkill, xget, xset, gd_0, gd_s]
            try simp (disch := omega) only [gI_self, g_ne, sI_sI, r1, r2, r3, hn1, nI_1, Nat.add_assoc, Nat.reduceAdd]
            try rw [e7]
            try rw [hc0]
            try rw [hc1]
            try rw [hc2]
            try simp (disch := omega) only [gI_self, g_ne, sI_sI, r1, r2, r3, hn1, nI_1]
            refine xG_run 7 rfl (by repeat' (first | exact trivial | assumption | exact xob_b rfl | exact xal_b rfl | (apply And.intro) | decide)) ?_
            try dsimp only [xsto1, xsto2, xkill, xget, xset, gd_0, gd_s]
            try simp (disch := omega) only [gI_self, g_ne, sI_sI, r1, r2, r3, hn1, nI_1, Nat.add_assoc, Nat.reduceAdd]
            try rw [e7]
            try rw [hc0]
            try rw [hc1]
            try rw [hc2]
            refine r2_v rfl rfl ?_
            first
              | (refine ⟨rfl, ?_, tF_t (tF_i (by omega)) (tF_t tF_n (tF_i (by omega)))⟩
                 rw [rd1_nt (k := 1) (nL_1 b30 (Or.inr (dg_ge hge1))) (by decide)]
                 exact tR_n (tR_a hR9))
              | (refine ⟨rfl, ?_, tF_t (tF_i (by omega)) (tF_t tF_n (tF_i (by omega)))⟩
                 rw [rd1_nt (k := 1) (nL_1 b30 (Or.inr b112)) (by decide)]
                 exact tR_n (tR_a hR9))
          · have hlt1 : p + 1 < n := nI_lt9 (by omega) (by omega) h97
            have ha1 := har (p + 1) hlt1
            have hc1 := hch (p + 1) hlt1
            refine xG_run 2 rfl (by repeat' (first | exact trivial | assumption | exact xob_b rfl | exact xal_b rfl | (apply And.intro) | decide)) ?_
            try dsimp only [xsto1, xsto2, xkill, xget, xset, gd_0, gd_s]
            try simp (disch := omega) only [gI_self, g_ne, sI_sI, r1, r2, r3, hn1, nI_1, Nat.add_assoc, Nat.reduceAdd]
            try rw [e7]
            try rw [hc0]
            try rw [hc1]
            try rw [hc2]
            first | rw [hb] | rw [hb0]
            refine xG_run 2 rfl (by repeat' (first | exact trivial | assumption | exact xob_b rfl | exact xal_b rfl | (apply And.intro) | decide)) ?_
            try dsimp only [xsto1, xsto2, xkill, xget, xset, gd_0, gd_s]
            try simp (disch := omega) only [gI_self, g_ne, sI_sI, r1, r2, r3, hn1, nI_1, Nat.add_assoc, Nat.reduceAdd]
            try rw [e7]
            try rw [hc0]
            try rw [hc1]
            try rw [hc2]
            try simp (disch := omega) only [gI_self, g_ne, sI_sI, r1, r2, r3, hn1, nI_1]
            refine xG_run 1 rfl (by repeat' (first | exact trivial | assumption | exact xob_b rfl | exact xal_b rfl | (apply And.intro) | decide)) ?_
            try dsimp only [xsto1, xsto2, xkill, xget, xset, gd_0, gd_s]
            try simp (disch := omega) only [gI_self, g_ne, sI_sI, r1, r2, r3, hn1, nI_1, Nat.add_assoc, Nat.reduceAdd]
            try rw [e7]
            try rw [hc0]
            try rw [hc1]
            try rw [hc2]
            refine xG_c2 1 rfl (by repeat' (first | exact trivial | assumption | exact xob_b rfl | exact xal_b rfl | (apply And.intro) | decide)) rfl rfl (by decide) cw_X10_isDigit (d' := d - 1) e_isDigit (by omega) ?_
            rintro v M' ⟨rfl, hM⟩
            subst M'
            dsimp only [Option.toList, List.cons_append, List.nil_append]
            refine xG_br rfl (fun h112 => ?_) (fun h112 => ?_)
            · have b112 := z0.mp h112
              refine xG_run 5 rfl (by repeat' (first | exact trivial | assumption | exact xob_b rfl | exact xal_b rfl | (apply And.intro) | decide)) ?_
              try dsimp only [xsto1, xsto2, xkill, xget, xset, gd_0, gd_s]
              try simp (disch := omega) only [gI_self, g_ne, sI_sI, r1, r2, r3, hn1, nI_1, Nat.add_assoc, Nat.reduceAdd]
              try rw [e7]
              try rw [hc0]
              try rw [hc1]
              try rw [hc2]
              try simp (disch := omega) only [gI_self, g_ne, sI_sI, r1, r2, r3, hn1, nI_1]
              refine xG_run 7 rfl (by repeat' (first | exact trivial | assumption | exact xob_b rfl | exact xal_b rfl | (apply And.intro) | decide)) ?_
              try dsimp only [xsto1, xsto2, xkill, xget, xset, gd_0, gd_s]
              try simp (disch := omega) only [gI_self, g_ne, sI_sI, r1, r2, r3, hn1, nI_1, Nat.add_assoc, Nat.reduceAdd]
              try rw [e7]
              try rw [hc0]
              try rw [hc1]
              try rw [hc2]
              refine r2_v rfl rfl ?_
              first
                | (refine ⟨rfl, ?_, tF_t (tF_i (by omega)) (tF_t tF_n (tF_i (by omega)))⟩
                   rw [rd1_nt (k := 1) (nL_1 b30 (Or.inr (dg_ge hge1))) (by decide)]
                   exact tR_n (tR_a hR9))
                | (refine ⟨rfl, ?_, tF_t (tF_i (by omega)) (tF_t tF_n (tF_i (by omega)))⟩
                   rw [rd1_nt (k := 1) (nL_1 b30 (Or.inr b112)) (by decide)]
                   exact tR_n (tR_a hR9))
            · have b112 := z1.mp h112
              refine xG_run 5 rfl (by repeat' (first | exact trivial | assumption | exact xob_b rfl | exact xal_b rfl | (apply And.intro) | decide)) ?_
              try dsimp only [xsto1, xsto2, xkill, xget, xset, gd_0, gd_s]
              try simp (disch := omega) only [gI_self, g_ne, sI_sI, r1, r2, r3, hn1, nI_1, Nat.add_assoc, Nat.reduceAdd]
              try rw [e7]
              try rw [hc0]
              try rw [hc1]
              try rw [hc2]
              first | rw [hb] | rw [hb0]
              refine xG_run 2 rfl (by repeat' (first | exact trivial | assumption | exact xob_b rfl | exact xal_b rfl | (apply And.intro) | decide)) ?_
              try dsimp only [xsto1, xsto2, xkill, xget, xset, gd_0, gd_s]
              try simp (disch := omega) only [gI_self, g_ne, sI_sI, r1, r2, r3, hn1, nI_1, Nat.add_assoc, Nat.reduceAdd]
              try rw [e7]
              try rw [hc0]
              try rw [hc1]
              try rw [hc2]
              try simp (disch := omega) only [gI_self, g_ne, sI_sI, r1, r2, r3, hn1, nI_1]
              refine xG_run 8 rfl (by repeat' (first | exact trivial | assumption | exact xob_b rfl | exact xal_b rfl | (apply And.intro) | decide)) ?_
              try dsimp only [xsto1, xsto2, xkill, xget, xset, gd_0, gd_s]
              try simp (disch := omega) only [gI_self, g_ne, sI_sI, r1, r2, r3, hn1, nI_1, Nat.add_assoc, Nat.reduceAdd]
              try rw [e7]
              try rw [hc0]
              try rw [hc1]
              try rw [hc2]
              refine xG_run 5 rfl (by repeat' (first | exact trivial | assumption | exact xob_b rfl | exact xal_b rfl | (apply And.intro) | decide)) ?_
              try dsimp only [xsto1, xsto2, xkill, xget, xset, gd_0, gd_s]
              try simp (disch := omega) only [gI_self, g_ne, sI_sI, r1, r2, r3, hn1, nI_1, Nat.add_assoc, Nat.reduceAdd]
              try rw [e7]
              try rw [hc0]
              try rw [hc1]
              try rw [hc2]
              refine xG_run 2 rfl (by repeat' (first | exact trivial | assumption | exact xob_b rfl | exact xal_b rfl | (apply And.intro) | decide)) ?_
              try dsimp only [xsto1, xsto2, xkill, xget, xset, gd_0, gd_s]
              try simp (disch := omega) only [gI_self, g_ne, sI_sI, r1, r2, r3, hn1, nI_1, Nat.add_assoc, Nat.reduceAdd]
              try rw [e7]
              try rw [hc0]
              try rw [hc1]
              try rw [hc2]
              refine xG_brF rfl (by decide) ?_
              refine xG_run 4 rfl (by repeat' (first | exact trivial | assumption | exact xob_b rfl | exact xal_b rfl | (apply And.intro) | decide)) ?_
              try dsimp only [xsto1, xsto2, xkill, xget, xset, gd_0, gd_s]
              try simp (disch := omega) only [gI_self, g_ne, sI_sI, r1, r2, r3, hn1, nI_1, Nat.add_assoc, Nat.reduceAdd]
              try rw [e7]
              try rw [hc0]
              try rw [hc1]
              try rw [hc2]
              refine xG_br rfl (fun h97 => ?_) (fun h97 => ?_)
              · have hge2 : ¬ p + 2 < n := fun z => nI_nlt9 z (by omega) h97
                refine xG_run 5 rfl (by repeat' (first | exact trivial | assumption | exact xob_b rfl | exact xal_b rfl | (apply And.intro) | decide)) ?_
                try dsimp only [xsto1, xsto2, xkill, xget, xset, gd_0, gd_s]
                try simp (disch := omega) only [gI_self, g_ne, sI_sI, r1, r2, r3, hn1, nI_1, Nat.add_assoc, Nat.reduceAdd]
                try rw [e7]
                try rw [hc0]
                try rw [hc1]
                try rw [hc2]
                try simp (disch := omega) only [gI_self, g_ne, sI_sI, r1, r2, r3, hn1, nI_1]
                refine xG_run 7 rfl (by repeat' (first | exact trivial | assumption | exact xob_b rfl | exact xal_b rfl | (apply And.intro) | decide)) ?_
                try dsimp only [xsto1, xsto2, xkill, xget, xset, gd_0, gd_s]
                try simp (disch := omega) only [gI_self, g_ne, sI_sI, r1, r2, r3, hn1, nI_1, Nat.add_assoc, Nat.reduceAdd]
                try rw [e7]
                try rw [hc0]
                try rw [hc1]
                try rw [hc2]
                refine r2_v rfl rfl ?_
                first
                  | (refine ⟨rfl, ?_, tF_t (tF_i (by omega)) (tF_t tF_n (tF_i (by omega)))⟩
                     rw [rd1_nt (k := 2) (nL_2 b30 h75 b112 (dg_ge hge2)) (by decide)]
                     exact tR_n (tR_a hR9))
                  | (refine ⟨rfl, ?_, tF_t (tF_i (by omega)) (tF_t tF_n (tF_i (by omega)))⟩
                     rw [rd1_nt (k := 2) (nL_2 b30 h75 b112 b112c) (by decide)]
                     exact tR_n (tR_a hR9))
              · have hlt2 : p + 2 < n := nI_lt9 (by omega) (by omega) h97
                have ha2 := har (p + 2) hlt2
                have hc2 := hch (p + 2) hlt2
                refine xG_run 2 rfl (by repeat' (first | exact trivial | assumption | exact xob_b rfl | exact xal_b rfl | (apply And.intro) | decide)) ?_
                try dsimp only [xsto1, xsto2, xkill, xget, xset, gd_0, gd_s]
                try simp (disch := omega) only [gI_self, g_ne, sI_sI, r1, r2, r3, hn1, nI_1, Nat.add_assoc, Nat.reduceAdd]
                try rw [e7]
                try rw [hc0]
                try rw [hc1]
                try rw [hc2]
                first | rw [hb] | rw [hb0]
                refine xG_run 2 rfl (by repeat' (first | exact trivial | assumption | exact xob_b rfl | exact xal_b rfl | (apply And.intro) | decide)) ?_
                try dsimp only [xsto1, xsto2, xkill, xget, xset, gd_0, gd_s]
                try simp (disch := omega) only [gI_self, g_ne, sI_sI, r1, r2, r3, hn1, nI_1, Nat.add_assoc, Nat.reduceAdd]
                try rw [e7]
                try rw [hc0]
                try rw [hc1]
                try rw [hc2]
                try simp (disch := omega) only [gI_self, g_ne, sI_sI, r1, r2, r3, hn1, nI_1]
                refine xG_run 1 rfl (by repeat' (first | exact trivial | assumption | exact xob_b rfl | exact xal_b rfl | (apply And.intro) | decide)) ?_
                try dsimp only [xsto1, xsto2, xkill, xget, xset, gd_0, gd_s]
                try simp (disch := omega) only [gI_self, g_ne, sI_sI, r1, r2, r3, hn1, nI_1, Nat.add_assoc, Nat.reduceAdd]
                try rw [e7]
                try rw [hc0]
                try rw [hc1]
                try rw [hc2]
                refine xG_c2 1 rfl (by repeat' (first | exact trivial | assumption | exact xob_b rfl | exact xal_b rfl | (apply And.intro) | decide)) rfl rfl (by decide) cw_X10_isDigit (d' := d - 1) e_isDigit (by omega) ?_
                rintro v M' ⟨rfl, hM⟩
                subst M'
                dsimp only [Option.toList, List.cons_append, List.nil_append]
                refine xG_br rfl (fun h112c => ?_) (fun h112c => ?_)
                · have b112c := z0.mp h112c
                  refine xG_run 5 rfl (by repeat' (first | exact trivial | assumption | exact xob_b rfl | exact xal_b rfl | (apply And.intro) | decide)) ?_
                  try dsimp only [xsto1, xsto2, xkill, xget, xset, gd_0, gd_s]
                  try simp (disch := omega) only [gI_self, g_ne, sI_sI, r1, r2, r3, hn1, nI_1, Nat.add_assoc, Nat.reduceAdd]
                  try rw [e7]
                  try rw [hc0]
                  try rw [hc1]
                  try rw [hc2]
                  try simp (disch := omega) only [gI_self, g_ne, sI_sI, r1, r2, r3, hn1, nI_1]
                  refine xG_run 7 rfl (by repeat' (first | exact trivial | assumption | exact xob_b rfl | exact xal_b rfl | (apply And.intro) | decide)) ?_
                  try dsimp only [xsto1, xsto2, xkill, xget, xset, gd_0, gd_s]
                  try simp (disch := omega) only [gI_self, g_ne, sI_sI, r1, r2, r3, hn1, nI_1, Nat.add_assoc, Nat.reduceAdd]
                  try rw [e7]
                  try rw [hc0]
                  try rw [hc1]
                  try rw [hc2]
                  refine r2_v rfl rfl ?_
                  first
                    | (refine ⟨rfl, ?_, tF_t (tF_i (by omega)) (tF_t tF_n (tF_i (by omega)))⟩
                       rw [rd1_nt (k := 2) (nL_2 b30 h75 b112 (dg_ge hge2)) (by decide)]
                       exact tR_n (tR_a hR9))
                    | (refine ⟨rfl, ?_, tF_t (tF_i (by omega)) (tF_t tF_n (tF_i (by omega)))⟩
                       rw [rd1_nt (k := 2) (nL_2 b30 h75 b112 b112c) (by decide)]
                       exact tR_n (tR_a hR9))
                · have b112c := z1.mp h112c
                  refine xG_run 5 rfl (by repeat' (first | exact trivial | assumption | exact xob_b rfl | exact xal_b rfl | (apply And.intro) | decide)) ?_
                  try dsimp only [xsto1, xsto2, xkill, xget, xset, gd_0, gd_s]
                  try simp (disch := omega) only [gI_self, g_ne, sI_sI, r1, r2, r3, hn1, nI_1, Nat.add_assoc, Nat.reduceAdd]
                  try rw [e7]
                  try rw [hc0]
                  try rw [hc1]
                  try rw [hc2]
                  first | rw [hb] | rw [hb0]
                  refine xG_run 2 rfl (by repeat' (first | exact trivial | assumption | exact xob_b rfl | exact xal_b rfl | (apply And.intro) | decide)) ?_
                  try dsimp only [xsto1, xsto2, xkill, xget, xset, gd_0, gd_s]
                  try simp (disch := omega) only [gI_self, g_ne, sI_sI, r1, r2, r3, hn1, nI_1, Nat.add_assoc, Nat.reduceAdd]
                  try rw [e7]
                  try rw [hc0]
                  try rw [hc1]
                  try rw [hc2]
                  try simp (disch := omega) only [gI_self, g_ne, sI_sI, r1, r2, r3, hn1, nI_1]
                  refine xG_run 8 rfl (by repeat' (first | exact trivial | assumption | exact xob_b rfl | exact xal_b rfl | (apply And.intro) | decide)) ?_
                  try dsimp only [xsto1, xsto2, xkill, xget, xset, gd_0, gd_s]
                  try simp (disch := omega) only [gI_self, g_ne, sI_sI, r1, r2, r3, hn1, nI_1, Nat.add_assoc, Nat.reduceAdd]
                  try rw [e7]
                  try rw [hc0]
                  try rw [hc1]
                  try rw [hc2]
                  refine xG_run 5 rfl (by repeat' (first | exact trivial | assumption | exact xob_b rfl | exact xal_b rfl | (apply And.intro) | decide)) ?_
                  try dsimp only [xsto1, xsto2, xkill, xget, xset, gd_0, gd_s]
                  try simp (disch := omega) only [gI_self, g_ne, sI_sI, r1, r2, r3, hn1, nI_1, Nat.add_assoc, Nat.reduceAdd]
                  try rw [e7]
                  try rw [hc0]
                  try rw [hc1]
                  try rw [hc2]
                  refine xG_run 2 rfl (by repeat' (first | exact trivial | assumption | exact xob_b rfl | exact xal_b rfl | (apply And.intro) | decide)) ?_
                  try dsimp only [xsto1, xsto2, xkill, xget, xset, gd_0, gd_s]
                  try simp (disch := omega) only [gI_self, g_ne, sI_sI, r1, r2, r3, hn1, nI_1, Nat.add_assoc, Nat.reduceAdd]
                  try rw [e7]
                  try rw [hc0]
                  try rw [hc1]
                  try rw [hc2]
                  refine xG_brT rfl (by decide) ?_
                  refine xG_run 5 rfl (by repeat' (first | exact trivial | assumption | exact xob_b rfl | exact xal_b rfl | (apply And.intro) | decide)) ?_
                  try dsimp only [xsto1, xsto2, xkill, xget, xset, gd_0, gd_s]
                  try simp (disch := omega) only [gI_self, g_ne, sI_sI, r1, r2, r3, hn1, nI_1, Nat.add_assoc, Nat.reduceAdd]
                  try rw [e7]
                  try rw [hc0]
                  try rw [hc1]
                  try rw [hc2]
                  try simp (disch := omega) only [gI_self, g_ne, sI_sI, r1, r2, r3, hn1, nI_1]
                  refine xG_run 7 rfl (by repeat' (first | exact trivial | assumption | exact xob_b rfl | exact xal_b rfl | (apply And.intro) | decide)) ?_
                  try dsimp only [xsto1, xsto2, xkill, xget, xset, gd_0, gd_s]
                  try simp (disch := omega) only [gI_self, g_ne, sI_sI, r1, r2, r3, hn1, nI_1, Nat.add_assoc, Nat.reduceAdd]
                  try rw [e7]
                  try rw [hc0]
                  try rw [hc1]
                  try rw [hc2]
                  refine r2_v rfl rfl ?_
                  refine ⟨rfl, ?_, tF_t (tF_i (by omega)) (tF_t tF_n (tF_i (by omega)))⟩
                  rw [rd1_nt (k := 3) (nL_3 b30 h75 b112 b112c) (by decide)]
                  exact tR_n (tR_a hR9)
        · refine xG_run 3 rfl (by repeat' (first | exact trivial | assumption | exact xob_b rfl | exact xal_b rfl | (apply And.intro) | decide)) ?_
          try dsimp only [xsto1, xsto2, xkill, xget, xset, gd_0, gd_s]
          try simp (disch := omega) only [gI_self, g_ne, sI_sI, r1, r2, r3, hn1, nI_1, Nat.add_assoc, Nat.reduceAdd]
          try rw [e7]
          try rw [hc0]
          try rw [hc1]
          try rw [hc2]
          refine xG_run 2 rfl (by repeat' (first | exact trivial | assumption | exact xob_b rfl | exact xal_b rfl | (apply And.intro) | decide)) ?_
          try dsimp only [xsto1, xsto2, xkill, xget, xset, gd_0, gd_s]
          try simp (disch := omega) only [gI_self, g_ne, sI_sI, r1, r2, r3, hn1, nI_1, Nat.add_assoc, Nat.reduceAdd]
          try rw [e7]
          try rw [hc0]
          try rw [hc1]
          try rw [hc2]
          refine xG_brT rfl (by decide) ?_
          refine xG_run 5 rfl (by repeat' (first | exact trivial | assumption | exact xob_b rfl | exact xal_b rfl | (apply And.intro) | decide)) ?_
          try dsimp only [xsto1, xsto2, xkill, xget, xset, gd_0, gd_s]
          try simp (disch := omega) only [gI_self, g_ne, sI_sI, r1, r2, r3, hn1, nI_1, Nat.add_assoc, Nat.reduceAdd]
          try rw [e7]
          try rw [hc0]
          try rw [hc1]
          try rw [hc2]
          try simp (disch := omega) only [gI_self, g_ne, sI_sI, r1, r2, r3, hn1, nI_1]
          refine xG_run 7 rfl (by repeat' (first | exact trivial | assumption | exact xob_b rfl | exact xal_b rfl | (apply And.intro) | decide)) ?_
          try dsimp only [xsto1, xsto2, xkill, xget, xset, gd_0, gd_s]
          try simp (disch := omega) only [gI_self, g_ne, sI_sI, r1, r2, r3, hn1, nI_1, Nat.add_assoc, Nat.reduceAdd]
          try rw [e7]
          try rw [hc0]
          try rw [hc1]
          try rw [hc2]
          refine r2_v rfl rfl ?_
          refine ⟨rfl, ?_, tF_t (tF_i (by omega)) (tF_t tF_n (tF_i (by omega)))⟩
          rw [rd1_nt (k := 1) (nL_1 b30 (Or.inl (Decidable.not_not.mp h75))) (by decide)]
          exact tR_n (tR_a hR9)
