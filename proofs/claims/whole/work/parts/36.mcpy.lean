/-! ===== copy, offer, tell, rope of the reference ===== -/
abbrev rcN (M : xM) (a b : Nat) : Prop := gI M 170 a = 0 ∨ gI M 170 b = 0
abbrev rcS (M : xM) (a b : Nat) : Prop := gI M 170 a = 2 ∧ gI M 170 b = 2 ∧ gI M 171 a = gI M 171 b
abbrev rcP (M : xM) (a b : Nat) (s t n : Int32) : Prop := 0 ≤ n ∧ 0 ≤ s ∧ 0 ≤ t ∧ n ≤ gI M 172 a - s ∧ n ≤ gI M 172 b - t
def mvR (M : xM) (S T lo hi : Nat) : xM := (fun x k => if x = 173 ∧ T + lo ≤ k ∧ k < T + hi then gI M 173 (S + (k - T)) else gI M x k, M.2.1, M.2.2)
theorem mvR_g {M : xM} {S T lo hi x k : Nat} : gI (mvR M S T lo hi) x k = if x = 173 ∧ T + lo ≤ k ∧ k < T + hi then gI M 173 (S + (k - T)) else gI M x k := rfl
theorem mvR_0 {M : xM} {S T n : Nat} : M = mvR M S T n n := xM_ext (fun x k => by rw [mvR_g, if_neg (by omega)]) (fun _ _ => rfl) (fun _ _ => rfl)
theorem mvR_f {M : xM} {S T k p q : Nat} (h : S + k < T ∨ T + k ≤ S + k) (hp : p = T + k) (hq : q = S + k) : sI (mvR M S T 0 k) 173 p (gI (mvR M S T 0 k) 173 q) = mvR M S T 0 (k + 1) := by
  subst hp hq
  refine xM_ext (fun x i => ?_) (fun _ _ => rfl) (fun _ _ => rfl)
  rw [gIsI, mvR_g, mvR_g, mvR_g, if_neg (show ¬ (173 = 173 ∧ T + 0 ≤ S + k ∧ S + k < T + k) by omega)]
  by_cases c : x = 173 ∧ i = T + k
  · rw [if_pos c, if_pos (by omega), show S + (i - T) = S + k by omega]
  · rw [if_neg c]
    by_cases c2 : x = 173 ∧ T + 0 ≤ i ∧ i < T + k
    · rw [if_pos c2, if_pos (by omega)]
    · rw [if_neg c2, if_neg (by omega)]
theorem mvR_b {M : xM} {S T lo n p q : Nat} (h : S + lo < T + (lo + 1) ∨ T + n ≤ S + lo) (hn : lo < n) (hp : p = T + lo) (hq : q = S + lo) : sI (mvR M S T (lo + 1) n) 173 p (gI (mvR M S T (lo + 1) n) 173 q) = mvR M S T lo n := by
  subst hp hq
  refine xM_ext (fun x i => ?_) (fun _ _ => rfl) (fun _ _ => rfl)
  rw [gIsI, mvR_g, mvR_g, mvR_g, if_neg (show ¬ (173 = 173 ∧ T + (lo + 1) ≤ S + lo ∧ S + lo < T + n) by omega)]
  by_cases c : x = 173 ∧ i = T + lo
  · rw [if_pos c, if_pos (by omega), show S + (i - T) = S + lo by omega]
  · rw [if_neg c]
    by_cases c2 : x = 173 ∧ T + (lo + 1) ≤ i ∧ i < T + n
    · rw [if_pos c2, if_pos (by omega)]
    · rw [if_neg c2, if_neg (by omega)]
theorem ix3 (p a b : Nat) : (120 : Int32) * nI p + nI a + nI b = nI (120 * p + a + b) := by rw [ix120, nI_add]
theorem nI_s1 {n k : Nat} (h : k < n) (hn : n < 2147483648) : nI n - 1 - nI k = nI (n - 1 - k) := by
  have e1 : (1 : Int32).toInt = 1 := rfl
  apply Int32.toInt_inj.mp
  have a : (nI n - 1).toInt = (n : Int) - 1 := by rw [fb_subI] <;> rw [nI_ti (by omega)] <;> simp <;> omega
  rw [fb_subI (by rw [a, nI_ti (by omega)]; omega) (by rw [a, nI_ti (by omega)]; omega), a, nI_ti (by omega), nI_ti (by omega)]
  omega
theorem sub_le {n s : Int32} {z a : Nat} (hz : z ≤ 120) (ha : a < 2147483648) (hs : s = nI a) (h : n ≤ nI z - s) (hn : 0 ≤ n) : ∃ m, n = nI m ∧ a + m ≤ z := by
  obtain ⟨m, hm, rfl⟩ := nI_of (i_nlt hn)
  subst hs
  rw [Int32.le_iff_toInt_le, fb_subI (by rw [nI_ti (by omega), nI_ti ha]; omega) (by rw [nI_ti (by omega), nI_ti ha]; omega), nI_ti hm, nI_ti (by omega), nI_ti ha] at h
  exact ⟨m, rfl, by omega⟩
set_option maxRecDepth 4000 in
theorem e_m_copy {κ : xKK} {d : Nat} {M : xM} (hz : ∀ j, j < 8 → ∃ z, z ≤ 120 ∧ gI M 172 j = nI z) {i s k t n : Int32} (hd : 3 ≤ d) : xE2 κ mX12_copy d [.ref 166, .int i, .int s, .int k, .int t, .int n] M (fun v M' => (∃ a b, a < 8 ∧ b < 8 ∧ i = nI a ∧ k = nI b ∧ ((rcN M a b ∧ v = some (.int (-11)) ∧ M' = M) ∨ (¬ rcN M a b ∧ ¬ rcS M a b ∧ v = some (.int (-12)) ∧ M' = M) ∨ (¬ rcN M a b ∧ rcS M a b ∧ ¬ rcP M a b s t n ∧ v = some (.int (-13)) ∧ M' = M) ∨ (¬ rcN M a b ∧ rcS M a b ∧ rcP M a b s t n ∧ v = some (.int n) ∧ M' = mvR M (120 * a + s.toNatClampNeg) (120 * b + t.toNatClampNeg) 0 n.toNatClampNeg))) ∨ (¬ ((∃ a, a < 8 ∧ i = nI a) ∧ ∃ b, b < 8 ∧ k = nI b) ∧ v = some (.int (-1)) ∧ M' = M)) := by
  refine xE2_of ci_X12_copy cl_X12_copy cw_X12_copy rfl (L := [some (.ref 166), some (.int i), some (.int s), some (.int k), some (.int t), some (.int n), none, none]) rfl ?_
  refine xG_run 1 rfl (by repeat' (first | exact trivial | assumption | exact xob_b rfl | exact xal_b rfl | (apply And.intro) | decide)) ?_
  try dsimp only [xsto1, xsto2, xkill, xget, xset, gd_0, gd_s]
  try simp only [hja]
  try simp only [hjb]
  refine xG_c2 1 rfl (by repeat' (first | exact trivial | assumption | exact xob_b rfl | exact xal_b rfl | (apply And.intro) | decide)) rfl rfl (by decide) cw_X12_isShelf (d' := d - 1) (e_isShelf (by omega)) (by omega) ?_
  rintro v M' ⟨rfl, hM⟩
  subst M'
  dsimp only [Option.toList, List.cons_append, List.nil_append]
  refine xG_br rfl (fun h4 => ?_) (fun h4 => ?_)
  · have b4 := z0.mp h4
    refine xG_run 1 rfl (by repeat' (first | exact trivial | assumption | exact xob_b rfl | exact xal_b rfl | (apply And.intro) | decide)) ?_
    try dsimp only [xsto1, xsto2, xkill, xget, xset, gd_0, gd_s]
    try simp only [hja]
    try simp only [hjb]
    refine r2_i rfl rfl ?_
    first
      | exact Or.inr ⟨fun q => by first | exact no8 b4 q.1 | exact no8 b11 q.2, rfl, rfl⟩
      | exact Or.inl ⟨a, b, ha, hb, rfl, rfl, Or.inl ⟨by first | exact Or.inl h22 | exact Or.inr (Decidable.not_not.mp h31), rfl, rfl⟩⟩
      | exact Or.inl ⟨a, b, ha, hb, rfl, rfl, Or.inr (Or.inl ⟨fun q => q.elim h22 h31, fun q => by first | exact h44 q.1 | exact h54 q.2.1 | exact h69 q.2.2, rfl, rfl⟩)⟩
      | (have hS : rcS M a b := ⟨Decidable.not_not.mp h44, Decidable.not_not.mp h54, h69⟩
         have hN : ¬ rcN M a b := fun q => q.elim h22 h31
         exact Or.inl ⟨a, b, ha, hb, rfl, rfl, Or.inr (Or.inr (Or.inl ⟨hN, hS, fun q => by first | exact i_nlt q.1 h77 | exact i_nlt q.2.1 h81 | exact i_nlt q.2.2.1 h86 | exact i_nlt q.2.2.2.1 h99 | exact h113 q.2.2.2.2, rfl, rfl⟩))⟩)
  · have b4 := z1.mp h4
    obtain ⟨a, ha, rfl⟩ := inI_of (n := 8) (show _ ∧ _ < nI 8 from b4) (by omega)
    have hs170a : xar 170 0 182 (nI a) := xar_n rfl 8 rfl ha (by omega)
    have hs171a : xar 171 0 182 (nI a) := xar_n rfl 8 rfl ha (by omega)
    have hs172a : xar 172 0 182 (nI a) := xar_n rfl 8 rfl ha (by omega)
    have hs175a : xar 175 0 182 (nI a) := xar_n rfl 8 rfl ha (by omega)
    have hs176a : xar 176 0 182 (nI a) := xar_n rfl 8 rfl ha (by omega)
    have hja : (nI a).toNatClampNeg = a := nI_cl (by omega)
    refine xG_run 1 rfl (by repeat' (first | exact trivial | assumption | exact xob_b rfl | exact xal_b rfl | (apply And.intro) | decide)) ?_
    try dsimp only [xsto1, xsto2, xkill, xget, xset, gd_0, gd_s]
    try simp only [hja]
    try simp only [hjb]
    refine xG_c2 1 rfl (by repeat' (first | exact trivial | assumption | exact xob_b rfl | exact xal_b rfl | (apply And.intro) | decide)) rfl rfl (by decide) cw_X12_isShelf (d' := d - 1) (e_isShelf (by omega)) (by omega) ?_
    rintro v M' ⟨rfl, hM⟩
    subst M'
    dsimp only [Option.toList, List.cons_append, List.nil_append]
    refine xG_br rfl (fun h11 => ?_) (fun h11 => ?_)
    · have b11 := z1.mp h11
      obtain ⟨b, hb, rfl⟩ := inI_of (n := 8) (show _ ∧ _ < nI 8 from b11) (by omega)
      have hs170b : xar 170 0 182 (nI b) := xar_n rfl 8 rfl hb (by omega)
      have hs171b : xar 171 0 182 (nI b) := xar_n rfl 8 rfl hb (by omega)
      have hs172b : xar 172 0 182 (nI b) := xar_n rfl 8 rfl hb (by omega)
      have hs175b : xar 175 0 182 (nI b) := xar_n rfl 8 rfl hb (by omega)
      have hs176b : xar 176 0 182 (nI b) := xar_n rfl 8 rfl hb (by omega)
      have hjb : (nI b).toNatClampNeg = b := nI_cl (by omega)
      refine xG_run 4 rfl (by repeat' (first | exact trivial | assumption | exact xob_b rfl | exact xal_b rfl | (apply And.intro) | decide)) ?_
      try dsimp only [xsto1, xsto2, xkill, xget, xset, gd_0, gd_s]
      try simp only [hja]
      try simp only [hjb]
      refine xG_br rfl (fun h22 => ?_) (fun h22 => ?_)
      · try rw [hja] at h22
        refine xG_run 1 rfl (by repeat' (first | exact trivial | assumption | exact xob_b rfl | exact xal_b rfl | (apply And.intro) | decide)) ?_
        try dsimp only [xsto1, xsto2, xkill, xget, xset, gd_0, gd_s]
        try simp only [hja]
        try simp only [hjb]
        refine r2_i rfl rfl ?_
        first
          | exact Or.inr ⟨fun q => by first | exact no8 b4 q.1 | exact no8 b11 q.2, rfl, rfl⟩
          | exact Or.inl ⟨a, b, ha, hb, rfl, rfl, Or.inl ⟨by first | exact Or.inl h22 | exact Or.inr (Decidable.not_not.mp h31), rfl, rfl⟩⟩
          | exact Or.inl ⟨a, b, ha, hb, rfl, rfl, Or.inr (Or.inl ⟨fun q => q.elim h22 h31, fun q => by first | exact h44 q.1 | exact h54 q.2.1 | exact h69 q.2.2, rfl, rfl⟩)⟩
          | (have hS : rcS M a b := ⟨Decidable.not_not.mp h44, Decidable.not_not.mp h54, h69⟩
             have hN : ¬ rcN M a b := fun q => q.elim h22 h31
             exact Or.inl ⟨a, b, ha, hb, rfl, rfl, Or.inr (Or.inr (Or.inl ⟨hN, hS, fun q => by first | exact i_nlt q.1 h77 | exact i_nlt q.2.1 h81 | exact i_nlt q.2.2.1 h86 | exact i_nlt q.2.2.2.1 h99 | exact h113 q.2.2.2.2, rfl, rfl⟩))⟩)
      · try rw [hja] at h22
        refine xG_run 4 rfl (by repeat' (first | exact trivial | assumption | exact xob_b rfl | exact xal_b rfl | (apply And.intro) | decide)) ?_
        try dsimp only [xsto1, xsto2, xkill, xget, xset, gd_0, gd_s]
        try simp only [hja]
        try simp only [hjb]
        refine xG_br rfl (fun h31 => ?_) (fun h31 => ?_)
        · try rw [hjb] at h31
          refine xG_run 5 rfl (by repeat' (first | exact trivial | assumption | exact xob_b rfl | exact xal_b rfl | (apply And.intro) | decide)) ?_
          try dsimp only [xsto1, xsto2, xkill, xget, xset, gd_0, gd_s]
          try simp only [hja]
          try simp only [hjb]
          refine xG_br rfl (fun h44 => ?_) (fun h44 => ?_)
          · try rw [hja] at h44
            refine xG_run 1 rfl (by repeat' (first | exact trivial | assumption | exact xob_b rfl | exact xal_b rfl | (apply And.intro) | decide)) ?_
            try dsimp only [xsto1, xsto2, xkill, xget, xset, gd_0, gd_s]
            try simp only [hja]
            try simp only [hjb]
            refine r2_i rfl rfl ?_
            first
              | exact Or.inr ⟨fun q => by first | exact no8 b4 q.1 | exact no8 b11 q.2, rfl, rfl⟩
              | exact Or.inl ⟨a, b, ha, hb, rfl, rfl, Or.inl ⟨by first | exact Or.inl h22 | exact Or.inr (Decidable.not_not.mp h31), rfl, rfl⟩⟩
              | exact Or.inl ⟨a, b, ha, hb, rfl, rfl, Or.inr (Or.inl ⟨fun q => q.elim h22 h31, fun q => by first | exact h44 q.1 | exact h54 q.2.1 | exact h69 q.2.2, rfl, rfl⟩)⟩
              | (have hS : rcS M a b := ⟨Decidable.not_not.mp h44, Decidable.not_not.mp h54, h69⟩
                 have hN : ¬ rcN M a b := fun q => q.elim h22 h31
                 exact Or.inl ⟨a, b, ha, hb, rfl, rfl, Or.inr (Or.inr (Or.inl ⟨hN, hS, fun q => by first | exact i_nlt q.1 h77 | exact i_nlt q.2.1 h81 | exact i_nlt q.2.2.1 h86 | exact i_nlt q.2.2.2.1 h99 | exact h113 q.2.2.2.2, rfl, rfl⟩))⟩)
          · try rw [hja] at h44
            refine xG_run 5 rfl (by repeat' (first | exact trivial | assumption | exact xob_b rfl | exact xal_b rfl | (apply And.intro) | decide)) ?_
            try dsimp only [xsto1, xsto2, xkill, xget, xset, gd_0, gd_s]
            try simp only [hja]
            try simp only [hjb]
            refine xG_br rfl (fun h54 => ?_) (fun h54 => ?_)
            · try rw [hjb] at h54
              refine xG_run 1 rfl (by repeat' (first | exact trivial | assumption | exact xob_b rfl | exact xal_b rfl | (apply And.intro) | decide)) ?_
              try dsimp only [xsto1, xsto2, xkill, xget, xset, gd_0, gd_s]
              try simp only [hja]
              try simp only [hjb]
              refine r2_i rfl rfl ?_
              first
                | exact Or.inr ⟨fun q => by first | exact no8 b4 q.1 | exact no8 b11 q.2, rfl, rfl⟩
                | exact Or.inl ⟨a, b, ha, hb, rfl, rfl, Or.inl ⟨by first | exact Or.inl h22 | exact Or.inr (Decidable.not_not.mp h31), rfl, rfl⟩⟩
                | exact Or.inl ⟨a, b, ha, hb, rfl, rfl, Or.inr (Or.inl ⟨fun q => q.elim h22 h31, fun q => by first | exact h44 q.1 | exact h54 q.2.1 | exact h69 q.2.2, rfl, rfl⟩)⟩
                | (have hS : rcS M a b := ⟨Decidable.not_not.mp h44, Decidable.not_not.mp h54, h69⟩
                   have hN : ¬ rcN M a b := fun q => q.elim h22 h31
                   exact Or.inl ⟨a, b, ha, hb, rfl, rfl, Or.inr (Or.inr (Or.inl ⟨hN, hS, fun q => by first | exact i_nlt q.1 h77 | exact i_nlt q.2.1 h81 | exact i_nlt q.2.2.1 h86 | exact i_nlt q.2.2.2.1 h99 | exact h113 q.2.2.2.2, rfl, rfl⟩))⟩)
            · try rw [hjb] at h54
              refine xG_run 8 rfl (by repeat' (first | exact trivial | assumption | exact xob_b rfl | exact xal_b rfl | (apply And.intro) | decide)) ?_
              try dsimp only [xsto1, xsto2, xkill, xget, xset, gd_0, gd_s]
              try simp only [hja]
              try simp only [hjb]
              refine xG_br rfl (fun h69 => ?_) (fun h69 => ?_)
              · try rw [hja, hjb] at h69
                refine xG_run 1 rfl (by repeat' (first | exact trivial | assumption | exact xob_b rfl | exact xal_b rfl | (apply And.intro) | decide)) ?_
                try dsimp only [xsto1, xsto2, xkill, xget, xset, gd_0, gd_s]
                try simp only [hja]
                try simp only [hjb]
                refine xG_br rfl (fun h77 => ?_) (fun h77 => ?_)
                · refine xG_run 1 rfl (by repeat' (first | exact trivial | assumption | exact xob_b rfl | exact xal_b rfl | (apply And.intro) | decide)) ?_
                  try dsimp only [xsto1, xsto2, xkill, xget, xset, gd_0, gd_s]
                  try simp only [hja]
                  try simp only [hjb]
                  refine r2_i rfl rfl ?_
                  first
                    | exact Or.inr ⟨fun q => by first | exact no8 b4 q.1 | exact no8 b11 q.2, rfl, rfl⟩
                    | exact Or.inl ⟨a, b, ha, hb, rfl, rfl, Or.inl ⟨by first | exact Or.inl h22 | exact Or.inr (Decidable.not_not.mp h31), rfl, rfl⟩⟩
                    | exact Or.inl ⟨a, b, ha, hb, rfl, rfl, Or.inr (Or.inl ⟨fun q => q.elim h22 h31, fun q => by first | exact h44 q.1 | exact h54 q.2.1 | exact h69 q.2.2, rfl, rfl⟩)⟩
                    | (have hS : rcS M a b := ⟨Decidable.not_not.mp h44, Decidable.not_not.mp h54, h69⟩
                       have hN : ¬ rcN M a b := fun q => q.elim h22 h31
                       exact Or.inl ⟨a, b, ha, hb, rfl, rfl, Or.inr (Or.inr (Or.inl ⟨hN, hS, fun q => by first | exact i_nlt q.1 h77 | exact i_nlt q.2.1 h81 | exact i_nlt q.2.2.1 h86 | exact i_nlt q.2.2.2.1 h99 | exact h113 q.2.2.2.2, rfl, rfl⟩))⟩)
                · refine xG_run 1 rfl (by repeat' (first | exact trivial | assumption | exact xob_b rfl | exact xal_b rfl | (apply And.intro) | decide)) ?_
                  try dsimp only [xsto1, xsto2, xkill, xget, xset, gd_0, gd_s]
                  try simp only [hja]
                  try simp only [hjb]
                  refine xG_br rfl (fun h81 => ?_) (fun h81 => ?_)
                  · refine xG_run 1 rfl (by repeat' (first | exact trivial | assumption | exact xob_b rfl | exact xal_b rfl | (apply And.intro) | decide)) ?_
                    try dsimp only [xsto1, xsto2, xkill, xget, xset, gd_0, gd_s]
                    try simp only [hja]
                    try simp only [hjb]
                    refine r2_i rfl rfl ?_
                    first
                      | exact Or.inr ⟨fun q => by first | exact no8 b4 q.1 | exact no8 b11 q.2, rfl, rfl⟩
                      | exact Or.inl ⟨a, b, ha, hb, rfl, rfl, Or.inl ⟨by first | exact Or.inl h22 | exact Or.inr (Decidable.not_not.mp h31), rfl, rfl⟩⟩
                      | exact Or.inl ⟨a, b, ha, hb, rfl, rfl, Or.inr (Or.inl ⟨fun q => q.elim h22 h31, fun q => by first | exact h44 q.1 | exact h54 q.2.1 | exact h69 q.2.2, rfl, rfl⟩)⟩
                      | (have hS : rcS M a b := ⟨Decidable.not_not.mp h44, Decidable.not_not.mp h54, h69⟩
                         have hN : ¬ rcN M a b := fun q => q.elim h22 h31
                         exact Or.inl ⟨a, b, ha, hb, rfl, rfl, Or.inr (Or.inr (Or.inl ⟨hN, hS, fun q => by first | exact i_nlt q.1 h77 | exact i_nlt q.2.1 h81 | exact i_nlt q.2.2.1 h86 | exact i_nlt q.2.2.2.1 h99 | exact h113 q.2.2.2.2, rfl, rfl⟩))⟩)
                  · refine xG_run 1 rfl (by repeat' (first | exact trivial | assumption | exact xob_b rfl | exact xal_b rfl | (apply And.intro) | decide)) ?_
                    try dsimp only [xsto1, xsto2, xkill, xget, xset, gd_0, gd_s]
                    try simp only [hja]
                    try simp only [hjb]
                    refine xG_br rfl (fun h86 => ?_) (fun h86 => ?_)
                    · refine xG_run 1 rfl (by repeat' (first | exact trivial | assumption | exact xob_b rfl | exact xal_b rfl | (apply And.intro) | decide)) ?_
                      try dsimp only [xsto1, xsto2, xkill, xget, xset, gd_0, gd_s]
                      try simp only [hja]
                      try simp only [hjb]
                      refine r2_i rfl rfl ?_
                      first
                        | exact Or.inr ⟨fun q => by first | exact no8 b4 q.1 | exact no8 b11 q.2, rfl, rfl⟩
                        | exact Or.inl ⟨a, b, ha, hb, rfl, rfl, Or.inl ⟨by first | exact Or.inl h22 | exact Or.inr (Decidable.not_not.mp h31), rfl, rfl⟩⟩
                        | exact Or.inl ⟨a, b, ha, hb, rfl, rfl, Or.inr (Or.inl ⟨fun q => q.elim h22 h31, fun q => by first | exact h44 q.1 | exact h54 q.2.1 | exact h69 q.2.2, rfl, rfl⟩)⟩
                        | (have hS : rcS M a b := ⟨Decidable.not_not.mp h44, Decidable.not_not.mp h54, h69⟩
                           have hN : ¬ rcN M a b := fun q => q.elim h22 h31
                           exact Or.inl ⟨a, b, ha, hb, rfl, rfl, Or.inr (Or.inr (Or.inl ⟨hN, hS, fun q => by first | exact i_nlt q.1 h77 | exact i_nlt q.2.1 h81 | exact i_nlt q.2.2.1 h86 | exact i_nlt q.2.2.2.1 h99 | exact h113 q.2.2.2.2, rfl, rfl⟩))⟩)
                    · refine xG_run 7 rfl (by repeat' (first | exact trivial | assumption | exact xob_b rfl | exact xal_b rfl | (apply And.intro) | decide)) ?_
                      try dsimp only [xsto1, xsto2, xkill, xget, xset, gd_0, gd_s]
                      try simp only [hja]
                      try simp only [hjb]
                      refine xG_br rfl (fun h99 => ?_) (fun h99 => ?_)
                      · try rw [hja] at h99
                        refine xG_run 1 rfl (by repeat' (first | exact trivial | assumption | exact xob_b rfl | exact xal_b rfl | (apply And.intro) | decide)) ?_
                        try dsimp only [xsto1, xsto2, xkill, xget, xset, gd_0, gd_s]
                        try simp only [hja]
                        try simp only [hjb]
                        refine r2_i rfl rfl ?_
                        first
                          | exact Or.inr ⟨fun q => by first | exact no8 b4 q.1 | exact no8 b11 q.2, rfl, rfl⟩
                          | exact Or.inl ⟨a, b, ha, hb, rfl, rfl, Or.inl ⟨by first | exact Or.inl h22 | exact Or.inr (Decidable.not_not.mp h31), rfl, rfl⟩⟩
                          | exact Or.inl ⟨a, b, ha, hb, rfl, rfl, Or.inr (Or.inl ⟨fun q => q.elim h22 h31, fun q => by first | exact h44 q.1 | exact h54 q.2.1 | exact h69 q.2.2, rfl, rfl⟩)⟩
                          | (have hS : rcS M a b := ⟨Decidable.not_not.mp h44, Decidable.not_not.mp h54, h69⟩
                             have hN : ¬ rcN M a b := fun q => q.elim h22 h31
                             exact Or.inl ⟨a, b, ha, hb, rfl, rfl, Or.inr (Or.inr (Or.inl ⟨hN, hS, fun q => by first | exact i_nlt q.1 h77 | exact i_nlt q.2.1 h81 | exact i_nlt q.2.2.1 h86 | exact i_nlt q.2.2.2.1 h99 | exact h113 q.2.2.2.2, rfl, rfl⟩))⟩)
                      · try rw [hja] at h99
                        refine xG_run 7 rfl (by repeat' (first | exact trivial | assumption | exact xob_b rfl | exact xal_b rfl | (apply And.intro) | decide)) ?_
                        try dsimp only [xsto1, xsto2, xkill, xget, xset, gd_0, gd_s]
                        try simp only [hja]
                        try simp only [hjb]
                        refine xG_br rfl (fun h113 => ?_) (fun h113 => ?_)
                        · try rw [hjb] at h113
                          refine xG_run 2 rfl (by repeat' (first | exact trivial | assumption | exact xob_b rfl | exact xal_b rfl | (apply And.intro) | decide)) ?_
                          try dsimp only [xsto1, xsto2, xkill, xget, xset, gd_0, gd_s]
                          try simp only [hja]
                          try simp only [hjb]
                          have hS : rcS M a b := ⟨Decidable.not_not.mp h44, Decidable.not_not.mp h54, h69⟩
                          have hN : ¬ rcN M a b := fun q => q.elim h22 h31
                          have hP : rcP M a b s t n := ⟨Int32.not_lt.mp h77, Int32.not_lt.mp h81, Int32.not_lt.mp h86, Int32.not_lt.mp h99, h113⟩
                          obtain ⟨za, la, ea⟩ := hz a ha
                          obtain ⟨zb, lb, eb⟩ := hz b hb
                          obtain ⟨s, hs1, rfl⟩ := nI_of (i_nlt hP.2.1)
                          obtain ⟨t, ht1, rfl⟩ := nI_of (i_nlt hP.2.2.1)
                          obtain ⟨n, rfl, hn1⟩ := sub_le la hs1 rfl (ea ▸ hP.2.2.2.1) hP.1
                          obtain ⟨m, hm, hn2⟩ := sub_le lb ht1 rfl (eb ▸ hP.2.2.2.2) hP.1
                          have hm := (nI_eq (by omega) (by omega)).mp hm
                          subst hm
                          generalize hYS : (xRet mX12_copy false _ : xX → Prop) = YS
                          by_cases hst : s ≤ t
                          · have lp := xG_upP (κ := κ) (m := mX12_copy) (r := (d, 0, 0)) (YS := YS) (fun c X => ∃ x7 : Option Value, X = (122, [some (.ref 166), some (.int (nI a)), some (.int (nI s)), some (.int (nI b)), some (.int (nI t)), some (.int (nI n)), some (.int (nI c)), x7], [], mvR M (120 * a + s) (120 * b + t) (n - c) n, z2)) n ?_ ?_ 0 (by omega)
                            · exact lp _ ⟨none, by rw [show (0 : Int32) = nI 0 from rfl, Nat.sub_zero, ← mvR_0]⟩
                            · rintro c X hc ⟨x7, rfl⟩ ih
                              have e7 := nI_s1 hc (show n < 2147483648 by omega)
                              have en : n - c = (n - 1 - c) + 1 := by omega
                              have e1 : (120 : Int32) * nI b + nI t + (nI n - 1 - nI c) = nI (120 * b + t + (n - 1 - c)) := by rw [e7]; exact ix3 _ _ _
                              have e3 : (120 : Int32) * nI a + nI s + (nI n - 1 - nI c) = nI (120 * a + s + (n - 1 - c)) := by rw [e7]; exact ix3 _ _ _
                              have e2 : ((120 : Int32) * nI b + nI t + (nI n - 1 - nI c)).toNatClampNeg = 120 * b + t + (n - 1 - c) := by rw [e1]; exact nI_cl (by omega)
                              have e4 : ((120 : Int32) * nI a + nI s + (nI n - 1 - nI c)).toNatClampNeg = 120 * a + s + (n - 1 - c) := by rw [e3]; exact nI_cl (by omega)
                              have hse : xar 173 0 182 ((120 : Int32) * nI b + nI t + (nI n - 1 - nI c)) := by rw [e1]; exact el_ar (by omega)
                              have hsf : xar 173 0 182 ((120 : Int32) * nI a + nI s + (nI n - 1 - nI c)) := by rw [e3]; exact el_ar (by omega)
                              refine xG_run 2 rfl (by repeat' (first | exact trivial | assumption | exact xob_b rfl | exact xal_b rfl | (apply And.intro) | decide)) ?_
                              try dsimp only [xsto1, xsto2, xkill, xget, xset, gd_0, gd_s]
                              refine xG_brF rfl (nI_ge hc (by omega)) ?_
                              refine xG_run 2 rfl (by repeat' (first | exact trivial | assumption | exact xob_b rfl | exact xal_b rfl | (apply And.intro) | decide)) ?_
                              try dsimp only [xsto1, xsto2, xkill, xget, xset, gd_0, gd_s]
                              refine xG_brT rfl (nI_le hst (by omega)) ?_
                              refine xG_run 8 rfl (by repeat' (first | exact trivial | assumption | exact xob_b rfl | exact xal_b rfl | (apply And.intro) | decide)) ?_
                              try dsimp only [xsto1, xsto2, xkill, xget, xset, gd_0, gd_s]
                              refine xG_run 8 rfl (by repeat' (first | exact trivial | assumption | exact xob_b rfl | exact xal_b rfl | (apply And.intro) | decide)) ?_
                              try dsimp only [xsto1, xsto2, xkill, xget, xset, gd_0, gd_s]
                              refine xG_run 8 rfl (by repeat' (first | exact trivial | assumption | exact xob_b rfl | exact xal_b rfl | (apply And.intro) | decide)) ?_
                              try dsimp only [xsto1, xsto2, xkill, xget, xset, gd_0, gd_s]
                              refine xG_run 4 rfl (by repeat' (first | exact trivial | assumption | exact xob_b rfl | exact xal_b rfl | (apply And.intro) | decide)) ?_
                              try dsimp only [xsto1, xsto2, xkill, xget, xset, gd_0, gd_s]
                              rw [e2, e4, en, mvR_b (p := 120 * b + t + (n - 1 - c)) (q := 120 * a + s + (n - 1 - c)) (by omega) (by omega) rfl rfl, nI_1, show n - 1 - c = n - (c + 1) by omega]
                              exact ih _ ⟨_, rfl⟩
                            · rintro X ⟨x7, rfl⟩
                              refine xG_run 2 rfl (by repeat' (first | exact trivial | assumption | exact xob_b rfl | exact xal_b rfl | (apply And.intro) | decide)) ?_
                              try dsimp only [xsto1, xsto2, xkill, xget, xset, gd_0, gd_s]
                              refine xG_brT rfl (Int32.le_refl _) ?_
                              refine xG_run 1 rfl (by repeat' (first | exact trivial | assumption | exact xob_b rfl | exact xal_b rfl | (apply And.intro) | decide)) ?_
                              try dsimp only [xsto1, xsto2, xkill, xget, xset, gd_0, gd_s]
                              rw [← hYS]
                              refine r2_i rfl rfl ?_
                              exact Or.inl ⟨a, b, ha, hb, rfl, rfl, Or.inr (Or.inr (Or.inr ⟨hN, hS, hP, rfl, by rw [nI_cl (show s < 2147483648 by omega), nI_cl (show t < 2147483648 by omega), nI_cl (show n < 2147483648 by omega), Nat.sub_self]⟩))⟩
                          · have lp := xG_upP (κ := κ) (m := mX12_copy) (r := (d, 0, 0)) (YS := YS) (fun c X => ∃ x7 : Option Value, X = (122, [some (.ref 166), some (.int (nI a)), some (.int (nI s)), some (.int (nI b)), some (.int (nI t)), some (.int (nI n)), some (.int (nI c)), x7], [], mvR M (120 * a + s) (120 * b + t) 0 c, z2)) n ?_ ?_ 0 (by omega)
                            · exact lp _ ⟨none, by rw [show (0 : Int32) = nI 0 from rfl, ← mvR_0]⟩
                            · rintro c X hc ⟨x7, rfl⟩ ih
                              have e1 : (120 : Int32) * nI b + nI t + nI c = nI (120 * b + t + c) := by exact ix3 _ _ _
                              have e3 : (120 : Int32) * nI a + nI s + nI c = nI (120 * a + s + c) := by exact ix3 _ _ _
                              have e2 : ((120 : Int32) * nI b + nI t + nI c).toNatClampNeg = 120 * b + t + c := by rw [e1]; exact nI_cl (by omega)
                              have e4 : ((120 : Int32) * nI a + nI s + nI c).toNatClampNeg = 120 * a + s + c := by rw [e3]; exact nI_cl (by omega)
                              have hse : xar 173 0 182 ((120 : Int32) * nI b + nI t + nI c) := by rw [e1]; exact el_ar (by omega)
                              have hsf : xar 173 0 182 ((120 : Int32) * nI a + nI s + nI c) := by rw [e3]; exact el_ar (by omega)
                              refine xG_run 2 rfl (by repeat' (first | exact trivial | assumption | exact xob_b rfl | exact xal_b rfl | (apply And.intro) | decide)) ?_
                              try dsimp only [xsto1, xsto2, xkill, xget, xset, gd_0, gd_s]
                              refine xG_brF rfl (nI_ge hc (by omega)) ?_
                              refine xG_run 2 rfl (by repeat' (first | exact trivial | assumption | exact xob_b rfl | exact xal_b rfl | (apply And.intro) | decide)) ?_
                              try dsimp only [xsto1, xsto2, xkill, xget, xset, gd_0, gd_s]
                              refine xG_brF rfl (fun q => hst ((nI_leI (by omega) (by omega)).mp q)) ?_
                              refine xG_run 8 rfl (by repeat' (first | exact trivial | assumption | exact xob_b rfl | exact xal_b rfl | (apply And.intro) | decide)) ?_
                              try dsimp only [xsto1, xsto2, xkill, xget, xset, gd_0, gd_s]
                              refine xG_run 8 rfl (by repeat' (first | exact trivial | assumption | exact xob_b rfl | exact xal_b rfl | (apply And.intro) | decide)) ?_
                              try dsimp only [xsto1, xsto2, xkill, xget, xset, gd_0, gd_s]
                              refine xG_run 8 rfl (by repeat' (first | exact trivial | assumption | exact xob_b rfl | exact xal_b rfl | (apply And.intro) | decide)) ?_
                              try dsimp only [xsto1, xsto2, xkill, xget, xset, gd_0, gd_s]
                              refine xG_run 1 rfl (by repeat' (first | exact trivial | assumption | exact xob_b rfl | exact xal_b rfl | (apply And.intro) | decide)) ?_
                              try dsimp only [xsto1, xsto2, xkill, xget, xset, gd_0, gd_s]
                              rw [e2, e4, mvR_f (p := 120 * b + t + c) (q := 120 * a + s + c) (by omega) rfl rfl, nI_1]
                              exact ih _ ⟨_, rfl⟩
                            · rintro X ⟨x7, rfl⟩
                              refine xG_run 2 rfl (by repeat' (first | exact trivial | assumption | exact xob_b rfl | exact xal_b rfl | (apply And.intro) | decide)) ?_
                              try dsimp only [xsto1, xsto2, xkill, xget, xset, gd_0, gd_s]
                              refine xG_brT rfl (Int32.le_refl _) ?_
                              refine xG_run 1 rfl (by repeat' (first | exact trivial | assumption | exact xob_b rfl | exact xal_b rfl | (apply And.intro) | decide)) ?_
                              try dsimp only [xsto1, xsto2, xkill, xget, xset, gd_0, gd_s]
                              rw [← hYS]
                              refine r2_i rfl rfl ?_
                              exact Or.inl ⟨a, b, ha, hb, rfl, rfl, Or.inr (Or.inr (Or.inr ⟨hN, hS, hP, rfl, by rw [nI_cl (show s < 2147483648 by omega), nI_cl (show t < 2147483648 by omega), nI_cl (show n < 2147483648 by omega)]⟩))⟩
                        · try rw [hjb] at h113
                          refine xG_run 1 rfl (by repeat' (first | exact trivial | assumption | exact xob_b rfl | exact xal_b rfl | (apply And.intro) | decide)) ?_
                          try dsimp only [xsto1, xsto2, xkill, xget, xset, gd_0, gd_s]
                          try simp only [hja]
                          try simp only [hjb]
                          refine r2_i rfl rfl ?_
                          first
                            | exact Or.inr ⟨fun q => by first | exact no8 b4 q.1 | exact no8 b11 q.2, rfl, rfl⟩
                            | exact Or.inl ⟨a, b, ha, hb, rfl, rfl, Or.inl ⟨by first | exact Or.inl h22 | exact Or.inr (Decidable.not_not.mp h31), rfl, rfl⟩⟩
                            | exact Or.inl ⟨a, b, ha, hb, rfl, rfl, Or.inr (Or.inl ⟨fun q => q.elim h22 h31, fun q => by first | exact h44 q.1 | exact h54 q.2.1 | exact h69 q.2.2, rfl, rfl⟩)⟩
                            | (have hS : rcS M a b := ⟨Decidable.not_not.mp h44, Decidable.not_not.mp h54, h69⟩
                               have hN : ¬ rcN M a b := fun q => q.elim h22 h31
                               exact Or.inl ⟨a, b, ha, hb, rfl, rfl, Or.inr (Or.inr (Or.inl ⟨hN, hS, fun q => by first | exact i_nlt q.1 h77 | exact i_nlt q.2.1 h81 | exact i_nlt q.2.2.1 h86 | exact i_nlt q.2.2.2.1 h99 | exact h113 q.2.2.2.2, rfl, rfl⟩))⟩)
              · try rw [hja, hjb] at h69
                refine xG_run 1 rfl (by repeat' (first | exact trivial | assumption | exact xob_b rfl | exact xal_b rfl | (apply And.intro) | decide)) ?_
                try dsimp only [xsto1, xsto2, xkill, xget, xset, gd_0, gd_s]
                try simp only [hja]
                try simp only [hjb]
                refine r2_i rfl rfl ?_
                first
                  | exact Or.inr ⟨fun q => by first | exact no8 b4 q.1 | exact no8 b11 q.2, rfl, rfl⟩
                  | exact Or.inl ⟨a, b, ha, hb, rfl, rfl, Or.inl ⟨by first | exact Or.inl h22 | exact Or.inr (Decidable.not_not.mp h31), rfl, rfl⟩⟩
                  | exact Or.inl ⟨a, b, ha, hb, rfl, rfl, Or.inr (Or.inl ⟨fun q => q.elim h22 h31, fun q => by first | exact h44 q.1 | exact h54 q.2.1 | exact h69 q.2.2, rfl, rfl⟩)⟩
                  | (have hS : rcS M a b := ⟨Decidable.not_not.mp h44, Decidable.not_not.mp h54, h69⟩
                     have hN : ¬ rcN M a b := fun q => q.elim h22 h31
                     exact Or.inl ⟨a, b, ha, hb, rfl, rfl, Or.inr (Or.inr (Or.inl ⟨hN, hS, fun q => by first | exact i_nlt q.1 h77 | exact i_nlt q.2.1 h81 | exact i_nlt q.2.2.1 h86 | exact i_nlt q.2.2.2.1 h99 | exact h113 q.2.2.2.2, rfl, rfl⟩))⟩)
        · try rw [hjb] at h31
          refine xG_run 1 rfl (by repeat' (first | exact trivial | assumption | exact xob_b rfl | exact xal_b rfl | (apply And.intro) | decide)) ?_
          try dsimp only [xsto1, xsto2, xkill, xget, xset, gd_0, gd_s]
          try simp only [hja]
          try simp only [hjb]
          refine r2_i rfl rfl ?_
          first
            | exact Or.inr ⟨fun q => by first | exact no8 b4 q.1 | exact no8 b11 q.2, rfl, rfl⟩
            | exact Or.inl ⟨a, b, ha, hb, rfl, rfl, Or.inl ⟨by first | exact Or.inl h22 | exact Or.inr (Decidable.not_not.mp h31), rfl, rfl⟩⟩
            | exact Or.inl ⟨a, b, ha, hb, rfl, rfl, Or.inr (Or.inl ⟨fun q => q.elim h22 h31, fun q => by first | exact h44 q.1 | exact h54 q.2.1 | exact h69 q.2.2, rfl, rfl⟩)⟩
            | (have hS : rcS M a b := ⟨Decidable.not_not.mp h44, Decidable.not_not.mp h54, h69⟩
               have hN : ¬ rcN M a b := fun q => q.elim h22 h31
               exact Or.inl ⟨a, b, ha, hb, rfl, rfl, Or.inr (Or.inr (Or.inl ⟨hN, hS, fun q => by first | exact i_nlt q.1 h77 | exact i_nlt q.2.1 h81 | exact i_nlt q.2.2.1 h86 | exact i_nlt q.2.2.2.1 h99 | exact h113 q.2.2.2.2, rfl, rfl⟩))⟩)
    · have b11 := z0.mp (Decidable.not_not.mp h11)
      refine xG_run 1 rfl (by repeat' (first | exact trivial | assumption | exact xob_b rfl | exact xal_b rfl | (apply And.intro) | decide)) ?_
      try dsimp only [xsto1, xsto2, xkill, xget, xset, gd_0, gd_s]
      try simp only [hja]
      try simp only [hjb]
      refine r2_i rfl rfl ?_
      first
        | exact Or.inr ⟨fun q => by first | exact no8 b4 q.1 | exact no8 b11 q.2, rfl, rfl⟩
        | exact Or.inl ⟨a, b, ha, hb, rfl, rfl, Or.inl ⟨by first | exact Or.inl h22 | exact Or.inr (Decidable.not_not.mp h31), rfl, rfl⟩⟩
        | exact Or.inl ⟨a, b, ha, hb, rfl, rfl, Or.inr (Or.inl ⟨fun q => q.elim h22 h31, fun q => by first | exact h44 q.1 | exact h54 q.2.1 | exact h69 q.2.2, rfl, rfl⟩)⟩
        | (have hS : rcS M a b := ⟨Decidable.not_not.mp h44, Decidable.not_not.mp h54, h69⟩
           have hN : ¬ rcN M a b := fun q => q.elim h22 h31
           exact Or.inl ⟨a, b, ha, hb, rfl, rfl, Or.inr (Or.inr (Or.inl ⟨hN, hS, fun q => by first | exact i_nlt q.1 h77 | exact i_nlt q.2.1 h81 | exact i_nlt q.2.2.1 h86 | exact i_nlt q.2.2.2.1 h99 | exact h113 q.2.2.2.2, rfl, rfl⟩))⟩)
set_option maxRecDepth 4000 in
theorem e_m_offer {κ : xKK} {d : Nat} {M : xM} {nr : Nat} (hr : gI M 167 1644 = nI nr) (hr2 : nr ≤ 12) {no : Nat} (ho : gI M 167 1647 = nI no) (ho2 : no ≤ 8) {x y z : Int32} (hd : 2 ≤ d) : xE2 κ mX12_offer d [.ref 166, .int x, .int y, .int z] M (fun v M' => (∃ q, q < nr ∧ x = nI q ∧ (1 ≤ y ∧ y ≤ 99 ∧ 1 ≤ z ∧ z ≤ 999) ∧ ((no < 8 ∧ v = some (.int (nI (no + 1))) ∧ M' = sI (sI (sI (sI M 167 (155 + 3 * no) x) 167 (155 + 3 * no + 1) y) 167 (155 + 3 * no + 2) z) 167 1647 (nI (no + 1))) ∨ (no = 8 ∧ v = some (.int (-2)) ∧ M' = M))) ∨ (¬ ((∃ q, q < nr ∧ x = nI q) ∧ 1 ≤ y ∧ y ≤ 99 ∧ 1 ≤ z ∧ z ≤ 999) ∧ v = some (.int (-1)) ∧ M' = M)) := by
  refine xE2_of ci_X12_offer cl_X12_offer cw_X12_offer rfl (L := [some (.ref 166), some (.int x), some (.int y), some (.int z), none]) rfl ?_
  have hs0 : xar 167 0 182 1647 := xar_n (j := 1647) rfl 1651 rfl (by omega) (by omega)
  have hcl : (1647 : Int32).toNatClampNeg = 1647 := rfl
  have e1 : (155 : Int32) + 3 * nI no = nI (155 + 3 * no) := by rw [show (155 : Int32) = nI 155 from rfl, show (3 : Int32) = nI 3 from rfl, pk_mul, nI_add]
  have e3 : nI (155 + 3 * no) + 2 = nI (155 + 3 * no + 2) := nI_add _ 2
  have e2 : nI (155 + 3 * no) + 1 = nI (155 + 3 * no + 1) := nI_add _ 1
  have c1 : (nI (155 + 3 * no)).toNatClampNeg = 155 + 3 * no := nI_cl (by omega)
  have c2 : (nI (155 + 3 * no) + 1).toNatClampNeg = 155 + 3 * no + 1 := by rw [e2]; exact nI_cl (by omega)
  have c3 : (nI (155 + 3 * no) + 2).toNatClampNeg = 155 + 3 * no + 2 := by rw [e3]; exact nI_cl (by omega)
  have hs1 : no < 8 → xar 167 0 182 (nI (155 + 3 * no)) := fun h => xar_n rfl 1651 rfl (by omega) (by omega)
  have hs2 : no < 8 → xar 167 0 182 (nI (155 + 3 * no) + 1) := fun h => by rw [e2]; exact xar_n rfl 1651 rfl (by omega) (by omega)
  have hs3 : no < 8 → xar 167 0 182 (nI (155 + 3 * no) + 2) := fun h => by rw [e3]; exact xar_n rfl 1651 rfl (by omega) (by omega)
  have g1 : no < 8 → ∀ u v w, gI (sI (sI (sI M 167 (155 + 3 * no) u) 167 (155 + 3 * no + 1) v) 167 (155 + 3 * no + 2) w) 167 1647 = nI no := fun h u v w => by
    simp (disch := omega) only [g_ne]
    exact ho
  refine xG_run 2 rfl (by repeat' (first | exact trivial | assumption | exact xob_b rfl | exact xal_b rfl | (apply And.intro) | decide)) ?_
  try dsimp only [xsto1, xsto2, xkill, xget, xset, gd_0, gd_s]
  try rw [hcl]
  try rw [ho]
  try rw [e1]
  try rw [c1]
  try rw [c2]
  try rw [c3]
  refine xG_c2 1 rfl (by repeat' (first | exact trivial | assumption | exact xob_b rfl | exact xal_b rfl | (apply And.intro) | decide)) rfl rfl (by decide) cw_X12_isRope (d' := d - 1) (e_isRope hr hr2 (by omega)) (by omega) ?_
  rintro v M' ⟨rfl, hM⟩
  subst M'
  dsimp only [Option.toList, List.cons_append, List.nil_append]
  refine xG_br rfl (fun h5 => ?_) (fun h5 => ?_)
  · have b5 := z0.mp h5
    refine xG_run 1 rfl (by repeat' (first | exact trivial | assumption | exact xob_b rfl | exact xal_b rfl | (apply And.intro) | decide)) ?_
    try dsimp only [xsto1, xsto2, xkill, xget, xset, gd_0, gd_s]
    try rw [hcl]
    try rw [ho]
    try rw [e1]
    try rw [c1]
    try rw [c2]
    try rw [c3]
    refine r2_i rfl rfl ?_
    (try rw [hcl])
    (try rw [g1])
    (try rw [nI_1])
    (try rw [gI_self])
    first
      | (refine Or.inr ⟨?_, rfl, rfl⟩
         rintro ⟨⟨q9, a1, a2⟩, a3, a4, a5, a6⟩
         first
           | exact b5 (by rw [a2]; exact inI a1 (by omega))
           | exact b17 ⟨a3, a4⟩
           | exact b29 ⟨a5, a6⟩)
      | exact Or.inl ⟨q, hq, rfl, ⟨b17.1, b17.2, b29.1, b29.2⟩, Or.inr ⟨hlt, rfl, rfl⟩⟩
      | exact Or.inl ⟨q, hq, rfl, ⟨b17.1, b17.2, b29.1, b29.2⟩, Or.inl ⟨hlt, rfl, rfl⟩⟩
  · have b5 := z1.mp h5
    obtain ⟨q, hq, rfl⟩ := inI_of b5 (by omega)
    refine xG_run 3 rfl (by repeat' (first | exact trivial | assumption | exact xob_b rfl | exact xal_b rfl | (apply And.intro) | decide)) ?_
    try dsimp only [xsto1, xsto2, xkill, xget, xset, gd_0, gd_s]
    try rw [hcl]
    try rw [ho]
    try rw [e1]
    try rw [c1]
    try rw [c2]
    try rw [c3]
    refine xG_run 1 rfl (by repeat' (first | exact trivial | assumption | exact xob_b rfl | exact xal_b rfl | (apply And.intro) | decide)) ?_
    try dsimp only [xsto1, xsto2, xkill, xget, xset, gd_0, gd_s]
    try rw [hcl]
    try rw [ho]
    try rw [e1]
    try rw [c1]
    try rw [c2]
    try rw [c3]
    refine xG_c2 3 rfl (by repeat' (first | exact trivial | assumption | exact xob_b rfl | exact xal_b rfl | (apply And.intro) | decide)) rfl rfl (by decide) cw_X12_isIn (d' := d - 1) (e_isIn (c := 1 ≤ y ∧ y ≤ 99) (in32 rfl rfl)) (by omega) ?_
    rintro v M' ⟨rfl, hM⟩
    subst M'
    dsimp only [Option.toList, List.cons_append, List.nil_append]
    refine xG_br rfl (fun h17 => ?_) (fun h17 => ?_)
    · have b17 := z0.mp h17
      refine xG_run 1 rfl (by repeat' (first | exact trivial | assumption | exact xob_b rfl | exact xal_b rfl | (apply And.intro) | decide)) ?_
      try dsimp only [xsto1, xsto2, xkill, xget, xset, gd_0, gd_s]
      try rw [hcl]
      try rw [ho]
      try rw [e1]
      try rw [c1]
      try rw [c2]
      try rw [c3]
      refine r2_i rfl rfl ?_
      (try rw [hcl])
      (try rw [g1])
      (try rw [nI_1])
      (try rw [gI_self])
      first
        | (refine Or.inr ⟨?_, rfl, rfl⟩
           rintro ⟨⟨q9, a1, a2⟩, a3, a4, a5, a6⟩
           first
             | exact b5 (by rw [a2]; exact inI a1 (by omega))
             | exact b17 ⟨a3, a4⟩
             | exact b29 ⟨a5, a6⟩)
        | exact Or.inl ⟨q, hq, rfl, ⟨b17.1, b17.2, b29.1, b29.2⟩, Or.inr ⟨hlt, rfl, rfl⟩⟩
        | exact Or.inl ⟨q, hq, rfl, ⟨b17.1, b17.2, b29.1, b29.2⟩, Or.inl ⟨hlt, rfl, rfl⟩⟩
    · have b17 := z1.mp h17
      refine xG_run 3 rfl (by repeat' (first | exact trivial | assumption | exact xob_b rfl | exact xal_b rfl | (apply And.intro) | decide)) ?_
      try dsimp only [xsto1, xsto2, xkill, xget, xset, gd_0, gd_s]
      try rw [hcl]
      try rw [ho]
      try rw [e1]
      try rw [c1]
      try rw [c2]
      try rw [c3]
      refine xG_run 1 rfl (by repeat' (first | exact trivial | assumption | exact xob_b rfl | exact xal_b rfl | (apply And.intro) | decide)) ?_
      try dsimp only [xsto1, xsto2, xkill, xget, xset, gd_0, gd_s]
      try rw [hcl]
      try rw [ho]
      try rw [e1]
      try rw [c1]
      try rw [c2]
      try rw [c3]
      refine xG_c2 3 rfl (by repeat' (first | exact trivial | assumption | exact xob_b rfl | exact xal_b rfl | (apply And.intro) | decide)) rfl rfl (by decide) cw_X12_isIn (d' := d - 1) (e_isIn (c := 1 ≤ z ∧ z ≤ 999) (in32 rfl rfl)) (by omega) ?_
      rintro v M' ⟨rfl, hM⟩
      subst M'
      dsimp only [Option.toList, List.cons_append, List.nil_append]
      refine xG_br rfl (fun h29 => ?_) (fun h29 => ?_)
      · have b29 := z1.mp h29
        refine xG_run 3 rfl (by repeat' (first | exact trivial | assumption | exact xob_b rfl | exact xal_b rfl | (apply And.intro) | decide)) ?_
        try dsimp only [xsto1, xsto2, xkill, xget, xset, gd_0, gd_s]
        try rw [hcl]
        try rw [ho]
        try rw [e1]
        try rw [c1]
        try rw [c2]
        try rw [c3]
        refine xG_run 2 rfl (by repeat' (first | exact trivial | assumption | exact xob_b rfl | exact xal_b rfl | (apply And.intro) | decide)) ?_
        try dsimp only [xsto1, xsto2, xkill, xget, xset, gd_0, gd_s]
        try rw [hcl]
        try rw [ho]
        try rw [e1]
        try rw [c1]
        try rw [c2]
        try rw [c3]
        refine xG_br rfl (fun h44 => ?_) (fun h44 => ?_)
        · have hlt : no < 8 := by
            have : ¬ no = 8 := fun q => h44 (by rw [q]; rfl)
            omega
          have hs1 := hs1 hlt
          have hs2 := hs2 hlt
          have hs3 := hs3 hlt
          have g1 := g1 hlt
          refine xG_run 3 rfl (by repeat' (first | exact trivial | assumption | exact xob_b rfl | exact xal_b rfl | (apply And.intro) | decide)) ?_
          try dsimp only [xsto1, xsto2, xkill, xget, xset, gd_0, gd_s]
          try rw [hcl]
          try rw [ho]
          try rw [e1]
          try rw [c1]
          try rw [c2]
          try rw [c3]
          refine xG_run 3 rfl (by repeat' (first | exact trivial | assumption | exact xob_b rfl | exact xal_b rfl | (apply And.intro) | decide)) ?_
          try dsimp only [xsto1, xsto2, xkill, xget, xset, gd_0, gd_s]
          try rw [hcl]
          try rw [ho]
          try rw [e1]
          try rw [c1]
          try rw [c2]
          try rw [c3]
          refine xG_run 3 rfl (by repeat' (first | exact trivial | assumption | exact xob_b rfl | exact xal_b rfl | (apply And.intro) | decide)) ?_
          try dsimp only [xsto1, xsto2, xkill, xget, xset, gd_0, gd_s]
          try rw [hcl]
          try rw [ho]
          try rw [e1]
          try rw [c1]
          try rw [c2]
          try rw [c3]
          refine xG_run 3 rfl (by repeat' (first | exact trivial | assumption | exact xob_b rfl | exact xal_b rfl | (apply And.intro) | decide)) ?_
          try dsimp only [xsto1, xsto2, xkill, xget, xset, gd_0, gd_s]
          try rw [hcl]
          try rw [ho]
          try rw [e1]
          try rw [c1]
          try rw [c2]
          try rw [c3]
          refine xG_run 3 rfl (by repeat' (first | exact trivial | assumption | exact xob_b rfl | exact xal_b rfl | (apply And.intro) | decide)) ?_
          try dsimp only [xsto1, xsto2, xkill, xget, xset, gd_0, gd_s]
          try rw [hcl]
          try rw [ho]
          try rw [e1]
          try rw [c1]
          try rw [c2]
          try rw [c3]
          refine xG_run 3 rfl (by repeat' (first | exact trivial | assumption | exact xob_b rfl | exact xal_b rfl | (apply And.intro) | decide)) ?_
          try dsimp only [xsto1, xsto2, xkill, xget, xset, gd_0, gd_s]
          try rw [hcl]
          try rw [ho]
          try rw [e1]
          try rw [c1]
          try rw [c2]
          try rw [c3]
          refine xG_run 3 rfl (by repeat' (first | exact trivial | assumption | exact xob_b rfl | exact xal_b rfl | (apply And.intro) | decide)) ?_
          try dsimp only [xsto1, xsto2, xkill, xget, xset, gd_0, gd_s]
          try rw [hcl]
          try rw [ho]
          try rw [e1]
          try rw [c1]
          try rw [c2]
          try rw [c3]
          refine xG_run 3 rfl (by repeat' (first | exact trivial | assumption | exact xob_b rfl | exact xal_b rfl | (apply And.intro) | decide)) ?_
          try dsimp only [xsto1, xsto2, xkill, xget, xset, gd_0, gd_s]
          try rw [hcl]
          try rw [ho]
          try rw [e1]
          try rw [c1]
          try rw [c2]
          try rw [c3]
          refine xG_run 3 rfl (by repeat' (first | exact trivial | assumption | exact xob_b rfl | exact xal_b rfl | (apply And.intro) | decide)) ?_
          try dsimp only [xsto1, xsto2, xkill, xget, xset, gd_0, gd_s]
          try rw [hcl]
          try rw [ho]
          try rw [e1]
          try rw [c1]
          try rw [c2]
          try rw [c3]
          refine xG_run 3 rfl (by repeat' (first | exact trivial | assumption | exact xob_b rfl | exact xal_b rfl | (apply And.intro) | decide)) ?_
          try dsimp only [xsto1, xsto2, xkill, xget, xset, gd_0, gd_s]
          try rw [hcl]
          try rw [ho]
          try rw [e1]
          try rw [c1]
          try rw [c2]
          try rw [c3]
          refine xG_run 3 rfl (by repeat' (first | exact trivial | assumption | exact xob_b rfl | exact xal_b rfl | (apply And.intro) | decide)) ?_
          try dsimp only [xsto1, xsto2, xkill, xget, xset, gd_0, gd_s]
          try rw [hcl]
          try rw [ho]
          try rw [e1]
          try rw [c1]
          try rw [c2]
          try rw [c3]
          refine xG_run 3 rfl (by repeat' (first | exact trivial | assumption | exact xob_b rfl | exact xal_b rfl | (apply And.intro) | decide)) ?_
          try dsimp only [xsto1, xsto2, xkill, xget, xset, gd_0, gd_s]
          try rw [hcl]
          try rw [ho]
          try rw [e1]
          try rw [c1]
          try rw [c2]
          try rw [c3]
          refine xG_run 3 rfl (by repeat' (first | exact trivial | assumption | exact xob_b rfl | exact xal_b rfl | (apply And.intro) | decide)) ?_
          try dsimp only [xsto1, xsto2, xkill, xget, xset, gd_0, gd_s]
          try rw [hcl]
          try rw [ho]
          try rw [e1]
          try rw [c1]
          try rw [c2]
          try rw [c3]
          refine xG_run 1 rfl (by repeat' (first | exact trivial | assumption | exact xob_b rfl | exact xal_b rfl | (apply And.intro) | decide)) ?_
          try dsimp only [xsto1, xsto2, xkill, xget, xset, gd_0, gd_s]
          try rw [hcl]
          try rw [ho]
          try rw [e1]
          try rw [c1]
          try rw [c2]
          try rw [c3]
          refine r2_i rfl rfl ?_
          (try rw [hcl])
          (try rw [g1])
          (try rw [nI_1])
          (try rw [gI_self])
          first
            | (refine Or.inr ⟨?_, rfl, rfl⟩
               rintro ⟨⟨q9, a1, a2⟩, a3, a4, a5, a6⟩
               first
                 | exact b5 (by rw [a2]; exact inI a1 (by omega))
                 | exact b17 ⟨a3, a4⟩
                 | exact b29 ⟨a5, a6⟩)
            | exact Or.inl ⟨q, hq, rfl, ⟨b17.1, b17.2, b29.1, b29.2⟩, Or.inr ⟨hlt, rfl, rfl⟩⟩
            | exact Or.inl ⟨q, hq, rfl, ⟨b17.1, b17.2, b29.1, b29.2⟩, Or.inl ⟨hlt, rfl, rfl⟩⟩
        · have hlt : no = 8 := (nI_eq (a := no) (b := 8) (by omega) (by omega)).mp (Decidable.not_not.mp h44)
          refine xG_run 1 rfl (by repeat' (first | exact trivial | assumption | exact xob_b rfl | exact xal_b rfl | (apply And.intro) | decide)) ?_
          try dsimp only [xsto1, xsto2, xkill, xget, xset, gd_0, gd_s]
          try rw [hcl]
          try rw [ho]
          try rw [e1]
          try rw [c1]
          try rw [c2]
          try rw [c3]
          refine r2_i rfl rfl ?_
          (try rw [hcl])
          (try rw [g1])
          (try rw [nI_1])
          (try rw [gI_self])
          first
            | (refine Or.inr ⟨?_, rfl, rfl⟩
               rintro ⟨⟨q9, a1, a2⟩, a3, a4, a5, a6⟩
               first
                 | exact b5 (by rw [a2]; exact inI a1 (by omega))
                 | exact b17 ⟨a3, a4⟩
                 | exact b29 ⟨a5, a6⟩)
            | exact Or.inl ⟨q, hq, rfl, ⟨b17.1, b17.2, b29.1, b29.2⟩, Or.inr ⟨hlt, rfl, rfl⟩⟩
            | exact Or.inl ⟨q, hq, rfl, ⟨b17.1, b17.2, b29.1, b29.2⟩, Or.inl ⟨hlt, rfl, rfl⟩⟩
      · have b29 := z0.mp (Decidable.not_not.mp h29)
        refine xG_run 1 rfl (by repeat' (first | exact trivial | assumption | exact xob_b rfl | exact xal_b rfl | (apply And.intro) | decide)) ?_
        try dsimp only [xsto1, xsto2, xkill, xget, xset, gd_0, gd_s]
        try rw [hcl]
        try rw [ho]
        try rw [e1]
        try rw [c1]
        try rw [c2]
        try rw [c3]
        refine r2_i rfl rfl ?_
        (try rw [hcl])
        (try rw [g1])
        (try rw [nI_1])
        (try rw [gI_self])
        first
          | (refine Or.inr ⟨?_, rfl, rfl⟩
             rintro ⟨⟨q9, a1, a2⟩, a3, a4, a5, a6⟩
             first
               | exact b5 (by rw [a2]; exact inI a1 (by omega))
               | exact b17 ⟨a3, a4⟩
               | exact b29 ⟨a5, a6⟩)
          | exact Or.inl ⟨q, hq, rfl, ⟨b17.1, b17.2, b29.1, b29.2⟩, Or.inr ⟨hlt, rfl, rfl⟩⟩
          | exact Or.inl ⟨q, hq, rfl, ⟨b17.1, b17.2, b29.1, b29.2⟩, Or.inl ⟨hlt, rfl, rfl⟩⟩
set_option maxRecDepth 4000 in
theorem e_m_tell {κ : xKK} {d : Nat} {M : xM} {nu : Nat} (hu : gI M 167 1646 = nI nu) (hu2 : nu ≤ 12) {i q : Int32} (hq : q = 0 ∨ q = 1) (hd : 2 ≤ d) : xE2 κ mX12_tell d [.ref 166, .int i, .int q] M (fun v M' => (∃ n, n < nu ∧ i = nI n ∧ v = some (.int (if gI M 167 (179 + 122 * n) = q then 0 else 1)) ∧ M' = sI M 167 (179 + 122 * n) q) ∨ (¬ (∃ n, n < nu ∧ i = nI n) ∧ v = some (.int (-1)) ∧ M' = M)) := by
  refine xE2_of ci_X12_tell cl_X12_tell cw_X12_tell rfl (L := [some (.ref 166), some (.int i), some (.int q), none]) rfl ?_
  have hs0 : xar 167 0 182 1646 := xar_n (j := 1646) rfl 1651 rfl (by omega) (by omega)
  have hcl : (1646 : Int32).toNatClampNeg = 1646 := rfl
  refine xG_run 8 rfl (by repeat' (first | exact trivial | assumption | exact xob_b rfl | exact xal_b rfl | (apply And.intro) | decide)) ?_
  try dsimp only [xsto1, xsto2, xkill, xget, xset, gd_0, gd_s]
  refine xG_run 2 rfl (by repeat' (first | exact trivial | assumption | exact xob_b rfl | exact xal_b rfl | (apply And.intro) | decide)) ?_
  try dsimp only [xsto1, xsto2, xkill, xget, xset, gd_0, gd_s]
  refine xG_c2 3 rfl (by repeat' (first | exact trivial | assumption | exact xob_b rfl | exact xal_b rfl | (apply And.intro) | decide)) rfl rfl (by decide) cw_X12_isIn (d' := d - 1) (e_isIn (c := 0 ≤ i ∧ i < gI M 167 1646) (in_lt hu (by omega))) (by omega) ?_
  rintro v M' ⟨rfl, hM⟩
  subst M'
  dsimp only [Option.toList, List.cons_append, List.nil_append]
  refine xG_br rfl (fun h17 => ?_) (fun h17 => ?_)
  · have b17 := z1.mp h17
    rw [hu] at b17
    obtain ⟨n, hn, rfl⟩ := inI_of b17 (by omega)
    have e1 : (179 : Int32) + 122 * nI n = nI (179 + 122 * n) := by
      rw [show (122 : Int32) = nI 122 from rfl, show (179 : Int32) = nI 179 from rfl, pk_mul, nI_add]
    refine xG_run 7 rfl (by repeat' (first | exact trivial | assumption | exact xob_b rfl | exact xal_b rfl | (apply And.intro) | decide)) ?_
    try dsimp only [xsto1, xsto2, xkill, xget, xset, gd_0, gd_s]
    refine xG_br rfl (fun h32 => ?_) (fun h32 => ?_)
    · have hq1 := h32
      subst hq1
      refine xG_run 1 rfl (by repeat' (first | exact trivial | assumption | exact xob_b rfl | exact xal_b rfl | (apply And.intro) | decide)) ?_
      try dsimp only [xsto1, xsto2, xkill, xget, xset, gd_0, gd_s]
      refine xG_c2 2 rfl (by repeat' (first | exact trivial | assumption | exact xob_b rfl | exact xal_b rfl | (apply And.intro) | decide)) rfl rfl (by decide) cw_X12_becomesNow (d' := d - 1) (e_becomesNow (a := 179 + 122 * n) e1 (by omega)) (by omega) ?_
      rintro v M' ⟨rfl, hM⟩
      subst M'
      dsimp only [Option.toList, List.cons_append, List.nil_append]
      refine xG_run 3 rfl (by repeat' (first | exact trivial | assumption | exact xob_b rfl | exact xal_b rfl | (apply And.intro) | decide)) ?_
      try dsimp only [xsto1, xsto2, xkill, xget, xset, gd_0, gd_s]
      refine xG_br rfl (fun h46 => ?_) (fun h46 => ?_)
      · first
          | (exfalso; first | exact absurd (Decidable.not_not.mp h46) (by decide) | exact absurd h46 (by decide) | exact h46 rfl | exact absurd rfl h46)
          | (refine xG_run 1 rfl (by repeat' (first | exact trivial | assumption | exact xob_b rfl | exact xal_b rfl | (apply And.intro) | decide)) ?_
             try dsimp only [xsto1, xsto2, xkill, xget, xset, gd_0, gd_s]
             refine xG_br rfl (fun h54 => ?_) (fun h54 => ?_)
             · refine xG_run 1 rfl (by repeat' (first | exact trivial | assumption | exact xob_b rfl | exact xal_b rfl | (apply And.intro) | decide)) ?_
               try dsimp only [xsto1, xsto2, xkill, xget, xset, gd_0, gd_s]
               refine r2_i rfl rfl ?_
               first
                 | (refine Or.inr ⟨?_, rfl, rfl⟩
                    rintro ⟨j9, a1, a2⟩
                    exact b17 (by rw [a2]; exact inI a1 (by omega)))
                 | (refine Or.inl ⟨n, hn, rfl, ?_, rfl⟩
                    first
                      | (rw [if_neg h54]; done)
                      | (rw [if_pos (Decidable.not_not.mp h54)]; done))
             · refine xG_run 2 rfl (by repeat' (first | exact trivial | assumption | exact xob_b rfl | exact xal_b rfl | (apply And.intro) | decide)) ?_
               try dsimp only [xsto1, xsto2, xkill, xget, xset, gd_0, gd_s]
               refine r2_i rfl rfl ?_
               first
                 | (refine Or.inr ⟨?_, rfl, rfl⟩
                    rintro ⟨j9, a1, a2⟩
                    exact b17 (by rw [a2]; exact inI a1 (by omega)))
                 | (refine Or.inl ⟨n, hn, rfl, ?_, rfl⟩
                    first
                      | (rw [if_neg h54]; done)
                      | (rw [if_pos (Decidable.not_not.mp h54)]; done)))
      · first
          | (exfalso; first | exact absurd (Decidable.not_not.mp h46) (by decide) | exact absurd h46 (by decide) | exact h46 rfl | exact absurd rfl h46)
          | (refine xG_run 2 rfl (by repeat' (first | exact trivial | assumption | exact xob_b rfl | exact xal_b rfl | (apply And.intro) | decide)) ?_
             try dsimp only [xsto1, xsto2, xkill, xget, xset, gd_0, gd_s]
             refine xG_br rfl (fun h54 => ?_) (fun h54 => ?_)
             · refine xG_run 1 rfl (by repeat' (first | exact trivial | assumption | exact xob_b rfl | exact xal_b rfl | (apply And.intro) | decide)) ?_
               try dsimp only [xsto1, xsto2, xkill, xget, xset, gd_0, gd_s]
               refine r2_i rfl rfl ?_
               first
                 | (refine Or.inr ⟨?_, rfl, rfl⟩
                    rintro ⟨j9, a1, a2⟩
                    exact b17 (by rw [a2]; exact inI a1 (by omega)))
                 | (refine Or.inl ⟨n, hn, rfl, ?_, rfl⟩
                    first
                      | (rw [if_neg h54]; done)
                      | (rw [if_pos (Decidable.not_not.mp h54)]; done))
             · refine xG_run 2 rfl (by repeat' (first | exact trivial | assumption | exact xob_b rfl | exact xal_b rfl | (apply And.intro) | decide)) ?_
               try dsimp only [xsto1, xsto2, xkill, xget, xset, gd_0, gd_s]
               refine r2_i rfl rfl ?_
               first
                 | (refine Or.inr ⟨?_, rfl, rfl⟩
                    rintro ⟨j9, a1, a2⟩
                    exact b17 (by rw [a2]; exact inI a1 (by omega)))
                 | (refine Or.inl ⟨n, hn, rfl, ?_, rfl⟩
                    first
                      | (rw [if_neg h54]; done)
                      | (rw [if_pos (Decidable.not_not.mp h54)]; done)))
    · have hq1 : q = 1 := hq.resolve_left h32
      subst hq1
      refine xG_run 2 rfl (by repeat' (first | exact trivial | assumption | exact xob_b rfl | exact xal_b rfl | (apply And.intro) | decide)) ?_
      try dsimp only [xsto1, xsto2, xkill, xget, xset, gd_0, gd_s]
      refine xG_c2 2 rfl (by repeat' (first | exact trivial | assumption | exact xob_b rfl | exact xal_b rfl | (apply And.intro) | decide)) rfl rfl (by decide) cw_X12_becomesNow (d' := d - 1) (e_becomesNow (a := 179 + 122 * n) e1 (by omega)) (by omega) ?_
      rintro v M' ⟨rfl, hM⟩
      subst M'
      dsimp only [Option.toList, List.cons_append, List.nil_append]
      refine xG_run 3 rfl (by repeat' (first | exact trivial | assumption | exact xob_b rfl | exact xal_b rfl | (apply And.intro) | decide)) ?_
      try dsimp only [xsto1, xsto2, xkill, xget, xset, gd_0, gd_s]
      refine xG_br rfl (fun h46 => ?_) (fun h46 => ?_)
      · first
          | (exfalso; first | exact absurd (Decidable.not_not.mp h46) (by decide) | exact absurd h46 (by decide) | exact h46 rfl | exact absurd rfl h46)
          | (refine xG_run 1 rfl (by repeat' (first | exact trivial | assumption | exact xob_b rfl | exact xal_b rfl | (apply And.intro) | decide)) ?_
             try dsimp only [xsto1, xsto2, xkill, xget, xset, gd_0, gd_s]
             refine xG_br rfl (fun h54 => ?_) (fun h54 => ?_)
             · refine xG_run 1 rfl (by repeat' (first | exact trivial | assumption | exact xob_b rfl | exact xal_b rfl | (apply And.intro) | decide)) ?_
               try dsimp only [xsto1, xsto2, xkill, xget, xset, gd_0, gd_s]
               refine r2_i rfl rfl ?_
               first
                 | (refine Or.inr ⟨?_, rfl, rfl⟩
                    rintro ⟨j9, a1, a2⟩
                    exact b17 (by rw [a2]; exact inI a1 (by omega)))
                 | (refine Or.inl ⟨n, hn, rfl, ?_, rfl⟩
                    first
                      | (rw [if_neg h54]; done)
                      | (rw [if_pos (Decidable.not_not.mp h54)]; done))
             · refine xG_run 2 rfl (by repeat' (first | exact trivial | assumption | exact xob_b rfl | exact xal_b rfl | (apply And.intro) | decide)) ?_
               try dsimp only [xsto1, xsto2, xkill, xget, xset, gd_0, gd_s]
               refine r2_i rfl rfl ?_
               first
                 | (refine Or.inr ⟨?_, rfl, rfl⟩
                    rintro ⟨j9, a1, a2⟩
                    exact b17 (by rw [a2]; exact inI a1 (by omega)))
                 | (refine Or.inl ⟨n, hn, rfl, ?_, rfl⟩
                    first
                      | (rw [if_neg h54]; done)
                      | (rw [if_pos (Decidable.not_not.mp h54)]; done)))
      · first
          | (exfalso; first | exact absurd (Decidable.not_not.mp h46) (by decide) | exact absurd h46 (by decide) | exact h46 rfl | exact absurd rfl h46)
          | (refine xG_run 2 rfl (by repeat' (first | exact trivial | assumption | exact xob_b rfl | exact xal_b rfl | (apply And.intro) | decide)) ?_
             try dsimp only [xsto1, xsto2, xkill, xget, xset, gd_0, gd_s]
             refine xG_br rfl (fun h54 => ?_) (fun h54 => ?_)
             · refine xG_run 1 rfl (by repeat' (first | exact trivial | assumption | exact xob_b rfl | exact xal_b rfl | (apply And.intro) | decide)) ?_
               try dsimp only [xsto1, xsto2, xkill, xget, xset, gd_0, gd_s]
               refine r2_i rfl rfl ?_
               first
                 | (refine Or.inr ⟨?_, rfl, rfl⟩
                    rintro ⟨j9, a1, a2⟩
                    exact b17 (by rw [a2]; exact inI a1 (by omega)))
                 | (refine Or.inl ⟨n, hn, rfl, ?_, rfl⟩
                    first
                      | (rw [if_neg h54]; done)
                      | (rw [if_pos (Decidable.not_not.mp h54)]; done))
             · refine xG_run 2 rfl (by repeat' (first | exact trivial | assumption | exact xob_b rfl | exact xal_b rfl | (apply And.intro) | decide)) ?_
               try dsimp only [xsto1, xsto2, xkill, xget, xset, gd_0, gd_s]
               refine r2_i rfl rfl ?_
               first
                 | (refine Or.inr ⟨?_, rfl, rfl⟩
                    rintro ⟨j9, a1, a2⟩
                    exact b17 (by rw [a2]; exact inI a1 (by omega)))
                 | (refine Or.inl ⟨n, hn, rfl, ?_, rfl⟩
                    first
                      | (rw [if_neg h54]; done)
                      | (rw [if_pos (Decidable.not_not.mp h54)]; done)))
  · have b17 := z0.mp (Decidable.not_not.mp h17)
    rw [hu] at b17
    refine xG_run 1 rfl (by repeat' (first | exact trivial | assumption | exact xob_b rfl | exact xal_b rfl | (apply And.intro) | decide)) ?_
    try dsimp only [xsto1, xsto2, xkill, xget, xset, gd_0, gd_s]
    refine r2_i rfl rfl ?_
    first
      | (refine Or.inr ⟨?_, rfl, rfl⟩
         rintro ⟨j9, a1, a2⟩
         exact b17 (by rw [a2]; exact inI a1 (by omega)))
      | (refine Or.inl ⟨n, hn, rfl, ?_, rfl⟩
         first
           | (rw [if_neg h54]; done)
           | (rw [if_pos (Decidable.not_not.mp h54)]; done))
def rRb (M : xM) (q : Nat) (w : Int32) : Int32 := if w = 6 then rA M q (rH M q) else if w = 1 then (if rr M q 1 = 1 then 1 else 0) else rr M q w.toNatClampNeg
set_option maxRecDepth 4000 in
theorem e_m_rope {κ : xKK} {d : Nat} {M : xM} {nr : Nat} (hr : gI M 167 1644 = nI nr) (hr2 : nr ≤ 12) (hh : ∀ q, q < nr → (rr M q 0 = nI (rH M q) ∧ rH M q < 10) ∧ ¬ rs M (rH M q) 1 + rr M q 2 = 0) {i w : Int32} (hd : 2 ≤ d) : xE2 κ mX12_rope d [.ref 166, .int i, .int w] M (fun v M' => ((∃ j, j < nr ∧ i = nI j ∧ 0 ≤ w ∧ w ≤ 6 ∧ v = some (.int (rRb M j w))) ∨ (¬ (∃ j, j < nr ∧ i = nI j ∧ 0 ≤ w ∧ w ≤ 6) ∧ v = some (.int (-1)))) ∧ M' = M) := by
  refine xE2_of ci_X12_rope cl_X12_rope cw_X12_rope rfl (L := [some (.ref 166), some (.int i), some (.int w)]) rfl ?_
  refine xG_run 2 rfl (by repeat' (first | exact trivial | assumption | exact xob_b rfl | exact xal_b rfl | (apply And.intro) | decide)) ?_
  try dsimp only [xsto1, xsto2, xkill, xget, xset, gd_0, gd_s]
  refine xG_c2 1 rfl (by repeat' (first | exact trivial | assumption | exact xob_b rfl | exact xal_b rfl | (apply And.intro) | decide)) rfl rfl (by decide) cw_X12_isRope (d' := d - 1) (e_isRope hr hr2 (by omega)) (by omega) ?_
  rintro v M' ⟨rfl, hM⟩
  subst M'
  dsimp only [Option.toList, List.cons_append, List.nil_append]
  refine xG_br rfl (fun h5 => ?_) (fun h5 => ?_)
  · have b5 := z0.mp h5
    refine xG_run 1 rfl (by repeat' (first | exact trivial | assumption | exact xob_b rfl | exact xal_b rfl | (apply And.intro) | decide)) ?_
    try dsimp only [xsto1, xsto2, xkill, xget, xset, gd_0, gd_s]
    refine r2_i rfl rfl ?_
    refine ⟨?_, rfl⟩
    first
      | (refine Or.inl ⟨j, hj, rfl, b17.1, b17.2, ?_⟩
         unfold rRb
         first
           | (rw [if_pos (Decidable.not_not.mp h25)]; done)
           | (rw [if_neg h25, if_pos (Decidable.not_not.mp h38), if_pos (Decidable.not_not.mp h48)]; done)
           | (rw [if_neg h25, if_pos (Decidable.not_not.mp h38), if_neg h48]; done)
           | (rw [if_neg h25, if_neg h38]; done))
      | (refine Or.inr ⟨?_, rfl⟩
         rintro ⟨j9, a1, a2, a3, a4⟩
         first
           | exact b17 ⟨a3, a4⟩
           | exact b5 (by rw [a2]; exact inI a1 (by omega)))
  · have b5 := z1.mp h5
    obtain ⟨j, hj, rfl⟩ := inI_of b5 (by omega)
    refine xG_run 4 rfl (by repeat' (first | exact trivial | assumption | exact xob_b rfl | exact xal_b rfl | (apply And.intro) | decide)) ?_
    try dsimp only [xsto1, xsto2, xkill, xget, xset, gd_0, gd_s]
    refine xG_c2 3 rfl (by repeat' (first | exact trivial | assumption | exact xob_b rfl | exact xal_b rfl | (apply And.intro) | decide)) rfl rfl (by decide) cw_X12_isIn (d' := d - 1) (e_isIn (c := 0 ≤ w ∧ w ≤ 6) (in32 rfl rfl)) (by omega) ?_
    rintro v M' ⟨rfl, hM⟩
    subst M'
    dsimp only [Option.toList, List.cons_append, List.nil_append]
    refine xG_br rfl (fun h17 => ?_) (fun h17 => ?_)
    · have b17 := z1.mp h17
      obtain ⟨k9, hk9, hwk⟩ := inI_of (n := 7) (p := w) ⟨b17.1, by have := b17.2; rw [Int32.le_iff_toInt_le] at this; rw [Int32.lt_iff_toInt_lt]; have h4 : (6 : Int32).toInt = 6 := rfl; have h5 : (nI 7).toInt = 7 := rfl; omega⟩ (by omega)
      have hwn : w = nI w.toNatClampNeg := by rw [hwk, nI_cl (by omega)]
      have hwl : w.toNatClampNeg < 7 := by rw [hwk, nI_cl (by omega)]; exact hk9
      refine xG_run 2 rfl (by repeat' (first | exact trivial | assumption | exact xob_b rfl | exact xal_b rfl | (apply And.intro) | decide)) ?_
      try dsimp only [xsto1, xsto2, xkill, xget, xset, gd_0, gd_s]
      refine xG_br rfl (fun h25 => ?_) (fun h25 => ?_)
      · refine xG_run 2 rfl (by repeat' (first | exact trivial | assumption | exact xob_b rfl | exact xal_b rfl | (apply And.intro) | decide)) ?_
        try dsimp only [xsto1, xsto2, xkill, xget, xset, gd_0, gd_s]
        refine xG_br rfl (fun h38 => ?_) (fun h38 => ?_)
        · refine xG_run 3 rfl (by repeat' (first | exact trivial | assumption | exact xob_b rfl | exact xal_b rfl | (apply And.intro) | decide)) ?_
          try dsimp only [xsto1, xsto2, xkill, xget, xset, gd_0, gd_s]
          refine xG_c2 2 rfl (by repeat' (first | exact trivial | assumption | exact xob_b rfl | exact xal_b rfl | (apply And.intro) | decide)) rfl rfl (by decide) cw_X12_rope0 (d' := d - 1) (e_rope0 (p := j) (k := w.toNatClampNeg) rfl hwn (by omega)) (by omega) ?_
          rintro v M' ⟨rfl, hM⟩
          subst M'
          dsimp only [Option.toList, List.cons_append, List.nil_append]
          refine r2_i rfl rfl ?_
          refine ⟨?_, rfl⟩
          first
            | (refine Or.inl ⟨j, hj, rfl, b17.1, b17.2, ?_⟩
               unfold rRb
               first
                 | (rw [if_pos (Decidable.not_not.mp h25)]; done)
                 | (rw [if_neg h25, if_pos (Decidable.not_not.mp h38), if_pos (Decidable.not_not.mp h48)]; done)
                 | (rw [if_neg h25, if_pos (Decidable.not_not.mp h38), if_neg h48]; done)
                 | (rw [if_neg h25, if_neg h38]; done))
            | (refine Or.inr ⟨?_, rfl⟩
               rintro ⟨j9, a1, a2, a3, a4⟩
               first
                 | exact b17 ⟨a3, a4⟩
                 | exact b5 (by rw [a2]; exact inI a1 (by omega)))
        · refine xG_run 3 rfl (by repeat' (first | exact trivial | assumption | exact xob_b rfl | exact xal_b rfl | (apply And.intro) | decide)) ?_
          try dsimp only [xsto1, xsto2, xkill, xget, xset, gd_0, gd_s]
          refine xG_c2 2 rfl (by repeat' (first | exact trivial | assumption | exact xob_b rfl | exact xal_b rfl | (apply And.intro) | decide)) rfl rfl (by decide) cw_X12_rope0 (d' := d - 1) (e_rope0 (p := j) (k := 1) rfl rfl (by omega)) (by omega) ?_
          rintro v M' ⟨rfl, hM⟩
          subst M'
          dsimp only [Option.toList, List.cons_append, List.nil_append]
          refine xG_run 1 rfl (by repeat' (first | exact trivial | assumption | exact xob_b rfl | exact xal_b rfl | (apply And.intro) | decide)) ?_
          try dsimp only [xsto1, xsto2, xkill, xget, xset, gd_0, gd_s]
          refine xG_br rfl (fun h48 => ?_) (fun h48 => ?_)
          · refine xG_run 2 rfl (by repeat' (first | exact trivial | assumption | exact xob_b rfl | exact xal_b rfl | (apply And.intro) | decide)) ?_
            try dsimp only [xsto1, xsto2, xkill, xget, xset, gd_0, gd_s]
            refine r2_i rfl rfl ?_
            refine ⟨?_, rfl⟩
            first
              | (refine Or.inl ⟨j, hj, rfl, b17.1, b17.2, ?_⟩
                 unfold rRb
                 first
                   | (rw [if_pos (Decidable.not_not.mp h25)]; done)
                   | (rw [if_neg h25, if_pos (Decidable.not_not.mp h38), if_pos (Decidable.not_not.mp h48)]; done)
                   | (rw [if_neg h25, if_pos (Decidable.not_not.mp h38), if_neg h48]; done)
                   | (rw [if_neg h25, if_neg h38]; done))
              | (refine Or.inr ⟨?_, rfl⟩
                 rintro ⟨j9, a1, a2, a3, a4⟩
                 first
                   | exact b17 ⟨a3, a4⟩
                   | exact b5 (by rw [a2]; exact inI a1 (by omega)))
          · refine xG_run 2 rfl (by repeat' (first | exact trivial | assumption | exact xob_b rfl | exact xal_b rfl | (apply And.intro) | decide)) ?_
            try dsimp only [xsto1, xsto2, xkill, xget, xset, gd_0, gd_s]
            refine r2_i rfl rfl ?_
            refine ⟨?_, rfl⟩
            first
              | (refine Or.inl ⟨j, hj, rfl, b17.1, b17.2, ?_⟩
                 unfold rRb
                 first
                   | (rw [if_pos (Decidable.not_not.mp h25)]; done)
                   | (rw [if_neg h25, if_pos (Decidable.not_not.mp h38), if_pos (Decidable.not_not.mp h48)]; done)
                   | (rw [if_neg h25, if_pos (Decidable.not_not.mp h38), if_neg h48]; done)
                   | (rw [if_neg h25, if_neg h38]; done))
              | (refine Or.inr ⟨?_, rfl⟩
                 rintro ⟨j9, a1, a2, a3, a4⟩
                 first
                   | exact b17 ⟨a3, a4⟩
                   | exact b5 (by rw [a2]; exact inI a1 (by omega)))
      · refine xG_run 2 rfl (by repeat' (first | exact trivial | assumption | exact xob_b rfl | exact xal_b rfl | (apply And.intro) | decide)) ?_
        try dsimp only [xsto1, xsto2, xkill, xget, xset, gd_0, gd_s]
        refine xG_c2 1 rfl (by repeat' (first | exact trivial | assumption | exact xob_b rfl | exact xal_b rfl | (apply And.intro) | decide)) rfl rfl (by decide) cw_X12_arm (d' := d - 1) (e_rarm (q := j) (h := rH M j) (by omega) (hh j hj).1.1 (hh j hj).1.2 (hh j hj).2 (by omega)) (by omega) ?_
        rintro v M' ⟨rfl, hM⟩
        subst M'
        dsimp only [Option.toList, List.cons_append, List.nil_append]
        refine xG_run 1 rfl (by repeat' (first | exact trivial | assumption | exact xob_b rfl | exact xal_b rfl | (apply And.intro) | decide)) ?_
        try dsimp only [xsto1, xsto2, xkill, xget, xset, gd_0, gd_s]
        refine r2_i rfl rfl ?_
        refine ⟨?_, rfl⟩
        first
          | (refine Or.inl ⟨j, hj, rfl, b17.1, b17.2, ?_⟩
             unfold rRb
             first
               | (rw [if_pos (Decidable.not_not.mp h25)]; done)
               | (rw [if_neg h25, if_pos (Decidable.not_not.mp h38), if_pos (Decidable.not_not.mp h48)]; done)
               | (rw [if_neg h25, if_pos (Decidable.not_not.mp h38), if_neg h48]; done)
               | (rw [if_neg h25, if_neg h38]; done))
          | (refine Or.inr ⟨?_, rfl⟩
             rintro ⟨j9, a1, a2, a3, a4⟩
             first
               | exact b17 ⟨a3, a4⟩
               | exact b5 (by rw [a2]; exact inI a1 (by omega)))
    · have b17 := z0.mp (Decidable.not_not.mp h17)
      refine xG_run 1 rfl (by repeat' (first | exact trivial | assumption | exact xob_b rfl | exact xal_b rfl | (apply And.intro) | decide)) ?_
      try dsimp only [xsto1, xsto2, xkill, xget, xset, gd_0, gd_s]
      refine r2_i rfl rfl ?_
      refine ⟨?_, rfl⟩
      first
        | (refine Or.inl ⟨j, hj, rfl, b17.1, b17.2, ?_⟩
           unfold rRb
           first
             | (rw [if_pos (Decidable.not_not.mp h25)]; done)
             | (rw [if_neg h25, if_pos (Decidable.not_not.mp h38), if_pos (Decidable.not_not.mp h48)]; done)
             | (rw [if_neg h25, if_pos (Decidable.not_not.mp h38), if_neg h48]; done)
             | (rw [if_neg h25, if_neg h38]; done))
        | (refine Or.inr ⟨?_, rfl⟩
           rintro ⟨j9, a1, a2, a3, a4⟩
           first
             | exact b17 ⟨a3, a4⟩
             | exact b5 (by rw [a2]; exact inI a1 (by omega)))
