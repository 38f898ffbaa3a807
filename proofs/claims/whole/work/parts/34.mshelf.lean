/-! ===== the reference's shelves ===== -/
def rWR (M : xM) (j : Nat) (s : Int32) : Int32 := if gI M 170 j = 0 then -11 else if gI M 170 j = 2 ∧ (s < 0 ∨ gI M 171 j = s) then 0 else -12
def rWK (M : xM) (j : Nat) : Int32 := if gI M 170 j = 0 then -11 else if gI M 170 j = 1 then 0 else -12
def rHf (M : xM) (p : Nat) : Int32 := if rs M p 0 = 2 then 2 * (rW M p + rs M p 1 + (if 0 < rs M p 0 then rs M p 3 else 0)) else if rs M p 0 = 3 then rW M p + rs M p 1 + (if 0 < rs M p 0 then rs M p 3 else 0) + rs M p 4 else rW M p + rs M p 1 + (if 0 < rs M p 0 then rs M p 3 else 0)
def rTs (M : xM) (p : Nat) : Int32 := if rs M p 0 = 3 ∨ (rs M p 0 = 2 ∧ rs M p 5 = 0) then -15 else if rs M p 0 = 2 then nI p + 100 + rs M p 5 else nI p
theorem w00 {w : Int32} (h : 0 ≤ w ∧ w ≤ 1) (h1 : ¬ w = 1) : w = 0 := by
  have e : (1 : Int32).toInt = 1 := by decide
  apply Int32.toInt_inj.mp
  have a := h.1
  have b := h.2
  rw [Int32.le_iff_toInt_le] at a b
  rw [Int32.toInt_zero] at a ⊢
  have c : ¬ w.toInt = 1 := fun q => h1 (Int32.toInt_inj.mp (q.trans e.symm))
  omega
theorem no8 {i : Int32} (h : ¬ (0 ≤ i ∧ i < 8)) : ¬ ∃ j, j < 8 ∧ i = nI j := fun ⟨_, a1, a2⟩ => h (by rw [a2]; exact inI (n := 8) a1 (by omega))
theorem ix120 (p k : Nat) : (120 : Int32) * nI p + nI k = nI (120 * p + k) := by show nI 120 * nI p + nI k = _; rw [pk_mul, nI_add]
theorem el_ar {n : Nat} (h : n < 960) : xar 173 0 182 (nI n) := xar_n rfl 960 rfl h (by omega)
theorem in_lt {a x : Int32} {z : Nat} (hx : x = nI z) (hz : z < 2147483648) : (0 ≤ a ∧ a < x) ↔ (0 : Int64) ≤ a.toInt64 ∧ a.toInt64 ≤ (x - 1).toInt64 := by
  have e : (x - 1).toInt = (z : Int) - 1 := by rw [hx, fb_subI] <;> rw [nI_ti hz] <;> simp <;> omega
  rw [Int64.le_iff_toInt_le, Int64.le_iff_toInt_le, Int32.toInt_toInt64, Int32.toInt_toInt64, e, Int32.le_iff_toInt_le, Int32.lt_iff_toInt_lt, hx, nI_ti hz]
  simp
  omega
def zrB (M : xM) (a b n : Nat) : xM := (fun x k => if x = a ∧ b ≤ k ∧ k < b + n then 0 else gI M x k, M.2.1, M.2.2)
theorem zrB_g {M : xM} {a b n x k : Nat} : gI (zrB M a b n) x k = if x = a ∧ b ≤ k ∧ k < b + n then 0 else gI M x k := rfl
theorem zrB_s {M : xM} {a b n : Nat} : sI (zrB M a b n) a (b + n) 0 = zrB M a b (n + 1) := by
  refine xM_ext (fun x k => ?_) (fun _ _ => rfl) (fun _ _ => rfl)
  rw [gIsI, zrB_g, zrB_g]
  by_cases c : x = a ∧ k = b + n
  · rw [if_pos c, if_pos ⟨c.1, by omega⟩]
  · rw [if_neg c]
    by_cases c2 : x = a ∧ b ≤ k ∧ k < b + n
    · rw [if_pos c2, if_pos ⟨c2.1, by omega⟩]
    · rw [if_neg c2, if_neg (by omega)]
theorem zrB_0 {M : xM} {a b : Nat} : M = zrB M a b 0 := xM_ext (fun x k => by rw [zrB_g, if_neg (by omega)]) (fun _ _ => rfl) (fun _ _ => rfl)
set_option maxRecDepth 4000 in
theorem e_wrongRow {κ : xKK} {d : Nat} {M : xM} {i s : Int32} (hd : 2 ≤ d) : xE2 κ mX12_wrongRow d [.ref 166, .int i, .int s] M (fun v M' => ((∃ j, j < 8 ∧ i = nI j ∧ v = some (.int (rWR M j s))) ∨ (¬ (∃ j, j < 8 ∧ i = nI j) ∧ v = some (.int (-1)))) ∧ M' = M) := by
  refine xE2_of ci_X12_wrongRow cl_X12_wrongRow cw_X12_wrongRow rfl (L := [some (.ref 166), some (.int i), some (.int s)]) rfl ?_
  refine xG_run 1 rfl (by repeat' (first | exact trivial | assumption | exact xob_b rfl | exact xal_b rfl | (apply And.intro) | decide)) ?_
  try dsimp only [xsto1, xsto2, xkill, xget, xset, gd_0, gd_s]
  try rw [hj1]
  refine xG_c2 1 rfl (by repeat' (first | exact trivial | assumption | exact xob_b rfl | exact xal_b rfl | (apply And.intro) | decide)) rfl rfl (by decide) cw_X12_isShelf (d' := d - 1) (e_isShelf (by omega)) (by omega) ?_
  rintro v M' ⟨rfl, hM⟩
  subst M'
  dsimp only [Option.toList, List.cons_append, List.nil_append]
  refine xG_br rfl (fun h4 => ?_) (fun h4 => ?_)
  · have b4 := z1.mp h4
    obtain ⟨j, hj, rfl⟩ := inI_of (n := 8) (show _ ∧ _ < nI 8 from b4) (by omega)
    have hs170 : xar 170 0 182 (nI j) := xar_n rfl 8 rfl hj (by omega)
    have hs171 : xar 171 0 182 (nI j) := xar_n rfl 8 rfl hj (by omega)
    have hs172 : xar 172 0 182 (nI j) := xar_n rfl 8 rfl hj (by omega)
    have hs175 : xar 175 0 182 (nI j) := xar_n rfl 8 rfl hj (by omega)
    have hs176 : xar 176 0 182 (nI j) := xar_n rfl 8 rfl hj (by omega)
    have hj1 : (nI j).toNatClampNeg = j := nI_cl (by omega)
    refine xG_run 4 rfl (by repeat' (first | exact trivial | assumption | exact xob_b rfl | exact xal_b rfl | (apply And.intro) | decide)) ?_
    try dsimp only [xsto1, xsto2, xkill, xget, xset, gd_0, gd_s]
    try rw [hj1]
    refine xG_br rfl (fun h17 => ?_) (fun h17 => ?_)
    · refine xG_run 5 rfl (by repeat' (first | exact trivial | assumption | exact xob_b rfl | exact xal_b rfl | (apply And.intro) | decide)) ?_
      try dsimp only [xsto1, xsto2, xkill, xget, xset, gd_0, gd_s]
      try rw [hj1]
      refine xG_br rfl (fun h32 => ?_) (fun h32 => ?_)
      · refine xG_run 2 rfl (by repeat' (first | exact trivial | assumption | exact xob_b rfl | exact xal_b rfl | (apply And.intro) | decide)) ?_
        try dsimp only [xsto1, xsto2, xkill, xget, xset, gd_0, gd_s]
        try rw [hj1]
        refine r2_i rfl rfl ?_
        refine ⟨?_, rfl⟩
        first
          | exact Or.inr ⟨no8 b4, rfl⟩
          | (refine Or.inl ⟨j, hj, rfl, ?_⟩
             unfold rWR
             (try rw [hj1] at h17)
             (try rw [hj1] at h32)
             (try rw [hj1] at h46)
             first
               | (rw [if_pos (Decidable.not_not.mp h17)]; done)
               | (rw [if_neg h17, if_pos ⟨Decidable.not_not.mp h32, Or.inl h36⟩]; done)
               | (rw [if_neg h17, if_pos ⟨Decidable.not_not.mp h32, Or.inr h46⟩]; done)
               | (rw [if_neg h17, if_neg (fun q => h32 q.1)]; done)
               | (rw [if_neg h17, if_neg (fun q => q.2.elim h36 h46)]; done))
      · refine xG_run 1 rfl (by repeat' (first | exact trivial | assumption | exact xob_b rfl | exact xal_b rfl | (apply And.intro) | decide)) ?_
        try dsimp only [xsto1, xsto2, xkill, xget, xset, gd_0, gd_s]
        try rw [hj1]
        refine xG_br rfl (fun h36 => ?_) (fun h36 => ?_)
        · refine xG_run 1 rfl (by repeat' (first | exact trivial | assumption | exact xob_b rfl | exact xal_b rfl | (apply And.intro) | decide)) ?_
          try dsimp only [xsto1, xsto2, xkill, xget, xset, gd_0, gd_s]
          try rw [hj1]
          refine r2_i rfl rfl ?_
          refine ⟨?_, rfl⟩
          first
            | exact Or.inr ⟨no8 b4, rfl⟩
            | (refine Or.inl ⟨j, hj, rfl, ?_⟩
               unfold rWR
               (try rw [hj1] at h17)
               (try rw [hj1] at h32)
               (try rw [hj1] at h46)
               first
                 | (rw [if_pos (Decidable.not_not.mp h17)]; done)
                 | (rw [if_neg h17, if_pos ⟨Decidable.not_not.mp h32, Or.inl h36⟩]; done)
                 | (rw [if_neg h17, if_pos ⟨Decidable.not_not.mp h32, Or.inr h46⟩]; done)
                 | (rw [if_neg h17, if_neg (fun q => h32 q.1)]; done)
                 | (rw [if_neg h17, if_neg (fun q => q.2.elim h36 h46)]; done))
        · refine xG_run 5 rfl (by repeat' (first | exact trivial | assumption | exact xob_b rfl | exact xal_b rfl | (apply And.intro) | decide)) ?_
          try dsimp only [xsto1, xsto2, xkill, xget, xset, gd_0, gd_s]
          try rw [hj1]
          refine xG_br rfl (fun h46 => ?_) (fun h46 => ?_)
          · refine xG_run 1 rfl (by repeat' (first | exact trivial | assumption | exact xob_b rfl | exact xal_b rfl | (apply And.intro) | decide)) ?_
            try dsimp only [xsto1, xsto2, xkill, xget, xset, gd_0, gd_s]
            try rw [hj1]
            refine r2_i rfl rfl ?_
            refine ⟨?_, rfl⟩
            first
              | exact Or.inr ⟨no8 b4, rfl⟩
              | (refine Or.inl ⟨j, hj, rfl, ?_⟩
                 unfold rWR
                 (try rw [hj1] at h17)
                 (try rw [hj1] at h32)
                 (try rw [hj1] at h46)
                 first
                   | (rw [if_pos (Decidable.not_not.mp h17)]; done)
                   | (rw [if_neg h17, if_pos ⟨Decidable.not_not.mp h32, Or.inl h36⟩]; done)
                   | (rw [if_neg h17, if_pos ⟨Decidable.not_not.mp h32, Or.inr h46⟩]; done)
                   | (rw [if_neg h17, if_neg (fun q => h32 q.1)]; done)
                   | (rw [if_neg h17, if_neg (fun q => q.2.elim h36 h46)]; done))
          · refine xG_run 2 rfl (by repeat' (first | exact trivial | assumption | exact xob_b rfl | exact xal_b rfl | (apply And.intro) | decide)) ?_
            try dsimp only [xsto1, xsto2, xkill, xget, xset, gd_0, gd_s]
            try rw [hj1]
            refine r2_i rfl rfl ?_
            refine ⟨?_, rfl⟩
            first
              | exact Or.inr ⟨no8 b4, rfl⟩
              | (refine Or.inl ⟨j, hj, rfl, ?_⟩
                 unfold rWR
                 (try rw [hj1] at h17)
                 (try rw [hj1] at h32)
                 (try rw [hj1] at h46)
                 first
                   | (rw [if_pos (Decidable.not_not.mp h17)]; done)
                   | (rw [if_neg h17, if_pos ⟨Decidable.not_not.mp h32, Or.inl h36⟩]; done)
                   | (rw [if_neg h17, if_pos ⟨Decidable.not_not.mp h32, Or.inr h46⟩]; done)
                   | (rw [if_neg h17, if_neg (fun q => h32 q.1)]; done)
                   | (rw [if_neg h17, if_neg (fun q => q.2.elim h36 h46)]; done))
    · refine xG_run 2 rfl (by repeat' (first | exact trivial | assumption | exact xob_b rfl | exact xal_b rfl | (apply And.intro) | decide)) ?_
      try dsimp only [xsto1, xsto2, xkill, xget, xset, gd_0, gd_s]
      try rw [hj1]
      refine r2_i rfl rfl ?_
      refine ⟨?_, rfl⟩
      first
        | exact Or.inr ⟨no8 b4, rfl⟩
        | (refine Or.inl ⟨j, hj, rfl, ?_⟩
           unfold rWR
           (try rw [hj1] at h17)
           (try rw [hj1] at h32)
           (try rw [hj1] at h46)
           first
             | (rw [if_pos (Decidable.not_not.mp h17)]; done)
             | (rw [if_neg h17, if_pos ⟨Decidable.not_not.mp h32, Or.inl h36⟩]; done)
             | (rw [if_neg h17, if_pos ⟨Decidable.not_not.mp h32, Or.inr h46⟩]; done)
             | (rw [if_neg h17, if_neg (fun q => h32 q.1)]; done)
             | (rw [if_neg h17, if_neg (fun q => q.2.elim h36 h46)]; done))
  · have b4 := z0.mp (Decidable.not_not.mp h4)
    refine xG_run 2 rfl (by repeat' (first | exact trivial | assumption | exact xob_b rfl | exact xal_b rfl | (apply And.intro) | decide)) ?_
    try dsimp only [xsto1, xsto2, xkill, xget, xset, gd_0, gd_s]
    try rw [hj1]
    refine r2_i rfl rfl ?_
    refine ⟨?_, rfl⟩
    first
      | exact Or.inr ⟨no8 b4, rfl⟩
      | (refine Or.inl ⟨j, hj, rfl, ?_⟩
         unfold rWR
         (try rw [hj1] at h17)
         (try rw [hj1] at h32)
         (try rw [hj1] at h46)
         first
           | (rw [if_pos (Decidable.not_not.mp h17)]; done)
           | (rw [if_neg h17, if_pos ⟨Decidable.not_not.mp h32, Or.inl h36⟩]; done)
           | (rw [if_neg h17, if_pos ⟨Decidable.not_not.mp h32, Or.inr h46⟩]; done)
           | (rw [if_neg h17, if_neg (fun q => h32 q.1)]; done)
           | (rw [if_neg h17, if_neg (fun q => q.2.elim h36 h46)]; done))
set_option maxRecDepth 4000 in
theorem e_wrongKept {κ : xKK} {d : Nat} {M : xM} {i : Int32} (hd : 2 ≤ d) : xE2 κ mX12_wrongKept d [.ref 166, .int i] M (fun v M' => ((∃ j, j < 8 ∧ i = nI j ∧ v = some (.int (rWK M j))) ∨ (¬ (∃ j, j < 8 ∧ i = nI j) ∧ v = some (.int (-1)))) ∧ M' = M) := by
  refine xE2_of ci_X12_wrongKept cl_X12_wrongKept cw_X12_wrongKept rfl (L := [some (.ref 166), some (.int i)]) rfl ?_
  refine xG_run 1 rfl (by repeat' (first | exact trivial | assumption | exact xob_b rfl | exact xal_b rfl | (apply And.intro) | decide)) ?_
  try dsimp only [xsto1, xsto2, xkill, xget, xset, gd_0, gd_s]
  try rw [hj1]
  refine xG_c2 1 rfl (by repeat' (first | exact trivial | assumption | exact xob_b rfl | exact xal_b rfl | (apply And.intro) | decide)) rfl rfl (by decide) cw_X12_isShelf (d' := d - 1) (e_isShelf (by omega)) (by omega) ?_
  rintro v M' ⟨rfl, hM⟩
  subst M'
  dsimp only [Option.toList, List.cons_append, List.nil_append]
  refine xG_br rfl (fun h4 => ?_) (fun h4 => ?_)
  · have b4 := z1.mp h4
    obtain ⟨j, hj, rfl⟩ := inI_of (n := 8) (show _ ∧ _ < nI 8 from b4) (by omega)
    have hs170 : xar 170 0 182 (nI j) := xar_n rfl 8 rfl hj (by omega)
    have hs171 : xar 171 0 182 (nI j) := xar_n rfl 8 rfl hj (by omega)
    have hs172 : xar 172 0 182 (nI j) := xar_n rfl 8 rfl hj (by omega)
    have hs175 : xar 175 0 182 (nI j) := xar_n rfl 8 rfl hj (by omega)
    have hs176 : xar 176 0 182 (nI j) := xar_n rfl 8 rfl hj (by omega)
    have hj1 : (nI j).toNatClampNeg = j := nI_cl (by omega)
    refine xG_run 4 rfl (by repeat' (first | exact trivial | assumption | exact xob_b rfl | exact xal_b rfl | (apply And.intro) | decide)) ?_
    try dsimp only [xsto1, xsto2, xkill, xget, xset, gd_0, gd_s]
    try rw [hj1]
    refine xG_br rfl (fun h17 => ?_) (fun h17 => ?_)
    · refine xG_run 5 rfl (by repeat' (first | exact trivial | assumption | exact xob_b rfl | exact xal_b rfl | (apply And.intro) | decide)) ?_
      try dsimp only [xsto1, xsto2, xkill, xget, xset, gd_0, gd_s]
      try rw [hj1]
      refine xG_br rfl (fun h32 => ?_) (fun h32 => ?_)
      · refine xG_run 1 rfl (by repeat' (first | exact trivial | assumption | exact xob_b rfl | exact xal_b rfl | (apply And.intro) | decide)) ?_
        try dsimp only [xsto1, xsto2, xkill, xget, xset, gd_0, gd_s]
        try rw [hj1]
        refine r2_i rfl rfl ?_
        refine ⟨?_, rfl⟩
        first
          | exact Or.inr ⟨no8 b4, rfl⟩
          | (refine Or.inl ⟨j, hj, rfl, ?_⟩
             unfold rWK
             (try rw [hj1] at h17)
             (try rw [hj1] at h32)
             first
               | (rw [if_pos (Decidable.not_not.mp h17)]; done)
               | (rw [if_neg h17, if_pos (Decidable.not_not.mp h32)]; done)
               | (rw [if_neg h17, if_neg h32]; done))
      · refine xG_run 2 rfl (by repeat' (first | exact trivial | assumption | exact xob_b rfl | exact xal_b rfl | (apply And.intro) | decide)) ?_
        try dsimp only [xsto1, xsto2, xkill, xget, xset, gd_0, gd_s]
        try rw [hj1]
        refine r2_i rfl rfl ?_
        refine ⟨?_, rfl⟩
        first
          | exact Or.inr ⟨no8 b4, rfl⟩
          | (refine Or.inl ⟨j, hj, rfl, ?_⟩
             unfold rWK
             (try rw [hj1] at h17)
             (try rw [hj1] at h32)
             first
               | (rw [if_pos (Decidable.not_not.mp h17)]; done)
               | (rw [if_neg h17, if_pos (Decidable.not_not.mp h32)]; done)
               | (rw [if_neg h17, if_neg h32]; done))
    · refine xG_run 2 rfl (by repeat' (first | exact trivial | assumption | exact xob_b rfl | exact xal_b rfl | (apply And.intro) | decide)) ?_
      try dsimp only [xsto1, xsto2, xkill, xget, xset, gd_0, gd_s]
      try rw [hj1]
      refine r2_i rfl rfl ?_
      refine ⟨?_, rfl⟩
      first
        | exact Or.inr ⟨no8 b4, rfl⟩
        | (refine Or.inl ⟨j, hj, rfl, ?_⟩
           unfold rWK
           (try rw [hj1] at h17)
           (try rw [hj1] at h32)
           first
             | (rw [if_pos (Decidable.not_not.mp h17)]; done)
             | (rw [if_neg h17, if_pos (Decidable.not_not.mp h32)]; done)
             | (rw [if_neg h17, if_neg h32]; done))
  · have b4 := z0.mp (Decidable.not_not.mp h4)
    refine xG_run 2 rfl (by repeat' (first | exact trivial | assumption | exact xob_b rfl | exact xal_b rfl | (apply And.intro) | decide)) ?_
    try dsimp only [xsto1, xsto2, xkill, xget, xset, gd_0, gd_s]
    try rw [hj1]
    refine r2_i rfl rfl ?_
    refine ⟨?_, rfl⟩
    first
      | exact Or.inr ⟨no8 b4, rfl⟩
      | (refine Or.inl ⟨j, hj, rfl, ?_⟩
         unfold rWK
         (try rw [hj1] at h17)
         (try rw [hj1] at h32)
         first
           | (rw [if_pos (Decidable.not_not.mp h17)]; done)
           | (rw [if_neg h17, if_pos (Decidable.not_not.mp h32)]; done)
           | (rw [if_neg h17, if_neg h32]; done))
set_option maxRecDepth 4000 in
theorem e_m_heft {κ : xKK} {d : Nat} {M : xM} {i : Int32} (hd : 3 ≤ d) : xE2 κ mX12_heft d [.ref 166, .int i] M (fun v M' => ((∃ j, j < 8 ∧ i = nI j ∧ v = some (.int (if rWK M j = 0 then gI M 175 j else rWK M j))) ∨ (¬ (∃ j, j < 8 ∧ i = nI j) ∧ v = some (.int (-1)))) ∧ M' = M) := by
  refine xE2_of ci_X12_heft cl_X12_heft cw_X12_heft rfl (L := [some (.ref 166), some (.int i), none]) rfl ?_
  refine xG_run 2 rfl (by repeat' (first | exact trivial | assumption | exact xob_b rfl | exact xal_b rfl | (apply And.intro) | decide)) ?_
  try dsimp only [xsto1, xsto2, xkill, xget, xset, gd_0, gd_s]
  try rw [hj1]
  refine xG_c2 1 rfl (by repeat' (first | exact trivial | assumption | exact xob_b rfl | exact xal_b rfl | (apply And.intro) | decide)) rfl rfl (by decide) cw_X12_wrongKept (d' := d - 1) (e_wrongKept (by omega)) (by omega) ?_
  rintro v M' ⟨hv, hM⟩
  subst M'
  rcases hv with ⟨j, hj, rfl, rfl⟩ | ⟨hno, rfl⟩
  · dsimp only [Option.toList, List.cons_append, List.nil_append]
    have hs170 : xar 170 0 182 (nI j) := xar_n rfl 8 rfl hj (by omega)
    have hs171 : xar 171 0 182 (nI j) := xar_n rfl 8 rfl hj (by omega)
    have hs172 : xar 172 0 182 (nI j) := xar_n rfl 8 rfl hj (by omega)
    have hs175 : xar 175 0 182 (nI j) := xar_n rfl 8 rfl hj (by omega)
    have hs176 : xar 176 0 182 (nI j) := xar_n rfl 8 rfl hj (by omega)
    have hj1 : (nI j).toNatClampNeg = j := nI_cl (by omega)
    refine xG_run 2 rfl (by repeat' (first | exact trivial | assumption | exact xob_b rfl | exact xal_b rfl | (apply And.intro) | decide)) ?_
    try dsimp only [xsto1, xsto2, xkill, xget, xset, gd_0, gd_s]
    try rw [hj1]
    refine xG_br rfl (fun h7 => ?_) (fun h7 => ?_)
    · first
        | (exfalso; exact absurd h7 (by decide))
        | (refine xG_run 4 rfl (by repeat' (first | exact trivial | assumption | exact xob_b rfl | exact xal_b rfl | (apply And.intro) | decide)) ?_
           try dsimp only [xsto1, xsto2, xkill, xget, xset, gd_0, gd_s]
           try rw [hj1]
           refine r2_i rfl rfl ?_
           refine ⟨?_, rfl⟩
           first
             | exact Or.inr ⟨hno, rfl⟩
             | exact absurd h7 (by decide)
             | (refine Or.inl ⟨j, hj, rfl, ?_⟩; rw [if_pos (by first | exact h7 | exact Decidable.not_not.mp h7)]; first | done | rw [hj1])
             | (refine Or.inl ⟨j, hj, rfl, ?_⟩; rw [if_neg h7]; done))
    · first
        | (exfalso; exact absurd h7 (by decide))
        | (refine xG_run 2 rfl (by repeat' (first | exact trivial | assumption | exact xob_b rfl | exact xal_b rfl | (apply And.intro) | decide)) ?_
           try dsimp only [xsto1, xsto2, xkill, xget, xset, gd_0, gd_s]
           try rw [hj1]
           refine r2_i rfl rfl ?_
           refine ⟨?_, rfl⟩
           first
             | exact Or.inr ⟨hno, rfl⟩
             | exact absurd h7 (by decide)
             | (refine Or.inl ⟨j, hj, rfl, ?_⟩; rw [if_pos (by first | exact h7 | exact Decidable.not_not.mp h7)]; first | done | rw [hj1])
             | (refine Or.inl ⟨j, hj, rfl, ?_⟩; rw [if_neg h7]; done))
  · dsimp only [Option.toList, List.cons_append, List.nil_append]
    refine xG_run 2 rfl (by repeat' (first | exact trivial | assumption | exact xob_b rfl | exact xal_b rfl | (apply And.intro) | decide)) ?_
    try dsimp only [xsto1, xsto2, xkill, xget, xset, gd_0, gd_s]
    try rw [hj1]
    refine xG_br rfl (fun h7 => ?_) (fun h7 => ?_)
    · first
        | (exfalso; exact absurd h7 (by decide))
        | (refine xG_run 4 rfl (by repeat' (first | exact trivial | assumption | exact xob_b rfl | exact xal_b rfl | (apply And.intro) | decide)) ?_
           try dsimp only [xsto1, xsto2, xkill, xget, xset, gd_0, gd_s]
           try rw [hj1]
           refine r2_i rfl rfl ?_
           refine ⟨?_, rfl⟩
           first
             | exact Or.inr ⟨hno, rfl⟩
             | exact absurd h7 (by decide)
             | (refine Or.inl ⟨j, hj, rfl, ?_⟩; rw [if_pos (by first | exact h7 | exact Decidable.not_not.mp h7)]; first | done | rw [hj1])
             | (refine Or.inl ⟨j, hj, rfl, ?_⟩; rw [if_neg h7]; done))
    · first
        | (exfalso; exact absurd h7 (by decide))
        | (refine xG_run 2 rfl (by repeat' (first | exact trivial | assumption | exact xob_b rfl | exact xal_b rfl | (apply And.intro) | decide)) ?_
           try dsimp only [xsto1, xsto2, xkill, xget, xset, gd_0, gd_s]
           try rw [hj1]
           refine r2_i rfl rfl ?_
           refine ⟨?_, rfl⟩
           first
             | exact Or.inr ⟨hno, rfl⟩
             | exact absurd h7 (by decide)
             | (refine Or.inl ⟨j, hj, rfl, ?_⟩; rw [if_pos (by first | exact h7 | exact Decidable.not_not.mp h7)]; first | done | rw [hj1])
             | (refine Or.inl ⟨j, hj, rfl, ?_⟩; rw [if_neg h7]; done))
set_option maxRecDepth 4000 in
theorem e_m_toss {κ : xKK} {d : Nat} {M : xM} {i : Int32} (hd : 3 ≤ d) : xE2 κ mX12_toss d [.ref 166, .int i] M (fun v M' => ((∃ j, j < 8 ∧ i = nI j ∧ v = some (.int (if rWK M j = 0 then gI M 176 j else rWK M j))) ∨ (¬ (∃ j, j < 8 ∧ i = nI j) ∧ v = some (.int (-1)))) ∧ M' = M) := by
  refine xE2_of ci_X12_toss cl_X12_toss cw_X12_toss rfl (L := [some (.ref 166), some (.int i), none]) rfl ?_
  refine xG_run 2 rfl (by repeat' (first | exact trivial | assumption | exact xob_b rfl | exact xal_b rfl | (apply And.intro) | decide)) ?_
  try dsimp only [xsto1, xsto2, xkill, xget, xset, gd_0, gd_s]
  try rw [hj1]
  refine xG_c2 1 rfl (by repeat' (first | exact trivial | assumption | exact xob_b rfl | exact xal_b rfl | (apply And.intro) | decide)) rfl rfl (by decide) cw_X12_wrongKept (d' := d - 1) (e_wrongKept (by omega)) (by omega) ?_
  rintro v M' ⟨hv, hM⟩
  subst M'
  rcases hv with ⟨j, hj, rfl, rfl⟩ | ⟨hno, rfl⟩
  · dsimp only [Option.toList, List.cons_append, List.nil_append]
    have hs170 : xar 170 0 182 (nI j) := xar_n rfl 8 rfl hj (by omega)
    have hs171 : xar 171 0 182 (nI j) := xar_n rfl 8 rfl hj (by omega)
    have hs172 : xar 172 0 182 (nI j) := xar_n rfl 8 rfl hj (by omega)
    have hs175 : xar 175 0 182 (nI j) := xar_n rfl 8 rfl hj (by omega)
    have hs176 : xar 176 0 182 (nI j) := xar_n rfl 8 rfl hj (by omega)
    have hj1 : (nI j).toNatClampNeg = j := nI_cl (by omega)
    refine xG_run 2 rfl (by repeat' (first | exact trivial | assumption | exact xob_b rfl | exact xal_b rfl | (apply And.intro) | decide)) ?_
    try dsimp only [xsto1, xsto2, xkill, xget, xset, gd_0, gd_s]
    try rw [hj1]
    refine xG_br rfl (fun h7 => ?_) (fun h7 => ?_)
    · first
        | (exfalso; exact absurd h7 (by decide))
        | (refine xG_run 4 rfl (by repeat' (first | exact trivial | assumption | exact xob_b rfl | exact xal_b rfl | (apply And.intro) | decide)) ?_
           try dsimp only [xsto1, xsto2, xkill, xget, xset, gd_0, gd_s]
           try rw [hj1]
           refine r2_i rfl rfl ?_
           refine ⟨?_, rfl⟩
           first
             | exact Or.inr ⟨hno, rfl⟩
             | exact absurd h7 (by decide)
             | (refine Or.inl ⟨j, hj, rfl, ?_⟩; rw [if_pos (by first | exact h7 | exact Decidable.not_not.mp h7)]; first | done | rw [hj1])
             | (refine Or.inl ⟨j, hj, rfl, ?_⟩; rw [if_neg h7]; done))
    · first
        | (exfalso; exact absurd h7 (by decide))
        | (refine xG_run 2 rfl (by repeat' (first | exact trivial | assumption | exact xob_b rfl | exact xal_b rfl | (apply And.intro) | decide)) ?_
           try dsimp only [xsto1, xsto2, xkill, xget, xset, gd_0, gd_s]
           try rw [hj1]
           refine r2_i rfl rfl ?_
           refine ⟨?_, rfl⟩
           first
             | exact Or.inr ⟨hno, rfl⟩
             | exact absurd h7 (by decide)
             | (refine Or.inl ⟨j, hj, rfl, ?_⟩; rw [if_pos (by first | exact h7 | exact Decidable.not_not.mp h7)]; first | done | rw [hj1])
             | (refine Or.inl ⟨j, hj, rfl, ?_⟩; rw [if_neg h7]; done))
  · dsimp only [Option.toList, List.cons_append, List.nil_append]
    refine xG_run 2 rfl (by repeat' (first | exact trivial | assumption | exact xob_b rfl | exact xal_b rfl | (apply And.intro) | decide)) ?_
    try dsimp only [xsto1, xsto2, xkill, xget, xset, gd_0, gd_s]
    try rw [hj1]
    refine xG_br rfl (fun h7 => ?_) (fun h7 => ?_)
    · first
        | (exfalso; exact absurd h7 (by decide))
        | (refine xG_run 4 rfl (by repeat' (first | exact trivial | assumption | exact xob_b rfl | exact xal_b rfl | (apply And.intro) | decide)) ?_
           try dsimp only [xsto1, xsto2, xkill, xget, xset, gd_0, gd_s]
           try rw [hj1]
           refine r2_i rfl rfl ?_
           refine ⟨?_, rfl⟩
           first
             | exact Or.inr ⟨hno, rfl⟩
             | exact absurd h7 (by decide)
             | (refine Or.inl ⟨j, hj, rfl, ?_⟩; rw [if_pos (by first | exact h7 | exact Decidable.not_not.mp h7)]; first | done | rw [hj1])
             | (refine Or.inl ⟨j, hj, rfl, ?_⟩; rw [if_neg h7]; done))
    · first
        | (exfalso; exact absurd h7 (by decide))
        | (refine xG_run 2 rfl (by repeat' (first | exact trivial | assumption | exact xob_b rfl | exact xal_b rfl | (apply And.intro) | decide)) ?_
           try dsimp only [xsto1, xsto2, xkill, xget, xset, gd_0, gd_s]
           try rw [hj1]
           refine r2_i rfl rfl ?_
           refine ⟨?_, rfl⟩
           first
             | exact Or.inr ⟨hno, rfl⟩
             | exact absurd h7 (by decide)
             | (refine Or.inl ⟨j, hj, rfl, ?_⟩; rw [if_pos (by first | exact h7 | exact Decidable.not_not.mp h7)]; first | done | rw [hj1])
             | (refine Or.inl ⟨j, hj, rfl, ?_⟩; rw [if_neg h7]; done))
set_option maxRecDepth 4000 in
theorem e_m_keep {κ : xKK} {d : Nat} {M : xM} {np : Nat} (hn : gI M 167 1643 = nI np) (hn2 : np ≤ 10) {i w k : Int32} (hd : 3 ≤ d) : xE2 κ mX12_keep d [.ref 166, .int i, .int w, .int k] M (fun v M' => (∃ j, j < 8 ∧ i = nI j ∧ w = 0 ∧ v = some (.int 0) ∧ M' = sI M 170 j 0) ∨ (∃ j p, j < 8 ∧ i = nI j ∧ w = 1 ∧ p < np ∧ k = nI p ∧ v = some (.int 0) ∧ M' = sI (sI (sI M 170 j 1) 175 j (rHf M p)) 176 j (rTs M p)) ∨ (¬ ((∃ j, j < 8 ∧ i = nI j) ∧ (w = 0 ∨ w = 1 ∧ ∃ p, p < np ∧ k = nI p)) ∧ v = some (.int (-1)) ∧ M' = M)) := by
  refine xE2_of ci_X12_keep cl_X12_keep cw_X12_keep rfl (L := [some (.ref 166), some (.int i), some (.int w), some (.int k), none, none]) rfl ?_
  refine xG_run 1 rfl (by repeat' (first | exact trivial | assumption | exact xob_b rfl | exact xal_b rfl | (apply And.intro) | decide)) ?_
  try dsimp only [xsto1, xsto2, xkill, xget, xset, gd_0, gd_s]
  try rw [hj1]
  refine xG_c2 1 rfl (by repeat' (first | exact trivial | assumption | exact xob_b rfl | exact xal_b rfl | (apply And.intro) | decide)) rfl rfl (by decide) cw_X12_isShelf (d' := d - 1) (e_isShelf (by omega)) (by omega) ?_
  rintro v M' ⟨rfl, hM⟩
  subst M'
  dsimp only [Option.toList, List.cons_append, List.nil_append]
  refine xG_br rfl (fun h4 => ?_) (fun h4 => ?_)
  · have b4 := z0.mp h4
    refine xG_run 1 rfl (by repeat' (first | exact trivial | assumption | exact xob_b rfl | exact xal_b rfl | (apply And.intro) | decide)) ?_
    try dsimp only [xsto1, xsto2, xkill, xget, xset, gd_0, gd_s]
    try rw [hj1]
    refine r2_i rfl rfl ?_
    first
      | exact Or.inl ⟨j, hj, rfl, rfl, rfl, rfl⟩
      | (refine Or.inr (Or.inr ⟨?_, rfl, rfl⟩)
         rintro ⟨⟨j9, a1, a2⟩, a3⟩
         first
           | exact no8 b4 ⟨j9, a1, a2⟩
           | (rcases a3 with a3 | ⟨a3, p9, a4, a5⟩
              · first | exact b14 (by rw [a3]; decide) | exact absurd a3 (by decide)
              · first | exact b14 (by rw [a3]; decide) | exact b27 (by rw [a5]; exact inI a4 (by omega))))
      | (refine Or.inr (Or.inl ⟨j, p, hj, rfl, rfl, hp, rfl, rfl, ?_⟩)
         (try simp only [rs_c hA, rs_c (hB _), rW_c hA, Decidable.not_not] at *)
         first
           | (have h67a := i_nlt h67; simp [rHf, rTs, *]; done)
           | (exfalso; have h67a := i_nlt h67; simp_all; done)
           | (exfalso; have h67a := i_nle h67; simp_all; done)
           | (have h67a := i_nle h67; simp [rHf, rTs, *]; done))
  · have b4 := z1.mp h4
    obtain ⟨j, hj, rfl⟩ := inI_of (n := 8) (show _ ∧ _ < nI 8 from b4) (by omega)
    have hs170 : xar 170 0 182 (nI j) := xar_n rfl 8 rfl hj (by omega)
    have hs171 : xar 171 0 182 (nI j) := xar_n rfl 8 rfl hj (by omega)
    have hs172 : xar 172 0 182 (nI j) := xar_n rfl 8 rfl hj (by omega)
    have hs175 : xar 175 0 182 (nI j) := xar_n rfl 8 rfl hj (by omega)
    have hs176 : xar 176 0 182 (nI j) := xar_n rfl 8 rfl hj (by omega)
    have hj1 : (nI j).toNatClampNeg = j := nI_cl (by omega)
    refine xG_run 4 rfl (by repeat' (first | exact trivial | assumption | exact xob_b rfl | exact xal_b rfl | (apply And.intro) | decide)) ?_
    try dsimp only [xsto1, xsto2, xkill, xget, xset, gd_0, gd_s]
    try rw [hj1]
    refine xG_c2 3 rfl (by repeat' (first | exact trivial | assumption | exact xob_b rfl | exact xal_b rfl | (apply And.intro) | decide)) rfl rfl (by decide) cw_X12_isIn (d' := d - 1) (e_isIn (c := 0 ≤ w ∧ w ≤ 1) (in32 rfl rfl)) (by omega) ?_
    rintro v M' ⟨rfl, hM⟩
    subst M'
    dsimp only [Option.toList, List.cons_append, List.nil_append]
    refine xG_br rfl (fun h14 => ?_) (fun h14 => ?_)
    · have b14 := z0.mp h14
      refine xG_run 1 rfl (by repeat' (first | exact trivial | assumption | exact xob_b rfl | exact xal_b rfl | (apply And.intro) | decide)) ?_
      try dsimp only [xsto1, xsto2, xkill, xget, xset, gd_0, gd_s]
      try rw [hj1]
      refine r2_i rfl rfl ?_
      first
        | exact Or.inl ⟨j, hj, rfl, rfl, rfl, rfl⟩
        | (refine Or.inr (Or.inr ⟨?_, rfl, rfl⟩)
           rintro ⟨⟨j9, a1, a2⟩, a3⟩
           first
             | exact no8 b4 ⟨j9, a1, a2⟩
             | (rcases a3 with a3 | ⟨a3, p9, a4, a5⟩
                · first | exact b14 (by rw [a3]; decide) | exact absurd a3 (by decide)
                · first | exact b14 (by rw [a3]; decide) | exact b27 (by rw [a5]; exact inI a4 (by omega))))
        | (refine Or.inr (Or.inl ⟨j, p, hj, rfl, rfl, hp, rfl, rfl, ?_⟩)
           (try simp only [rs_c hA, rs_c (hB _), rW_c hA, Decidable.not_not] at *)
           first
             | (have h67a := i_nlt h67; simp [rHf, rTs, *]; done)
             | (exfalso; have h67a := i_nlt h67; simp_all; done)
             | (exfalso; have h67a := i_nle h67; simp_all; done)
             | (have h67a := i_nle h67; simp [rHf, rTs, *]; done))
    · have b14 := z1.mp h14
      refine xG_run 2 rfl (by repeat' (first | exact trivial | assumption | exact xob_b rfl | exact xal_b rfl | (apply And.intro) | decide)) ?_
      try dsimp only [xsto1, xsto2, xkill, xget, xset, gd_0, gd_s]
      try rw [hj1]
      refine xG_br rfl (fun h19 => ?_) (fun h19 => ?_)
      · have hw := w00 b14 h19
        subst hw
        refine xG_run 6 rfl (by repeat' (first | exact trivial | assumption | exact xob_b rfl | exact xal_b rfl | (apply And.intro) | decide)) ?_
        try dsimp only [xsto1, xsto2, xkill, xget, xset, gd_0, gd_s]
        try rw [hj1]
        refine xG_br rfl (fun h40 => ?_) (fun h40 => ?_)
        · first
            | (exfalso; first | exact h40 rfl | exact h40 (by decide) | exact absurd (Decidable.not_not.mp h40) (by decide))
            | (refine xG_run 3 rfl (by repeat' (first | exact trivial | assumption | exact xob_b rfl | exact xal_b rfl | (apply And.intro) | decide)) ?_
               try dsimp only [xsto1, xsto2, xkill, xget, xset, gd_0, gd_s]
               try rw [hj1]
               refine xG_c2 2 rfl (by repeat' (first | exact trivial | assumption | exact xob_b rfl | exact xal_b rfl | (apply And.intro) | decide)) rfl rfl (by decide) cw_X12_of (d' := d - 1) (e_of (p := p) (k := 0) rfl rfl (by omega)) (by omega) ?_
               rintro v M' ⟨rfl, hM⟩
               subst M'
               dsimp only [Option.toList, List.cons_append, List.nil_append]
               refine xG_run 3 rfl (by repeat' (first | exact trivial | assumption | exact xob_b rfl | exact xal_b rfl | (apply And.intro) | decide)) ?_
               try dsimp only [xsto1, xsto2, xkill, xget, xset, gd_0, gd_s]
               try rw [hj1]
               refine xG_c2 1 rfl (by repeat' (first | exact trivial | assumption | exact xob_b rfl | exact xal_b rfl | (apply And.intro) | decide)) rfl rfl (by decide) cw_X12_weight (d' := d - 1) (e_rweight (p := p) (by omega) (by omega)) (by omega) ?_
               rintro v M' ⟨rfl, hM⟩
               subst M'
               dsimp only [Option.toList, List.cons_append, List.nil_append]
               refine xG_run 3 rfl (by repeat' (first | exact trivial | assumption | exact xob_b rfl | exact xal_b rfl | (apply And.intro) | decide)) ?_
               try dsimp only [xsto1, xsto2, xkill, xget, xset, gd_0, gd_s]
               try rw [hj1]
               refine xG_c2 2 rfl (by repeat' (first | exact trivial | assumption | exact xob_b rfl | exact xal_b rfl | (apply And.intro) | decide)) rfl rfl (by decide) cw_X12_of (d' := d - 1) (e_of (p := p) (k := 1) rfl rfl (by omega)) (by omega) ?_
               rintro v M' ⟨rfl, hM⟩
               subst M'
               dsimp only [Option.toList, List.cons_append, List.nil_append]
               refine xG_run 2 rfl (by repeat' (first | exact trivial | assumption | exact xob_b rfl | exact xal_b rfl | (apply And.intro) | decide)) ?_
               try dsimp only [xsto1, xsto2, xkill, xget, xset, gd_0, gd_s]
               try rw [hj1]
               refine xG_br rfl (fun h67 => ?_) (fun h67 => ?_)
               · refine xG_run 8 rfl (by repeat' (first | exact trivial | assumption | exact xob_b rfl | exact xal_b rfl | (apply And.intro) | decide)) ?_
                 try dsimp only [xsto1, xsto2, xkill, xget, xset, gd_0, gd_s]
                 try rw [hj1]
                 refine xG_br rfl (fun h91 => ?_) (fun h91 => ?_)
                 · refine xG_run 2 rfl (by repeat' (first | exact trivial | assumption | exact xob_b rfl | exact xal_b rfl | (apply And.intro) | decide)) ?_
                   try dsimp only [xsto1, xsto2, xkill, xget, xset, gd_0, gd_s]
                   try rw [hj1]
                   refine xG_br rfl (fun h104 => ?_) (fun h104 => ?_)
                   · refine xG_run 7 rfl (by repeat' (first | exact trivial | assumption | exact xob_b rfl | exact xal_b rfl | (apply And.intro) | decide)) ?_
                     try dsimp only [xsto1, xsto2, xkill, xget, xset, gd_0, gd_s]
                     try rw [hj1]
                     refine xG_br rfl (fun h130 => ?_) (fun h130 => ?_)
                     · refine xG_run 4 rfl (by repeat' (first | exact trivial | assumption | exact xob_b rfl | exact xal_b rfl | (apply And.intro) | decide)) ?_
                       try dsimp only [xsto1, xsto2, xkill, xget, xset, gd_0, gd_s]
                       try rw [hj1]
                       refine r2_i rfl rfl ?_
                       first
                         | exact Or.inl ⟨j, hj, rfl, rfl, rfl, rfl⟩
                         | (refine Or.inr (Or.inr ⟨?_, rfl, rfl⟩)
                            rintro ⟨⟨j9, a1, a2⟩, a3⟩
                            first
                              | exact no8 b4 ⟨j9, a1, a2⟩
                              | (rcases a3 with a3 | ⟨a3, p9, a4, a5⟩
                                 · first | exact b14 (by rw [a3]; decide) | exact absurd a3 (by decide)
                                 · first | exact b14 (by rw [a3]; decide) | exact b27 (by rw [a5]; exact inI a4 (by omega))))
                         | (refine Or.inr (Or.inl ⟨j, p, hj, rfl, rfl, hp, rfl, rfl, ?_⟩)
                            (try simp only [rs_c hA, rs_c (hB _), rW_c hA, Decidable.not_not] at *)
                            first
                              | (have h67a := i_nlt h67; simp [rHf, rTs, *]; done)
                              | (exfalso; have h67a := i_nlt h67; simp_all; done)
                              | (exfalso; have h67a := i_nle h67; simp_all; done)
                              | (have h67a := i_nle h67; simp [rHf, rTs, *]; done))
                     · refine xG_run 2 rfl (by repeat' (first | exact trivial | assumption | exact xob_b rfl | exact xal_b rfl | (apply And.intro) | decide)) ?_
                       try dsimp only [xsto1, xsto2, xkill, xget, xset, gd_0, gd_s]
                       try rw [hj1]
                       refine xG_br rfl (fun h136 => ?_) (fun h136 => ?_)
                       · refine xG_run 2 rfl (by repeat' (first | exact trivial | assumption | exact xob_b rfl | exact xal_b rfl | (apply And.intro) | decide)) ?_
                         try dsimp only [xsto1, xsto2, xkill, xget, xset, gd_0, gd_s]
                         try rw [hj1]
                         refine xG_br rfl (fun h156 => ?_) (fun h156 => ?_)
                         · refine xG_run 3 rfl (by repeat' (first | exact trivial | assumption | exact xob_b rfl | exact xal_b rfl | (apply And.intro) | decide)) ?_
                           try dsimp only [xsto1, xsto2, xkill, xget, xset, gd_0, gd_s]
                           try rw [hj1]
                           refine r2_i rfl rfl ?_
                           first
                             | exact Or.inl ⟨j, hj, rfl, rfl, rfl, rfl⟩
                             | (refine Or.inr (Or.inr ⟨?_, rfl, rfl⟩)
                                rintro ⟨⟨j9, a1, a2⟩, a3⟩
                                first
                                  | exact no8 b4 ⟨j9, a1, a2⟩
                                  | (rcases a3 with a3 | ⟨a3, p9, a4, a5⟩
                                     · first | exact b14 (by rw [a3]; decide) | exact absurd a3 (by decide)
                                     · first | exact b14 (by rw [a3]; decide) | exact b27 (by rw [a5]; exact inI a4 (by omega))))
                             | (refine Or.inr (Or.inl ⟨j, p, hj, rfl, rfl, hp, rfl, rfl, ?_⟩)
                                (try simp only [rs_c hA, rs_c (hB _), rW_c hA, Decidable.not_not] at *)
                                first
                                  | (have h67a := i_nlt h67; simp [rHf, rTs, *]; done)
                                  | (exfalso; have h67a := i_nlt h67; simp_all; done)
                                  | (exfalso; have h67a := i_nle h67; simp_all; done)
                                  | (have h67a := i_nle h67; simp [rHf, rTs, *]; done))
                         · refine xG_run 6 rfl (by repeat' (first | exact trivial | assumption | exact xob_b rfl | exact xal_b rfl | (apply And.intro) | decide)) ?_
                           try dsimp only [xsto1, xsto2, xkill, xget, xset, gd_0, gd_s]
                           try rw [hj1]
                           refine xG_c2 2 rfl (by repeat' (first | exact trivial | assumption | exact xob_b rfl | exact xal_b rfl | (apply And.intro) | decide)) rfl rfl (by decide) cw_X12_of (d' := d - 1) (e_of (p := p) (k := 5) rfl rfl (by omega)) (by omega) ?_
                           rintro v M' ⟨rfl, hM⟩
                           subst M'
                           dsimp only [Option.toList, List.cons_append, List.nil_append]
                           refine xG_run 4 rfl (by repeat' (first | exact trivial | assumption | exact xob_b rfl | exact xal_b rfl | (apply And.intro) | decide)) ?_
                           try dsimp only [xsto1, xsto2, xkill, xget, xset, gd_0, gd_s]
                           try rw [hj1]
                           refine r2_i rfl rfl ?_
                           first
                             | exact Or.inl ⟨j, hj, rfl, rfl, rfl, rfl⟩
                             | (refine Or.inr (Or.inr ⟨?_, rfl, rfl⟩)
                                rintro ⟨⟨j9, a1, a2⟩, a3⟩
                                first
                                  | exact no8 b4 ⟨j9, a1, a2⟩
                                  | (rcases a3 with a3 | ⟨a3, p9, a4, a5⟩
                                     · first | exact b14 (by rw [a3]; decide) | exact absurd a3 (by decide)
                                     · first | exact b14 (by rw [a3]; decide) | exact b27 (by rw [a5]; exact inI a4 (by omega))))
                             | (refine Or.inr (Or.inl ⟨j, p, hj, rfl, rfl, hp, rfl, rfl, ?_⟩)
                                (try simp only [rs_c hA, rs_c (hB _), rW_c hA, Decidable.not_not] at *)
                                first
                                  | (have h67a := i_nlt h67; simp [rHf, rTs, *]; done)
                                  | (exfalso; have h67a := i_nlt h67; simp_all; done)
                                  | (exfalso; have h67a := i_nle h67; simp_all; done)
                                  | (have h67a := i_nle h67; simp [rHf, rTs, *]; done))
                       · refine xG_run 3 rfl (by repeat' (first | exact trivial | assumption | exact xob_b rfl | exact xal_b rfl | (apply And.intro) | decide)) ?_
                         try dsimp only [xsto1, xsto2, xkill, xget, xset, gd_0, gd_s]
                         try rw [hj1]
                         refine xG_c2 2 rfl (by repeat' (first | exact trivial | assumption | exact xob_b rfl | exact xal_b rfl | (apply And.intro) | decide)) rfl rfl (by decide) cw_X12_of (d' := d - 1) (e_of (p := p) (k := 5) rfl rfl (by omega)) (by omega) ?_
                         rintro v M' ⟨rfl, hM⟩
                         subst M'
                         dsimp only [Option.toList, List.cons_append, List.nil_append]
                         refine xG_br rfl (fun h145 => ?_) (fun h145 => ?_)
                         · refine xG_run 2 rfl (by repeat' (first | exact trivial | assumption | exact xob_b rfl | exact xal_b rfl | (apply And.intro) | decide)) ?_
                           try dsimp only [xsto1, xsto2, xkill, xget, xset, gd_0, gd_s]
                           try rw [hj1]
                           refine xG_br rfl (fun h156 => ?_) (fun h156 => ?_)
                           · refine xG_run 3 rfl (by repeat' (first | exact trivial | assumption | exact xob_b rfl | exact xal_b rfl | (apply And.intro) | decide)) ?_
                             try dsimp only [xsto1, xsto2, xkill, xget, xset, gd_0, gd_s]
                             try rw [hj1]
                             refine r2_i rfl rfl ?_
                             first
                               | exact Or.inl ⟨j, hj, rfl, rfl, rfl, rfl⟩
                               | (refine Or.inr (Or.inr ⟨?_, rfl, rfl⟩)
                                  rintro ⟨⟨j9, a1, a2⟩, a3⟩
                                  first
                                    | exact no8 b4 ⟨j9, a1, a2⟩
                                    | (rcases a3 with a3 | ⟨a3, p9, a4, a5⟩
                                       · first | exact b14 (by rw [a3]; decide) | exact absurd a3 (by decide)
                                       · first | exact b14 (by rw [a3]; decide) | exact b27 (by rw [a5]; exact inI a4 (by omega))))
                               | (refine Or.inr (Or.inl ⟨j, p, hj, rfl, rfl, hp, rfl, rfl, ?_⟩)
                                  (try simp only [rs_c hA, rs_c (hB _), rW_c hA, Decidable.not_not] at *)
                                  first
                                    | (have h67a := i_nlt h67; simp [rHf, rTs, *]; done)
                                    | (exfalso; have h67a := i_nlt h67; simp_all; done)
                                    | (exfalso; have h67a := i_nle h67; simp_all; done)
                                    | (have h67a := i_nle h67; simp [rHf, rTs, *]; done))
                           · refine xG_run 6 rfl (by repeat' (first | exact trivial | assumption | exact xob_b rfl | exact xal_b rfl | (apply And.intro) | decide)) ?_
                             try dsimp only [xsto1, xsto2, xkill, xget, xset, gd_0, gd_s]
                             try rw [hj1]
                             refine xG_c2 2 rfl (by repeat' (first | exact trivial | assumption | exact xob_b rfl | exact xal_b rfl | (apply And.intro) | decide)) rfl rfl (by decide) cw_X12_of (d' := d - 1) (e_of (p := p) (k := 5) rfl rfl (by omega)) (by omega) ?_
                             rintro v M' ⟨rfl, hM⟩
                             subst M'
                             dsimp only [Option.toList, List.cons_append, List.nil_append]
                             refine xG_run 4 rfl (by repeat' (first | exact trivial | assumption | exact xob_b rfl | exact xal_b rfl | (apply And.intro) | decide)) ?_
                             try dsimp only [xsto1, xsto2, xkill, xget, xset, gd_0, gd_s]
                             try rw [hj1]
                             refine r2_i rfl rfl ?_
                             first
                               | exact Or.inl ⟨j, hj, rfl, rfl, rfl, rfl⟩
                               | (refine Or.inr (Or.inr ⟨?_, rfl, rfl⟩)
                                  rintro ⟨⟨j9, a1, a2⟩, a3⟩
                                  first
                                    | exact no8 b4 ⟨j9, a1, a2⟩
                                    | (rcases a3 with a3 | ⟨a3, p9, a4, a5⟩
                                       · first | exact b14 (by rw [a3]; decide) | exact absurd a3 (by decide)
                                       · first | exact b14 (by rw [a3]; decide) | exact b27 (by rw [a5]; exact inI a4 (by omega))))
                               | (refine Or.inr (Or.inl ⟨j, p, hj, rfl, rfl, hp, rfl, rfl, ?_⟩)
                                  (try simp only [rs_c hA, rs_c (hB _), rW_c hA, Decidable.not_not] at *)
                                  first
                                    | (have h67a := i_nlt h67; simp [rHf, rTs, *]; done)
                                    | (exfalso; have h67a := i_nlt h67; simp_all; done)
                                    | (exfalso; have h67a := i_nle h67; simp_all; done)
                                    | (have h67a := i_nle h67; simp [rHf, rTs, *]; done))
                         · refine xG_run 4 rfl (by repeat' (first | exact trivial | assumption | exact xob_b rfl | exact xal_b rfl | (apply And.intro) | decide)) ?_
                           try dsimp only [xsto1, xsto2, xkill, xget, xset, gd_0, gd_s]
                           try rw [hj1]
                           refine r2_i rfl rfl ?_
                           first
                             | exact Or.inl ⟨j, hj, rfl, rfl, rfl, rfl⟩
                             | (refine Or.inr (Or.inr ⟨?_, rfl, rfl⟩)
                                rintro ⟨⟨j9, a1, a2⟩, a3⟩
                                first
                                  | exact no8 b4 ⟨j9, a1, a2⟩
                                  | (rcases a3 with a3 | ⟨a3, p9, a4, a5⟩
                                     · first | exact b14 (by rw [a3]; decide) | exact absurd a3 (by decide)
                                     · first | exact b14 (by rw [a3]; decide) | exact b27 (by rw [a5]; exact inI a4 (by omega))))
                             | (refine Or.inr (Or.inl ⟨j, p, hj, rfl, rfl, hp, rfl, rfl, ?_⟩)
                                (try simp only [rs_c hA, rs_c (hB _), rW_c hA, Decidable.not_not] at *)
                                first
                                  | (have h67a := i_nlt h67; simp [rHf, rTs, *]; done)
                                  | (exfalso; have h67a := i_nlt h67; simp_all; done)
                                  | (exfalso; have h67a := i_nle h67; simp_all; done)
                                  | (have h67a := i_nle h67; simp [rHf, rTs, *]; done))
                   · refine xG_run 4 rfl (by repeat' (first | exact trivial | assumption | exact xob_b rfl | exact xal_b rfl | (apply And.intro) | decide)) ?_
                     try dsimp only [xsto1, xsto2, xkill, xget, xset, gd_0, gd_s]
                     try rw [hj1]
                     refine xG_c2 2 rfl (by repeat' (first | exact trivial | assumption | exact xob_b rfl | exact xal_b rfl | (apply And.intro) | decide)) rfl rfl (by decide) cw_X12_of (d' := d - 1) (e_of (p := p) (k := 4) rfl rfl (by omega)) (by omega) ?_
                     rintro v M' ⟨rfl, hM⟩
                     subst M'
                     dsimp only [Option.toList, List.cons_append, List.nil_append]
                     refine xG_run 8 rfl (by repeat' (first | exact trivial | assumption | exact xob_b rfl | exact xal_b rfl | (apply And.intro) | decide)) ?_
                     try dsimp only [xsto1, xsto2, xkill, xget, xset, gd_0, gd_s]
                     try rw [hj1]
                     refine xG_br rfl (fun h130 => ?_) (fun h130 => ?_)
                     · refine xG_run 4 rfl (by repeat' (first | exact trivial | assumption | exact xob_b rfl | exact xal_b rfl | (apply And.intro) | decide)) ?_
                       try dsimp only [xsto1, xsto2, xkill, xget, xset, gd_0, gd_s]
                       try rw [hj1]
                       refine r2_i rfl rfl ?_
                       first
                         | exact Or.inl ⟨j, hj, rfl, rfl, rfl, rfl⟩
                         | (refine Or.inr (Or.inr ⟨?_, rfl, rfl⟩)
                            rintro ⟨⟨j9, a1, a2⟩, a3⟩
                            first
                              | exact no8 b4 ⟨j9, a1, a2⟩
                              | (rcases a3 with a3 | ⟨a3, p9, a4, a5⟩
                                 · first | exact b14 (by rw [a3]; decide) | exact absurd a3 (by decide)
                                 · first | exact b14 (by rw [a3]; decide) | exact b27 (by rw [a5]; exact inI a4 (by omega))))
                         | (refine Or.inr (Or.inl ⟨j, p, hj, rfl, rfl, hp, rfl, rfl, ?_⟩)
                            (try simp only [rs_c hA, rs_c (hB _), rW_c hA, Decidable.not_not] at *)
                            first
                              | (have h67a := i_nlt h67; simp [rHf, rTs, *]; done)
                              | (exfalso; have h67a := i_nlt h67; simp_all; done)
                              | (exfalso; have h67a := i_nle h67; simp_all; done)
                              | (have h67a := i_nle h67; simp [rHf, rTs, *]; done))
                     · refine xG_run 2 rfl (by repeat' (first | exact trivial | assumption | exact xob_b rfl | exact xal_b rfl | (apply And.intro) | decide)) ?_
                       try dsimp only [xsto1, xsto2, xkill, xget, xset, gd_0, gd_s]
                       try rw [hj1]
                       refine xG_br rfl (fun h136 => ?_) (fun h136 => ?_)
                       · refine xG_run 2 rfl (by repeat' (first | exact trivial | assumption | exact xob_b rfl | exact xal_b rfl | (apply And.intro) | decide)) ?_
                         try dsimp only [xsto1, xsto2, xkill, xget, xset, gd_0, gd_s]
                         try rw [hj1]
                         refine xG_br rfl (fun h156 => ?_) (fun h156 => ?_)
                         · refine xG_run 3 rfl (by repeat' (first | exact trivial | assumption | exact xob_b rfl | exact xal_b rfl | (apply And.intro) | decide)) ?_
                           try dsimp only [xsto1, xsto2, xkill, xget, xset, gd_0, gd_s]
                           try rw [hj1]
                           refine r2_i rfl rfl ?_
                           first
                             | exact Or.inl ⟨j, hj, rfl, rfl, rfl, rfl⟩
                             | (refine Or.inr (Or.inr ⟨?_, rfl, rfl⟩)
                                rintro ⟨⟨j9, a1, a2⟩, a3⟩
                                first
                                  | exact no8 b4 ⟨j9, a1, a2⟩
                                  | (rcases a3 with a3 | ⟨a3, p9, a4, a5⟩
                                     · first | exact b14 (by rw [a3]; decide) | exact absurd a3 (by decide)
                                     · first | exact b14 (by rw [a3]; decide) | exact b27 (by rw [a5]; exact inI a4 (by omega))))
                             | (refine Or.inr (Or.inl ⟨j, p, hj, rfl, rfl, hp, rfl, rfl, ?_⟩)
                                (try simp only [rs_c hA, rs_c (hB _), rW_c hA, Decidable.not_not] at *)
                                first
                                  | (have h67a := i_nlt h67; simp [rHf, rTs, *]; done)
                                  | (exfalso; have h67a := i_nlt h67; simp_all; done)
                                  | (exfalso; have h67a := i_nle h67; simp_all; done)
                                  | (have h67a := i_nle h67; simp [rHf, rTs, *]; done))
                         · refine xG_run 6 rfl (by repeat' (first | exact trivial | assumption | exact xob_b rfl | exact xal_b rfl | (apply And.intro) | decide)) ?_
                           try dsimp only [xsto1, xsto2, xkill, xget, xset, gd_0, gd_s]
                           try rw [hj1]
                           refine xG_c2 2 rfl (by repeat' (first | exact trivial | assumption | exact xob_b rfl | exact xal_b rfl | (apply And.intro) | decide)) rfl rfl (by decide) cw_X12_of (d' := d - 1) (e_of (p := p) (k := 5) rfl rfl (by omega)) (by omega) ?_
                           rintro v M' ⟨rfl, hM⟩
                           subst M'
                           dsimp only [Option.toList, List.cons_append, List.nil_append]
                           refine xG_run 4 rfl (by repeat' (first | exact trivial | assumption | exact xob_b rfl | exact xal_b rfl | (apply And.intro) | decide)) ?_
                           try dsimp only [xsto1, xsto2, xkill, xget, xset, gd_0, gd_s]
                           try rw [hj1]
                           refine r2_i rfl rfl ?_
                           first
                             | exact Or.inl ⟨j, hj, rfl, rfl, rfl, rfl⟩
                             | (refine Or.inr (Or.inr ⟨?_, rfl, rfl⟩)
                                rintro ⟨⟨j9, a1, a2⟩, a3⟩
                                first
                                  | exact no8 b4 ⟨j9, a1, a2⟩
                                  | (rcases a3 with a3 | ⟨a3, p9, a4, a5⟩
                                     · first | exact b14 (by rw [a3]; decide) | exact absurd a3 (by decide)
                                     · first | exact b14 (by rw [a3]; decide) | exact b27 (by rw [a5]; exact inI a4 (by omega))))
                             | (refine Or.inr (Or.inl ⟨j, p, hj, rfl, rfl, hp, rfl, rfl, ?_⟩)
                                (try simp only [rs_c hA, rs_c (hB _), rW_c hA, Decidable.not_not] at *)
                                first
                                  | (have h67a := i_nlt h67; simp [rHf, rTs, *]; done)
                                  | (exfalso; have h67a := i_nlt h67; simp_all; done)
                                  | (exfalso; have h67a := i_nle h67; simp_all; done)
                                  | (have h67a := i_nle h67; simp [rHf, rTs, *]; done))
                       · refine xG_run 3 rfl (by repeat' (first | exact trivial | assumption | exact xob_b rfl | exact xal_b rfl | (apply And.intro) | decide)) ?_
                         try dsimp only [xsto1, xsto2, xkill, xget, xset, gd_0, gd_s]
                         try rw [hj1]
                         refine xG_c2 2 rfl (by repeat' (first | exact trivial | assumption | exact xob_b rfl | exact xal_b rfl | (apply And.intro) | decide)) rfl rfl (by decide) cw_X12_of (d' := d - 1) (e_of (p := p) (k := 5) rfl rfl (by omega)) (by omega) ?_
                         rintro v M' ⟨rfl, hM⟩
                         subst M'
                         dsimp only [Option.toList, List.cons_append, List.nil_append]
                         refine xG_br rfl (fun h145 => ?_) (fun h145 => ?_)
                         · refine xG_run 2 rfl (by repeat' (first | exact trivial | assumption | exact xob_b rfl | exact xal_b rfl | (apply And.intro) | decide)) ?_
                           try dsimp only [xsto1, xsto2, xkill, xget, xset, gd_0, gd_s]
                           try rw [hj1]
                           refine xG_br rfl (fun h156 => ?_) (fun h156 => ?_)
                           · refine xG_run 3 rfl (by repeat' (first | exact trivial | assumption | exact xob_b rfl | exact xal_b rfl | (apply And.intro) | decide)) ?_
                             try dsimp only [xsto1, xsto2, xkill, xget, xset, gd_0, gd_s]
                             try rw [hj1]
                             refine r2_i rfl rfl ?_
                             first
                               | exact Or.inl ⟨j, hj, rfl, rfl, rfl, rfl⟩
                               | (refine Or.inr (Or.inr ⟨?_, rfl, rfl⟩)
                                  rintro ⟨⟨j9, a1, a2⟩, a3⟩
                                  first
                                    | exact no8 b4 ⟨j9, a1, a2⟩
                                    | (rcases a3 with a3 | ⟨a3, p9, a4, a5⟩
                                       · first | exact b14 (by rw [a3]; decide) | exact absurd a3 (by decide)
                                       · first | exact b14 (by rw [a3]; decide) | exact b27 (by rw [a5]; exact inI a4 (by omega))))
                               | (refine Or.inr (Or.inl ⟨j, p, hj, rfl, rfl, hp, rfl, rfl, ?_⟩)
                                  (try simp only [rs_c hA, rs_c (hB _), rW_c hA, Decidable.not_not] at *)
                                  first
                                    | (have h67a := i_nlt h67; simp [rHf, rTs, *]; done)
                                    | (exfalso; have h67a := i_nlt h67; simp_all; done)
                                    | (exfalso; have h67a := i_nle h67; simp_all; done)
                                    | (have h67a := i_nle h67; simp [rHf, rTs, *]; done))
                           · refine xG_run 6 rfl (by repeat' (first | exact trivial | assumption | exact xob_b rfl | exact xal_b rfl | (apply And.intro) | decide)) ?_
                             try dsimp only [xsto1, xsto2, xkill, xget, xset, gd_0, gd_s]
                             try rw [hj1]
                             refine xG_c2 2 rfl (by repeat' (first | exact trivial | assumption | exact xob_b rfl | exact xal_b rfl | (apply And.intro) | decide)) rfl rfl (by decide) cw_X12_of (d' := d - 1) (e_of (p := p) (k := 5) rfl rfl (by omega)) (by omega) ?_
                             rintro v M' ⟨rfl, hM⟩
                             subst M'
                             dsimp only [Option.toList, List.cons_append, List.nil_append]
                             refine xG_run 4 rfl (by repeat' (first | exact trivial | assumption | exact xob_b rfl | exact xal_b rfl | (apply And.intro) | decide)) ?_
                             try dsimp only [xsto1, xsto2, xkill, xget, xset, gd_0, gd_s]
                             try rw [hj1]
                             refine r2_i rfl rfl ?_
                             first
                               | exact Or.inl ⟨j, hj, rfl, rfl, rfl, rfl⟩
                               | (refine Or.inr (Or.inr ⟨?_, rfl, rfl⟩)
                                  rintro ⟨⟨j9, a1, a2⟩, a3⟩
                                  first
                                    | exact no8 b4 ⟨j9, a1, a2⟩
                                    | (rcases a3 with a3 | ⟨a3, p9, a4, a5⟩
                                       · first | exact b14 (by rw [a3]; decide) | exact absurd a3 (by decide)
                                       · first | exact b14 (by rw [a3]; decide) | exact b27 (by rw [a5]; exact inI a4 (by omega))))
                               | (refine Or.inr (Or.inl ⟨j, p, hj, rfl, rfl, hp, rfl, rfl, ?_⟩)
                                  (try simp only [rs_c hA, rs_c (hB _), rW_c hA, Decidable.not_not] at *)
                                  first
                                    | (have h67a := i_nlt h67; simp [rHf, rTs, *]; done)
                                    | (exfalso; have h67a := i_nlt h67; simp_all; done)
                                    | (exfalso; have h67a := i_nle h67; simp_all; done)
                                    | (have h67a := i_nle h67; simp [rHf, rTs, *]; done))
                         · refine xG_run 4 rfl (by repeat' (first | exact trivial | assumption | exact xob_b rfl | exact xal_b rfl | (apply And.intro) | decide)) ?_
                           try dsimp only [xsto1, xsto2, xkill, xget, xset, gd_0, gd_s]
                           try rw [hj1]
                           refine r2_i rfl rfl ?_
                           first
                             | exact Or.inl ⟨j, hj, rfl, rfl, rfl, rfl⟩
                             | (refine Or.inr (Or.inr ⟨?_, rfl, rfl⟩)
                                rintro ⟨⟨j9, a1, a2⟩, a3⟩
                                first
                                  | exact no8 b4 ⟨j9, a1, a2⟩
                                  | (rcases a3 with a3 | ⟨a3, p9, a4, a5⟩
                                     · first | exact b14 (by rw [a3]; decide) | exact absurd a3 (by decide)
                                     · first | exact b14 (by rw [a3]; decide) | exact b27 (by rw [a5]; exact inI a4 (by omega))))
                             | (refine Or.inr (Or.inl ⟨j, p, hj, rfl, rfl, hp, rfl, rfl, ?_⟩)
                                (try simp only [rs_c hA, rs_c (hB _), rW_c hA, Decidable.not_not] at *)
                                first
                                  | (have h67a := i_nlt h67; simp [rHf, rTs, *]; done)
                                  | (exfalso; have h67a := i_nlt h67; simp_all; done)
                                  | (exfalso; have h67a := i_nle h67; simp_all; done)
                                  | (have h67a := i_nle h67; simp [rHf, rTs, *]; done))
                 · refine xG_run 8 rfl (by repeat' (first | exact trivial | assumption | exact xob_b rfl | exact xal_b rfl | (apply And.intro) | decide)) ?_
                   try dsimp only [xsto1, xsto2, xkill, xget, xset, gd_0, gd_s]
                   try rw [hj1]
                   refine xG_run 2 rfl (by repeat' (first | exact trivial | assumption | exact xob_b rfl | exact xal_b rfl | (apply And.intro) | decide)) ?_
                   try dsimp only [xsto1, xsto2, xkill, xget, xset, gd_0, gd_s]
                   try rw [hj1]
                   refine xG_br rfl (fun h130 => ?_) (fun h130 => ?_)
                   · refine xG_run 4 rfl (by repeat' (first | exact trivial | assumption | exact xob_b rfl | exact xal_b rfl | (apply And.intro) | decide)) ?_
                     try dsimp only [xsto1, xsto2, xkill, xget, xset, gd_0, gd_s]
                     try rw [hj1]
                     refine r2_i rfl rfl ?_
                     first
                       | exact Or.inl ⟨j, hj, rfl, rfl, rfl, rfl⟩
                       | (refine Or.inr (Or.inr ⟨?_, rfl, rfl⟩)
                          rintro ⟨⟨j9, a1, a2⟩, a3⟩
                          first
                            | exact no8 b4 ⟨j9, a1, a2⟩
                            | (rcases a3 with a3 | ⟨a3, p9, a4, a5⟩
                               · first | exact b14 (by rw [a3]; decide) | exact absurd a3 (by decide)
                               · first | exact b14 (by rw [a3]; decide) | exact b27 (by rw [a5]; exact inI a4 (by omega))))
                       | (refine Or.inr (Or.inl ⟨j, p, hj, rfl, rfl, hp, rfl, rfl, ?_⟩)
                          (try simp only [rs_c hA, rs_c (hB _), rW_c hA, Decidable.not_not] at *)
                          first
                            | (have h67a := i_nlt h67; simp [rHf, rTs, *]; done)
                            | (exfalso; have h67a := i_nlt h67; simp_all; done)
                            | (exfalso; have h67a := i_nle h67; simp_all; done)
                            | (have h67a := i_nle h67; simp [rHf, rTs, *]; done))
                   · refine xG_run 2 rfl (by repeat' (first | exact trivial | assumption | exact xob_b rfl | exact xal_b rfl | (apply And.intro) | decide)) ?_
                     try dsimp only [xsto1, xsto2, xkill, xget, xset, gd_0, gd_s]
                     try rw [hj1]
                     refine xG_br rfl (fun h136 => ?_) (fun h136 => ?_)
                     · refine xG_run 2 rfl (by repeat' (first | exact trivial | assumption | exact xob_b rfl | exact xal_b rfl | (apply And.intro) | decide)) ?_
                       try dsimp only [xsto1, xsto2, xkill, xget, xset, gd_0, gd_s]
                       try rw [hj1]
                       refine xG_br rfl (fun h156 => ?_) (fun h156 => ?_)
                       · refine xG_run 3 rfl (by repeat' (first | exact trivial | assumption | exact xob_b rfl | exact xal_b rfl | (apply And.intro) | decide)) ?_
                         try dsimp only [xsto1, xsto2, xkill, xget, xset, gd_0, gd_s]
                         try rw [hj1]
                         refine r2_i rfl rfl ?_
                         first
                           | exact Or.inl ⟨j, hj, rfl, rfl, rfl, rfl⟩
                           | (refine Or.inr (Or.inr ⟨?_, rfl, rfl⟩)
                              rintro ⟨⟨j9, a1, a2⟩, a3⟩
                              first
                                | exact no8 b4 ⟨j9, a1, a2⟩
                                | (rcases a3 with a3 | ⟨a3, p9, a4, a5⟩
                                   · first | exact b14 (by rw [a3]; decide) | exact absurd a3 (by decide)
                                   · first | exact b14 (by rw [a3]; decide) | exact b27 (by rw [a5]; exact inI a4 (by omega))))
                           | (refine Or.inr (Or.inl ⟨j, p, hj, rfl, rfl, hp, rfl, rfl, ?_⟩)
                              (try simp only [rs_c hA, rs_c (hB _), rW_c hA, Decidable.not_not] at *)
                              first
                                | (have h67a := i_nlt h67; simp [rHf, rTs, *]; done)
                                | (exfalso; have h67a := i_nlt h67; simp_all; done)
                                | (exfalso; have h67a := i_nle h67; simp_all; done)
                                | (have h67a := i_nle h67; simp [rHf, rTs, *]; done))
                       · refine xG_run 6 rfl (by repeat' (first | exact trivial | assumption | exact xob_b rfl | exact xal_b rfl | (apply And.intro) | decide)) ?_
                         try dsimp only [xsto1, xsto2, xkill, xget, xset, gd_0, gd_s]
                         try rw [hj1]
                         refine xG_c2 2 rfl (by repeat' (first | exact trivial | assumption | exact xob_b rfl | exact xal_b rfl | (apply And.intro) | decide)) rfl rfl (by decide) cw_X12_of (d' := d - 1) (e_of (p := p) (k := 5) rfl rfl (by omega)) (by omega) ?_
                         rintro v M' ⟨rfl, hM⟩
                         subst M'
                         dsimp only [Option.toList, List.cons_append, List.nil_append]
                         refine xG_run 4 rfl (by repeat' (first | exact trivial | assumption | exact xob_b rfl | exact xal_b rfl | (apply And.intro) | decide)) ?_
                         try dsimp only [xsto1, xsto2, xkill, xget, xset, gd_0, gd_s]
                         try rw [hj1]
                         refine r2_i rfl rfl ?_
                         first
                           | exact Or.inl ⟨j, hj, rfl, rfl, rfl, rfl⟩
                           | (refine Or.inr (Or.inr ⟨?_, rfl, rfl⟩)
                              rintro ⟨⟨j9, a1, a2⟩, a3⟩
                              first
                                | exact no8 b4 ⟨j9, a1, a2⟩
                                | (rcases a3 with a3 | ⟨a3, p9, a4, a5⟩
                                   · first | exact b14 (by rw [a3]; decide) | exact absurd a3 (by decide)
                                   · first | exact b14 (by rw [a3]; decide) | exact b27 (by rw [a5]; exact inI a4 (by omega))))
                           | (refine Or.inr (Or.inl ⟨j, p, hj, rfl, rfl, hp, rfl, rfl, ?_⟩)
                              (try simp only [rs_c hA, rs_c (hB _), rW_c hA, Decidable.not_not] at *)
                              first
                                | (have h67a := i_nlt h67; simp [rHf, rTs, *]; done)
                                | (exfalso; have h67a := i_nlt h67; simp_all; done)
                                | (exfalso; have h67a := i_nle h67; simp_all; done)
                                | (have h67a := i_nle h67; simp [rHf, rTs, *]; done))
                     · refine xG_run 3 rfl (by repeat' (first | exact trivial | assumption | exact xob_b rfl | exact xal_b rfl | (apply And.intro) | decide)) ?_
                       try dsimp only [xsto1, xsto2, xkill, xget, xset, gd_0, gd_s]
                       try rw [hj1]
                       refine xG_c2 2 rfl (by repeat' (first | exact trivial | assumption | exact xob_b rfl | exact xal_b rfl | (apply And.intro) | decide)) rfl rfl (by decide) cw_X12_of (d' := d - 1) (e_of (p := p) (k := 5) rfl rfl (by omega)) (by omega) ?_
                       rintro v M' ⟨rfl, hM⟩
                       subst M'
                       dsimp only [Option.toList, List.cons_append, List.nil_append]
                       refine xG_br rfl (fun h145 => ?_) (fun h145 => ?_)
                       · refine xG_run 2 rfl (by repeat' (first | exact trivial | assumption | exact xob_b rfl | exact xal_b rfl | (apply And.intro) | decide)) ?_
                         try dsimp only [xsto1, xsto2, xkill, xget, xset, gd_0, gd_s]
                         try rw [hj1]
                         refine xG_br rfl (fun h156 => ?_) (fun h156 => ?_)
                         · refine xG_run 3 rfl (by repeat' (first | exact trivial | assumption | exact xob_b rfl | exact xal_b rfl | (apply And.intro) | decide)) ?_
                           try dsimp only [xsto1, xsto2, xkill, xget, xset, gd_0, gd_s]
                           try rw [hj1]
                           refine r2_i rfl rfl ?_
                           first
                             | exact Or.inl ⟨j, hj, rfl, rfl, rfl, rfl⟩
                             | (refine Or.inr (Or.inr ⟨?_, rfl, rfl⟩)
                                rintro ⟨⟨j9, a1, a2⟩, a3⟩
                                first
                                  | exact no8 b4 ⟨j9, a1, a2⟩
                                  | (rcases a3 with a3 | ⟨a3, p9, a4, a5⟩
                                     · first | exact b14 (by rw [a3]; decide) | exact absurd a3 (by decide)
                                     · first | exact b14 (by rw [a3]; decide) | exact b27 (by rw [a5]; exact inI a4 (by omega))))
                             | (refine Or.inr (Or.inl ⟨j, p, hj, rfl, rfl, hp, rfl, rfl, ?_⟩)
                                (try simp only [rs_c hA, rs_c (hB _), rW_c hA, Decidable.not_not] at *)
                                first
                                  | (have h67a := i_nlt h67; simp [rHf, rTs, *]; done)
                                  | (exfalso; have h67a := i_nlt h67; simp_all; done)
                                  | (exfalso; have h67a := i_nle h67; simp_all; done)
                                  | (have h67a := i_nle h67; simp [rHf, rTs, *]; done))
                         · refine xG_run 6 rfl (by repeat' (first | exact trivial | assumption | exact xob_b rfl | exact xal_b rfl | (apply And.intro) | decide)) ?_
                           try dsimp only [xsto1, xsto2, xkill, xget, xset, gd_0, gd_s]
                           try rw [hj1]
                           refine xG_c2 2 rfl (by repeat' (first | exact trivial | assumption | exact xob_b rfl | exact xal_b rfl | (apply And.intro) | decide)) rfl rfl (by decide) cw_X12_of (d' := d - 1) (e_of (p := p) (k := 5) rfl rfl (by omega)) (by omega) ?_
                           rintro v M' ⟨rfl, hM⟩
                           subst M'
                           dsimp only [Option.toList, List.cons_append, List.nil_append]
                           refine xG_run 4 rfl (by repeat' (first | exact trivial | assumption | exact xob_b rfl | exact xal_b rfl | (apply And.intro) | decide)) ?_
                           try dsimp only [xsto1, xsto2, xkill, xget, xset, gd_0, gd_s]
                           try rw [hj1]
                           refine r2_i rfl rfl ?_
                           first
                             | exact Or.inl ⟨j, hj, rfl, rfl, rfl, rfl⟩
                             | (refine Or.inr (Or.inr ⟨?_, rfl, rfl⟩)
                                rintro ⟨⟨j9, a1, a2⟩, a3⟩
                                first
                                  | exact no8 b4 ⟨j9, a1, a2⟩
                                  | (rcases a3 with a3 | ⟨a3, p9, a4, a5⟩
                                     · first | exact b14 (by rw [a3]; decide) | exact absurd a3 (by decide)
                                     · first | exact b14 (by rw [a3]; decide) | exact b27 (by rw [a5]; exact inI a4 (by omega))))
                             | (refine Or.inr (Or.inl ⟨j, p, hj, rfl, rfl, hp, rfl, rfl, ?_⟩)
                                (try simp only [rs_c hA, rs_c (hB _), rW_c hA, Decidable.not_not] at *)
                                first
                                  | (have h67a := i_nlt h67; simp [rHf, rTs, *]; done)
                                  | (exfalso; have h67a := i_nlt h67; simp_all; done)
                                  | (exfalso; have h67a := i_nle h67; simp_all; done)
                                  | (have h67a := i_nle h67; simp [rHf, rTs, *]; done))
                       · refine xG_run 4 rfl (by repeat' (first | exact trivial | assumption | exact xob_b rfl | exact xal_b rfl | (apply And.intro) | decide)) ?_
                         try dsimp only [xsto1, xsto2, xkill, xget, xset, gd_0, gd_s]
                         try rw [hj1]
                         refine r2_i rfl rfl ?_
                         first
                           | exact Or.inl ⟨j, hj, rfl, rfl, rfl, rfl⟩
                           | (refine Or.inr (Or.inr ⟨?_, rfl, rfl⟩)
                              rintro ⟨⟨j9, a1, a2⟩, a3⟩
                              first
                                | exact no8 b4 ⟨j9, a1, a2⟩
                                | (rcases a3 with a3 | ⟨a3, p9, a4, a5⟩
                                   · first | exact b14 (by rw [a3]; decide) | exact absurd a3 (by decide)
                                   · first | exact b14 (by rw [a3]; decide) | exact b27 (by rw [a5]; exact inI a4 (by omega))))
                           | (refine Or.inr (Or.inl ⟨j, p, hj, rfl, rfl, hp, rfl, rfl, ?_⟩)
                              (try simp only [rs_c hA, rs_c (hB _), rW_c hA, Decidable.not_not] at *)
                              first
                                | (have h67a := i_nlt h67; simp [rHf, rTs, *]; done)
                                | (exfalso; have h67a := i_nlt h67; simp_all; done)
                                | (exfalso; have h67a := i_nle h67; simp_all; done)
                                | (have h67a := i_nle h67; simp [rHf, rTs, *]; done))
               · refine xG_run 3 rfl (by repeat' (first | exact trivial | assumption | exact xob_b rfl | exact xal_b rfl | (apply And.intro) | decide)) ?_
                 try dsimp only [xsto1, xsto2, xkill, xget, xset, gd_0, gd_s]
                 try rw [hj1]
                 refine xG_c2 2 rfl (by repeat' (first | exact trivial | assumption | exact xob_b rfl | exact xal_b rfl | (apply And.intro) | decide)) rfl rfl (by decide) cw_X12_of (d' := d - 1) (e_of (p := p) (k := 3) rfl rfl (by omega)) (by omega) ?_
                 rintro v M' ⟨rfl, hM⟩
                 subst M'
                 dsimp only [Option.toList, List.cons_append, List.nil_append]
                 refine xG_run 8 rfl (by repeat' (first | exact trivial | assumption | exact xob_b rfl | exact xal_b rfl | (apply And.intro) | decide)) ?_
                 try dsimp only [xsto1, xsto2, xkill, xget, xset, gd_0, gd_s]
                 try rw [hj1]
                 refine xG_br rfl (fun h91 => ?_) (fun h91 => ?_)
                 · refine xG_run 2 rfl (by repeat' (first | exact trivial | assumption | exact xob_b rfl | exact xal_b rfl | (apply And.intro) | decide)) ?_
                   try dsimp only [xsto1, xsto2, xkill, xget, xset, gd_0, gd_s]
                   try rw [hj1]
                   refine xG_br rfl (fun h104 => ?_) (fun h104 => ?_)
                   · refine xG_run 7 rfl (by repeat' (first | exact trivial | assumption | exact xob_b rfl | exact xal_b rfl | (apply And.intro) | decide)) ?_
                     try dsimp only [xsto1, xsto2, xkill, xget, xset, gd_0, gd_s]
                     try rw [hj1]
                     refine xG_br rfl (fun h130 => ?_) (fun h130 => ?_)
                     · refine xG_run 4 rfl (by repeat' (first | exact trivial | assumption | exact xob_b rfl | exact xal_b rfl | (apply And.intro) | decide)) ?_
                       try dsimp only [xsto1, xsto2, xkill, xget, xset, gd_0, gd_s]
                       try rw [hj1]
                       refine r2_i rfl rfl ?_
                       first
                         | exact Or.inl ⟨j, hj, rfl, rfl, rfl, rfl⟩
                         | (refine Or.inr (Or.inr ⟨?_, rfl, rfl⟩)
                            rintro ⟨⟨j9, a1, a2⟩, a3⟩
                            first
                              | exact no8 b4 ⟨j9, a1, a2⟩
                              | (rcases a3 with a3 | ⟨a3, p9, a4, a5⟩
                                 · first | exact b14 (by rw [a3]; decide) | exact absurd a3 (by decide)
                                 · first | exact b14 (by rw [a3]; decide) | exact b27 (by rw [a5]; exact inI a4 (by omega))))
                         | (refine Or.inr (Or.inl ⟨j, p, hj, rfl, rfl, hp, rfl, rfl, ?_⟩)
                            (try simp only [rs_c hA, rs_c (hB _), rW_c hA, Decidable.not_not] at *)
                            first
                              | (have h67a := i_nlt h67; simp [rHf, rTs, *]; done)
                              | (exfalso; have h67a := i_nlt h67; simp_all; done)
                              | (exfalso; have h67a := i_nle h67; simp_all; done)
                              | (have h67a := i_nle h67; simp [rHf, rTs, *]; done))
                     · refine xG_run 2 rfl (by repeat' (first | exact trivial | assumption | exact xob_b rfl | exact xal_b rfl | (apply And.intro) | decide)) ?_
                       try dsimp only [xsto1, xsto2, xkill, xget, xset, gd_0, gd_s]
                       try rw [hj1]
                       refine xG_br rfl (fun h136 => ?_) (fun h136 => ?_)
                       · refine xG_run 2 rfl (by repeat' (first | exact trivial | assumption | exact xob_b rfl | exact xal_b rfl | (apply And.intro) | decide)) ?_
                         try dsimp only [xsto1, xsto2, xkill, xget, xset, gd_0, gd_s]
                         try rw [hj1]
                         refine xG_br rfl (fun h156 => ?_) (fun h156 => ?_)
                         · refine xG_run 3 rfl (by repeat' (first | exact trivial | assumption | exact xob_b rfl | exact xal_b rfl | (apply And.intro) | decide)) ?_
                           try dsimp only [xsto1, xsto2, xkill, xget, xset, gd_0, gd_s]
                           try rw [hj1]
                           refine r2_i rfl rfl ?_
                           first
                             | exact Or.inl ⟨j, hj, rfl, rfl, rfl, rfl⟩
                             | (refine Or.inr (Or.inr ⟨?_, rfl, rfl⟩)
                                rintro ⟨⟨j9, a1, a2⟩, a3⟩
                                first
                                  | exact no8 b4 ⟨j9, a1, a2⟩
                                  | (rcases a3 with a3 | ⟨a3, p9, a4, a5⟩
                                     · first | exact b14 (by rw [a3]; decide) | exact absurd a3 (by decide)
                                     · first | exact b14 (by rw [a3]; decide) | exact b27 (by rw [a5]; exact inI a4 (by omega))))
                             | (refine Or.inr (Or.inl ⟨j, p, hj, rfl, rfl, hp, rfl, rfl, ?_⟩)
                                (try simp only [rs_c hA, rs_c (hB _), rW_c hA, Decidable.not_not] at *)
                                first
                                  | (have h67a := i_nlt h67; simp [rHf, rTs, *]; done)
                                  | (exfalso; have h67a := i_nlt h67; simp_all; done)
                                  | (exfalso; have h67a := i_nle h67; simp_all; done)
                                  | (have h67a := i_nle h67; simp [rHf, rTs, *]; done))
                         · refine xG_run 6 rfl (by repeat' (first | exact trivial | assumption | exact xob_b rfl | exact xal_b rfl | (apply And.intro) | decide)) ?_
                           try dsimp only [xsto1, xsto2, xkill, xget, xset, gd_0, gd_s]
                           try rw [hj1]
                           refine xG_c2 2 rfl (by repeat' (first | exact trivial | assumption | exact xob_b rfl | exact xal_b rfl | (apply And.intro) | decide)) rfl rfl (by decide) cw_X12_of (d' := d - 1) (e_of (p := p) (k := 5) rfl rfl (by omega)) (by omega) ?_
                           rintro v M' ⟨rfl, hM⟩
                           subst M'
                           dsimp only [Option.toList, List.cons_append, List.nil_append]
                           refine xG_run 4 rfl (by repeat' (first | exact trivial | assumption | exact xob_b rfl | exact xal_b rfl | (apply And.intro) | decide)) ?_
                           try dsimp only [xsto1, xsto2, xkill, xget, xset, gd_0, gd_s]
                           try rw [hj1]
                           refine r2_i rfl rfl ?_
                           first
                             | exact Or.inl ⟨j, hj, rfl, rfl, rfl, rfl⟩
                             | (refine Or.inr (Or.inr ⟨?_, rfl, rfl⟩)
                                rintro ⟨⟨j9, a1, a2⟩, a3⟩
                                first
                                  | exact no8 b4 ⟨j9, a1, a2⟩
                                  | (rcases a3 with a3 | ⟨a3, p9, a4, a5⟩
                                     · first | exact b14 (by rw [a3]; decide) | exact absurd a3 (by decide)
                                     · first | exact b14 (by rw [a3]; decide) | exact b27 (by rw [a5]; exact inI a4 (by omega))))
                             | (refine Or.inr (Or.inl ⟨j, p, hj, rfl, rfl, hp, rfl, rfl, ?_⟩)
                                (try simp only [rs_c hA, rs_c (hB _), rW_c hA, Decidable.not_not] at *)
                                first
                                  | (have h67a := i_nlt h67; simp [rHf, rTs, *]; done)
                                  | (exfalso; have h67a := i_nlt h67; simp_all; done)
                                  | (exfalso; have h67a := i_nle h67; simp_all; done)
                                  | (have h67a := i_nle h67; simp [rHf, rTs, *]; done))
                       · refine xG_run 3 rfl (by repeat' (first | exact trivial | assumption | exact xob_b rfl | exact xal_b rfl | (apply And.intro) | decide)) ?_
                         try dsimp only [xsto1, xsto2, xkill, xget, xset, gd_0, gd_s]
                         try rw [hj1]
                         refine xG_c2 2 rfl (by repeat' (first | exact trivial | assumption | exact xob_b rfl | exact xal_b rfl | (apply And.intro) | decide)) rfl rfl (by decide) cw_X12_of (d' := d - 1) (e_of (p := p) (k := 5) rfl rfl (by omega)) (by omega) ?_
                         rintro v M' ⟨rfl, hM⟩
                         subst M'
                         dsimp only [Option.toList, List.cons_append, List.nil_append]
                         refine xG_br rfl (fun h145 => ?_) (fun h145 => ?_)
                         · refine xG_run 2 rfl (by repeat' (first | exact trivial | assumption | exact xob_b rfl | exact xal_b rfl | (apply And.intro) | decide)) ?_
                           try dsimp only [xsto1, xsto2, xkill, xget, xset, gd_0, gd_s]
                           try rw [hj1]
                           refine xG_br rfl (fun h156 => ?_) (fun h156 => ?_)
                           · refine xG_run 3 rfl (by repeat' (first | exact trivial | assumption | exact xob_b rfl | exact xal_b rfl | (apply And.intro) | decide)) ?_
                             try dsimp only [xsto1, xsto2, xkill, xget, xset, gd_0, gd_s]
                             try rw [hj1]
                             refine r2_i rfl rfl ?_
                             first
                               | exact Or.inl ⟨j, hj, rfl, rfl, rfl, rfl⟩
                               | (refine Or.inr (Or.inr ⟨?_, rfl, rfl⟩)
                                  rintro ⟨⟨j9, a1, a2⟩, a3⟩
                                  first
                                    | exact no8 b4 ⟨j9, a1, a2⟩
                                    | (rcases a3 with a3 | ⟨a3, p9, a4, a5⟩
                                       · first | exact b14 (by rw [a3]; decide) | exact absurd a3 (by decide)
                                       · first | exact b14 (by rw [a3]; decide) | exact b27 (by rw [a5]; exact inI a4 (by omega))))
                               | (refine Or.inr (Or.inl ⟨j, p, hj, rfl, rfl, hp, rfl, rfl, ?_⟩)
                                  (try simp only [rs_c hA, rs_c (hB _), rW_c hA, Decidable.not_not] at *)
                                  first
                                    | (have h67a := i_nlt h67; simp [rHf, rTs, *]; done)
                                    | (exfalso; have h67a := i_nlt h67; simp_all; done)
                                    | (exfalso; have h67a := i_nle h67; simp_all; done)
                                    | (have h67a := i_nle h67; simp [rHf, rTs, *]; done))
                           · refine xG_run 6 rfl (by repeat' (first | exact trivial | assumption | exact xob_b rfl | exact xal_b rfl | (apply And.intro) | decide)) ?_
                             try dsimp only [xsto1, xsto2, xkill, xget, xset, gd_0, gd_s]
                             try rw [hj1]
                             refine xG_c2 2 rfl (by repeat' (first | exact trivial | assumption | exact xob_b rfl | exact xal_b rfl | (apply And.intro) | decide)) rfl rfl (by decide) cw_X12_of (d' := d - 1) (e_of (p := p) (k := 5) rfl rfl (by omega)) (by omega) ?_
                             rintro v M' ⟨rfl, hM⟩
                             subst M'
                             dsimp only [Option.toList, List.cons_append, List.nil_append]
                             refine xG_run 4 rfl (by repeat' (first | exact trivial | assumption | exact xob_b rfl | exact xal_b rfl | (apply And.intro) | decide)) ?_
                             try dsimp only [xsto1, xsto2, xkill, xget, xset, gd_0, gd_s]
                             try rw [hj1]
                             refine r2_i rfl rfl ?_
                             first
                               | exact Or.inl ⟨j, hj, rfl, rfl, rfl, rfl⟩
                               | (refine Or.inr (Or.inr ⟨?_, rfl, rfl⟩)
                                  rintro ⟨⟨j9, a1, a2⟩, a3⟩
                                  first
                                    | exact no8 b4 ⟨j9, a1, a2⟩
                                    | (rcases a3 with a3 | ⟨a3, p9, a4, a5⟩
                                       · first | exact b14 (by rw [a3]; decide) | exact absurd a3 (by decide)
                                       · first | exact b14 (by rw [a3]; decide) | exact b27 (by rw [a5]; exact inI a4 (by omega))))
                               | (refine Or.inr (Or.inl ⟨j, p, hj, rfl, rfl, hp, rfl, rfl, ?_⟩)
                                  (try simp only [rs_c hA, rs_c (hB _), rW_c hA, Decidable.not_not] at *)
                                  first
                                    | (have h67a := i_nlt h67; simp [rHf, rTs, *]; done)
                                    | (exfalso; have h67a := i_nlt h67; simp_all; done)
                                    | (exfalso; have h67a := i_nle h67; simp_all; done)
                                    | (have h67a := i_nle h67; simp [rHf, rTs, *]; done))
                         · refine xG_run 4 rfl (by repeat' (first | exact trivial | assumption | exact xob_b rfl | exact xal_b rfl | (apply And.intro) | decide)) ?_
                           try dsimp only [xsto1, xsto2, xkill, xget, xset, gd_0, gd_s]
                           try rw [hj1]
                           refine r2_i rfl rfl ?_
                           first
                             | exact Or.inl ⟨j, hj, rfl, rfl, rfl, rfl⟩
                             | (refine Or.inr (Or.inr ⟨?_, rfl, rfl⟩)
                                rintro ⟨⟨j9, a1, a2⟩, a3⟩
                                first
                                  | exact no8 b4 ⟨j9, a1, a2⟩
                                  | (rcases a3 with a3 | ⟨a3, p9, a4, a5⟩
                                     · first | exact b14 (by rw [a3]; decide) | exact absurd a3 (by decide)
                                     · first | exact b14 (by rw [a3]; decide) | exact b27 (by rw [a5]; exact inI a4 (by omega))))
                             | (refine Or.inr (Or.inl ⟨j, p, hj, rfl, rfl, hp, rfl, rfl, ?_⟩)
                                (try simp only [rs_c hA, rs_c (hB _), rW_c hA, Decidable.not_not] at *)
                                first
                                  | (have h67a := i_nlt h67; simp [rHf, rTs, *]; done)
                                  | (exfalso; have h67a := i_nlt h67; simp_all; done)
                                  | (exfalso; have h67a := i_nle h67; simp_all; done)
                                  | (have h67a := i_nle h67; simp [rHf, rTs, *]; done))
                   · refine xG_run 4 rfl (by repeat' (first | exact trivial | assumption | exact xob_b rfl | exact xal_b rfl | (apply And.intro) | decide)) ?_
                     try dsimp only [xsto1, xsto2, xkill, xget, xset, gd_0, gd_s]
                     try rw [hj1]
                     refine xG_c2 2 rfl (by repeat' (first | exact trivial | assumption | exact xob_b rfl | exact xal_b rfl | (apply And.intro) | decide)) rfl rfl (by decide) cw_X12_of (d' := d - 1) (e_of (p := p) (k := 4) rfl rfl (by omega)) (by omega) ?_
                     rintro v M' ⟨rfl, hM⟩
                     subst M'
                     dsimp only [Option.toList, List.cons_append, List.nil_append]
                     refine xG_run 8 rfl (by repeat' (first | exact trivial | assumption | exact xob_b rfl | exact xal_b rfl | (apply And.intro) | decide)) ?_
                     try dsimp only [xsto1, xsto2, xkill, xget, xset, gd_0, gd_s]
                     try rw [hj1]
                     refine xG_br rfl (fun h130 => ?_) (fun h130 => ?_)
                     · refine xG_run 4 rfl (by repeat' (first | exact trivial | assumption | exact xob_b rfl | exact xal_b rfl | (apply And.intro) | decide)) ?_
                       try dsimp only [xsto1, xsto2, xkill, xget, xset, gd_0, gd_s]
                       try rw [hj1]
                       refine r2_i rfl rfl ?_
                       first
                         | exact Or.inl ⟨j, hj, rfl, rfl, rfl, rfl⟩
                         | (refine Or.inr (Or.inr ⟨?_, rfl, rfl⟩)
                            rintro ⟨⟨j9, a1, a2⟩, a3⟩
                            first
                              | exact no8 b4 ⟨j9, a1, a2⟩
                              | (rcases a3 with a3 | ⟨a3, p9, a4, a5⟩
                                 · first | exact b14 (by rw [a3]; decide) | exact absurd a3 (by decide)
                                 · first | exact b14 (by rw [a3]; decide) | exact b27 (by rw [a5]; exact inI a4 (by omega))))
                         | (refine Or.inr (Or.inl ⟨j, p, hj, rfl, rfl, hp, rfl, rfl, ?_⟩)
                            (try simp only [rs_c hA, rs_c (hB _), rW_c hA, Decidable.not_not] at *)
                            first
                              | (have h67a := i_nlt h67; simp [rHf, rTs, *]; done)
                              | (exfalso; have h67a := i_nlt h67; simp_all; done)
                              | (exfalso; have h67a := i_nle h67; simp_all; done)
                              | (have h67a := i_nle h67; simp [rHf, rTs, *]; done))
                     · refine xG_run 2 rfl (by repeat' (first | exact trivial | assumption | exact xob_b rfl | exact xal_b rfl | (apply And.intro) | decide)) ?_
                       try dsimp only [xsto1, xsto2, xkill, xget, xset, gd_0, gd_s]
                       try rw [hj1]
                       refine xG_br rfl (fun h136 => ?_) (fun h136 => ?_)
                       · refine xG_run 2 rfl (by repeat' (first | exact trivial | assumption | exact xob_b rfl | exact xal_b rfl | (apply And.intro) | decide)) ?_
                         try dsimp only [xsto1, xsto2, xkill, xget, xset, gd_0, gd_s]
                         try rw [hj1]
                         refine xG_br rfl (fun h156 => ?_) (fun h156 => ?_)
                         · refine xG_run 3 rfl (by repeat' (first | exact trivial | assumption | exact xob_b rfl | exact xal_b rfl | (apply And.intro) | decide)) ?_
                           try dsimp only [xsto1, xsto2, xkill, xget, xset, gd_0, gd_s]
                           try rw [hj1]
                           refine r2_i rfl rfl ?_
                           first
                             | exact Or.inl ⟨j, hj, rfl, rfl, rfl, rfl⟩
                             | (refine Or.inr (Or.inr ⟨?_, rfl, rfl⟩)
                                rintro ⟨⟨j9, a1, a2⟩, a3⟩
                                first
                                  | exact no8 b4 ⟨j9, a1, a2⟩
                                  | (rcases a3 with a3 | ⟨a3, p9, a4, a5⟩
                                     · first | exact b14 (by rw [a3]; decide) | exact absurd a3 (by decide)
                                     · first | exact b14 (by rw [a3]; decide) | exact b27 (by rw [a5]; exact inI a4 (by omega))))
                             | (refine Or.inr (Or.inl ⟨j, p, hj, rfl, rfl, hp, rfl, rfl, ?_⟩)
                                (try simp only [rs_c hA, rs_c (hB _), rW_c hA, Decidable.not_not] at *)
                                first
                                  | (have h67a := i_nlt h67; simp [rHf, rTs, *]; done)
                                  | (exfalso; have h67a := i_nlt h67; simp_all; done)
                                  | (exfalso; have h67a := i_nle h67; simp_all; done)
                                  | (have h67a := i_nle h67; simp [rHf, rTs, *]; done))
                         · refine xG_run 6 rfl (by repeat' (first | exact trivial | assumption | exact xob_b rfl | exact xal_b rfl | (apply And.intro) | decide)) ?_
                           try dsimp only [xsto1, xsto2, xkill, xget, xset, gd_0, gd_s]
                           try rw [hj1]
                           refine xG_c2 2 rfl (by repeat' (first | exact trivial | assumption | exact xob_b rfl | exact xal_b rfl | (apply And.intro) | decide)) rfl rfl (by decide) cw_X12_of (d' := d - 1) (e_of (p := p) (k := 5) rfl rfl (by omega)) (by omega) ?_
                           rintro v M' ⟨rfl, hM⟩
                           subst M'
                           dsimp only [Option.toList, List.cons_append, List.nil_append]
                           refine xG_run 4 rfl (by repeat' (first | exact trivial | assumption | exact xob_b rfl | exact xal_b rfl | (apply And.intro) | decide)) ?_
                           try dsimp only [xsto1, xsto2, xkill, xget, xset, gd_0, gd_s]
                           try rw [hj1]
                           refine r2_i rfl rfl ?_
                           first
                             | exact Or.inl ⟨j, hj, rfl, rfl, rfl, rfl⟩
                             | (refine Or.inr (Or.inr ⟨?_, rfl, rfl⟩)
                                rintro ⟨⟨j9, a1, a2⟩, a3⟩
                                first
                                  | exact no8 b4 ⟨j9, a1, a2⟩
                                  | (rcases a3 with a3 | ⟨a3, p9, a4, a5⟩
                                     · first | exact b14 (by rw [a3]; decide) | exact absurd a3 (by decide)
                                     · first | exact b14 (by rw [a3]; decide) | exact b27 (by rw [a5]; exact inI a4 (by omega))))
                             | (refine Or.inr (Or.inl ⟨j, p, hj, rfl, rfl, hp, rfl, rfl, ?_⟩)
                                (try simp only [rs_c hA, rs_c (hB _), rW_c hA, Decidable.not_not] at *)
                                first
                                  | (have h67a := i_nlt h67; simp [rHf, rTs, *]; done)
                                  | (exfalso; have h67a := i_nlt h67; simp_all; done)
                                  | (exfalso; have h67a := i_nle h67; simp_all; done)
                                  | (have h67a := i_nle h67; simp [rHf, rTs, *]; done))
                       · refine xG_run 3 rfl (by repeat' (first | exact trivial | assumption | exact xob_b rfl | exact xal_b rfl | (apply And.intro) | decide)) ?_
                         try dsimp only [xsto1, xsto2, xkill, xget, xset, gd_0, gd_s]
                         try rw [hj1]
                         refine xG_c2 2 rfl (by repeat' (first | exact trivial | assumption | exact xob_b rfl | exact xal_b rfl | (apply And.intro) | decide)) rfl rfl (by decide) cw_X12_of (d' := d - 1) (e_of (p := p) (k := 5) rfl rfl (by omega)) (by omega) ?_
                         rintro v M' ⟨rfl, hM⟩
                         subst M'
                         dsimp only [Option.toList, List.cons_append, List.nil_append]
                         refine xG_br rfl (fun h145 => ?_) (fun h145 => ?_)
                         · refine xG_run 2 rfl (by repeat' (first | exact trivial | assumption | exact xob_b rfl | exact xal_b rfl | (apply And.intro) | decide)) ?_
                           try dsimp only [xsto1, xsto2, xkill, xget, xset, gd_0, gd_s]
                           try rw [hj1]
                           refine xG_br rfl (fun h156 => ?_) (fun h156 => ?_)
                           · refine xG_run 3 rfl (by repeat' (first | exact trivial | assumption | exact xob_b rfl | exact xal_b rfl | (apply And.intro) | decide)) ?_
                             try dsimp only [xsto1, xsto2, xkill, xget, xset, gd_0, gd_s]
                             try rw [hj1]
                             refine r2_i rfl rfl ?_
                             first
                               | exact Or.inl ⟨j, hj, rfl, rfl, rfl, rfl⟩
                               | (refine Or.inr (Or.inr ⟨?_, rfl, rfl⟩)
                                  rintro ⟨⟨j9, a1, a2⟩, a3⟩
                                  first
                                    | exact no8 b4 ⟨j9, a1, a2⟩
                                    | (rcases a3 with a3 | ⟨a3, p9, a4, a5⟩
                                       · first | exact b14 (by rw [a3]; decide) | exact absurd a3 (by decide)
                                       · first | exact b14 (by rw [a3]; decide) | exact b27 (by rw [a5]; exact inI a4 (by omega))))
                               | (refine Or.inr (Or.inl ⟨j, p, hj, rfl, rfl, hp, rfl, rfl, ?_⟩)
                                  (try simp only [rs_c hA, rs_c (hB _), rW_c hA, Decidable.not_not] at *)
                                  first
                                    | (have h67a := i_nlt h67; simp [rHf, rTs, *]; done)
                                    | (exfalso; have h67a := i_nlt h67; simp_all; done)
                                    | (exfalso; have h67a := i_nle h67; simp_all; done)
                                    | (have h67a := i_nle h67; simp [rHf, rTs, *]; done))
                           · refine xG_run 6 rfl (by repeat' (first | exact trivial | assumption | exact xob_b rfl | exact xal_b rfl | (apply And.intro) | decide)) ?_
                             try dsimp only [xsto1, xsto2, xkill, xget, xset, gd_0, gd_s]
                             try rw [hj1]
                             refine xG_c2 2 rfl (by repeat' (first | exact trivial | assumption | exact xob_b rfl | exact xal_b rfl | (apply And.intro) | decide)) rfl rfl (by decide) cw_X12_of (d' := d - 1) (e_of (p := p) (k := 5) rfl rfl (by omega)) (by omega) ?_
                             rintro v M' ⟨rfl, hM⟩
                             subst M'
                             dsimp only [Option.toList, List.cons_append, List.nil_append]
                             refine xG_run 4 rfl (by repeat' (first | exact trivial | assumption | exact xob_b rfl | exact xal_b rfl | (apply And.intro) | decide)) ?_
                             try dsimp only [xsto1, xsto2, xkill, xget, xset, gd_0, gd_s]
                             try rw [hj1]
                             refine r2_i rfl rfl ?_
                             first
                               | exact Or.inl ⟨j, hj, rfl, rfl, rfl, rfl⟩
                               | (refine Or.inr (Or.inr ⟨?_, rfl, rfl⟩)
                                  rintro ⟨⟨j9, a1, a2⟩, a3⟩
                                  first
                                    | exact no8 b4 ⟨j9, a1, a2⟩
                                    | (rcases a3 with a3 | ⟨a3, p9, a4, a5⟩
                                       · first | exact b14 (by rw [a3]; decide) | exact absurd a3 (by decide)
                                       · first | exact b14 (by rw [a3]; decide) | exact b27 (by rw [a5]; exact inI a4 (by omega))))
                               | (refine Or.inr (Or.inl ⟨j, p, hj, rfl, rfl, hp, rfl, rfl, ?_⟩)
                                  (try simp only [rs_c hA, rs_c (hB _), rW_c hA, Decidable.not_not] at *)
                                  first
                                    | (have h67a := i_nlt h67; simp [rHf, rTs, *]; done)
                                    | (exfalso; have h67a := i_nlt h67; simp_all; done)
                                    | (exfalso; have h67a := i_nle h67; simp_all; done)
                                    | (have h67a := i_nle h67; simp [rHf, rTs, *]; done))
                         · refine xG_run 4 rfl (by repeat' (first | exact trivial | assumption | exact xob_b rfl | exact xal_b rfl | (apply And.intro) | decide)) ?_
                           try dsimp only [xsto1, xsto2, xkill, xget, xset, gd_0, gd_s]
                           try rw [hj1]
                           refine r2_i rfl rfl ?_
                           first
                             | exact Or.inl ⟨j, hj, rfl, rfl, rfl, rfl⟩
                             | (refine Or.inr (Or.inr ⟨?_, rfl, rfl⟩)
                                rintro ⟨⟨j9, a1, a2⟩, a3⟩
                                first
                                  | exact no8 b4 ⟨j9, a1, a2⟩
                                  | (rcases a3 with a3 | ⟨a3, p9, a4, a5⟩
                                     · first | exact b14 (by rw [a3]; decide) | exact absurd a3 (by decide)
                                     · first | exact b14 (by rw [a3]; decide) | exact b27 (by rw [a5]; exact inI a4 (by omega))))
                             | (refine Or.inr (Or.inl ⟨j, p, hj, rfl, rfl, hp, rfl, rfl, ?_⟩)
                                (try simp only [rs_c hA, rs_c (hB _), rW_c hA, Decidable.not_not] at *)
                                first
                                  | (have h67a := i_nlt h67; simp [rHf, rTs, *]; done)
                                  | (exfalso; have h67a := i_nlt h67; simp_all; done)
                                  | (exfalso; have h67a := i_nle h67; simp_all; done)
                                  | (have h67a := i_nle h67; simp [rHf, rTs, *]; done))
                 · refine xG_run 8 rfl (by repeat' (first | exact trivial | assumption | exact xob_b rfl | exact xal_b rfl | (apply And.intro) | decide)) ?_
                   try dsimp only [xsto1, xsto2, xkill, xget, xset, gd_0, gd_s]
                   try rw [hj1]
                   refine xG_run 2 rfl (by repeat' (first | exact trivial | assumption | exact xob_b rfl | exact xal_b rfl | (apply And.intro) | decide)) ?_
                   try dsimp only [xsto1, xsto2, xkill, xget, xset, gd_0, gd_s]
                   try rw [hj1]
                   refine xG_br rfl (fun h130 => ?_) (fun h130 => ?_)
                   · refine xG_run 4 rfl (by repeat' (first | exact trivial | assumption | exact xob_b rfl | exact xal_b rfl | (apply And.intro) | decide)) ?_
                     try dsimp only [xsto1, xsto2, xkill, xget, xset, gd_0, gd_s]
                     try rw [hj1]
                     refine r2_i rfl rfl ?_
                     first
                       | exact Or.inl ⟨j, hj, rfl, rfl, rfl, rfl⟩
                       | (refine Or.inr (Or.inr ⟨?_, rfl, rfl⟩)
                          rintro ⟨⟨j9, a1, a2⟩, a3⟩
                          first
                            | exact no8 b4 ⟨j9, a1, a2⟩
                            | (rcases a3 with a3 | ⟨a3, p9, a4, a5⟩
                               · first | exact b14 (by rw [a3]; decide) | exact absurd a3 (by decide)
                               · first | exact b14 (by rw [a3]; decide) | exact b27 (by rw [a5]; exact inI a4 (by omega))))
                       | (refine Or.inr (Or.inl ⟨j, p, hj, rfl, rfl, hp, rfl, rfl, ?_⟩)
                          (try simp only [rs_c hA, rs_c (hB _), rW_c hA, Decidable.not_not] at *)
                          first
                            | (have h67a := i_nlt h67; simp [rHf, rTs, *]; done)
                            | (exfalso; have h67a := i_nlt h67; simp_all; done)
                            | (exfalso; have h67a := i_nle h67; simp_all; done)
                            | (have h67a := i_nle h67; simp [rHf, rTs, *]; done))
                   · refine xG_run 2 rfl (by repeat' (first | exact trivial | assumption | exact xob_b rfl | exact xal_b rfl | (apply And.intro) | decide)) ?_
                     try dsimp only [xsto1, xsto2, xkill, xget, xset, gd_0, gd_s]
                     try rw [hj1]
                     refine xG_br rfl (fun h136 => ?_) (fun h136 => ?_)
                     · refine xG_run 2 rfl (by repeat' (first | exact trivial | assumption | exact xob_b rfl | exact xal_b rfl | (apply And.intro) | decide)) ?_
                       try dsimp only [xsto1, xsto2, xkill, xget, xset, gd_0, gd_s]
                       try rw [hj1]
                       refine xG_br rfl (fun h156 => ?_) (fun h156 => ?_)
                       · refine xG_run 3 rfl (by repeat' (first | exact trivial | assumption | exact xob_b rfl | exact xal_b rfl | (apply And.intro) | decide)) ?_
                         try dsimp only [xsto1, xsto2, xkill, xget, xset, gd_0, gd_s]
                         try rw [hj1]
                         refine r2_i rfl rfl ?_
                         first
                           | exact Or.inl ⟨j, hj, rfl, rfl, rfl, rfl⟩
                           | (refine Or.inr (Or.inr ⟨?_, rfl, rfl⟩)
                              rintro ⟨⟨j9, a1, a2⟩, a3⟩
                              first
                                | exact no8 b4 ⟨j9, a1, a2⟩
                                | (rcases a3 with a3 | ⟨a3, p9, a4, a5⟩
                                   · first | exact b14 (by rw [a3]; decide) | exact absurd a3 (by decide)
                                   · first | exact b14 (by rw [a3]; decide) | exact b27 (by rw [a5]; exact inI a4 (by omega))))
                           | (refine Or.inr (Or.inl ⟨j, p, hj, rfl, rfl, hp, rfl, rfl, ?_⟩)
                              (try simp only [rs_c hA, rs_c (hB _), rW_c hA, Decidable.not_not] at *)
                              first
                                | (have h67a := i_nlt h67; simp [rHf, rTs, *]; done)
                                | (exfalso; have h67a := i_nlt h67; simp_all; done)
                                | (exfalso; have h67a := i_nle h67; simp_all; done)
                                | (have h67a := i_nle h67; simp [rHf, rTs, *]; done))
                       · refine xG_run 6 rfl (by repeat' (first | exact trivial | assumption | exact xob_b rfl | exact xal_b rfl | (apply And.intro) | decide)) ?_
                         try dsimp only [xsto1, xsto2, xkill, xget, xset, gd_0, gd_s]
                         try rw [hj1]
                         refine xG_c2 2 rfl (by repeat' (first | exact trivial | assumption | exact xob_b rfl | exact xal_b rfl | (apply And.intro) | decide)) rfl rfl (by decide) cw_X12_of (d' := d - 1) (e_of (p := p) (k := 5) rfl rfl (by omega)) (by omega) ?_
                         rintro v M' ⟨rfl, hM⟩
                         subst M'
                         dsimp only [Option.toList, List.cons_append, List.nil_append]
                         refine xG_run 4 rfl (by repeat' (first | exact trivial | assumption | exact xob_b rfl | exact xal_b rfl | (apply And.intro) | decide)) ?_
                         try dsimp only [xsto1, xsto2, xkill, xget, xset, gd_0, gd_s]
                         try rw [hj1]
                         refine r2_i rfl rfl ?_
                         first
                           | exact Or.inl ⟨j, hj, rfl, rfl, rfl, rfl⟩
                           | (refine Or.inr (Or.inr ⟨?_, rfl, rfl⟩)
                              rintro ⟨⟨j9, a1, a2⟩, a3⟩
                              first
                                | exact no8 b4 ⟨j9, a1, a2⟩
                                | (rcases a3 with a3 | ⟨a3, p9, a4, a5⟩
                                   · first | exact b14 (by rw [a3]; decide) | exact absurd a3 (by decide)
                                   · first | exact b14 (by rw [a3]; decide) | exact b27 (by rw [a5]; exact inI a4 (by omega))))
                           | (refine Or.inr (Or.inl ⟨j, p, hj, rfl, rfl, hp, rfl, rfl, ?_⟩)
                              (try simp only [rs_c hA, rs_c (hB _), rW_c hA, Decidable.not_not] at *)
                              first
                                | (have h67a := i_nlt h67; simp [rHf, rTs, *]; done)
                                | (exfalso; have h67a := i_nlt h67; simp_all; done)
                                | (exfalso; have h67a := i_nle h67; simp_all; done)
                                | (have h67a := i_nle h67; simp [rHf, rTs, *]; done))
                     · refine xG_run 3 rfl (by repeat' (first | exact trivial | assumption | exact xob_b rfl | exact xal_b rfl | (apply And.intro) | decide)) ?_
                       try dsimp only [xsto1, xsto2, xkill, xget, xset, gd_0, gd_s]
                       try rw [hj1]
                       refine xG_c2 2 rfl (by repeat' (first | exact trivial | assumption | exact xob_b rfl | exact xal_b rfl | (apply And.intro) | decide)) rfl rfl (by decide) cw_X12_of (d' := d - 1) (e_of (p := p) (k := 5) rfl rfl (by omega)) (by omega) ?_
                       rintro v M' ⟨rfl, hM⟩
                       subst M'
                       dsimp only [Option.toList, List.cons_append, List.nil_append]
                       refine xG_br rfl (fun h145 => ?_) (fun h145 => ?_)
                       · refine xG_run 2 rfl (by repeat' (first | exact trivial | assumption | exact xob_b rfl | exact xal_b rfl | (apply And.intro) | decide)) ?_
                         try dsimp only [xsto1, xsto2, xkill, xget, xset, gd_0, gd_s]
                         try rw [hj1]
                         refine xG_br rfl (fun h156 => ?_) (fun h156 => ?_)
                         · refine xG_run 3 rfl (by repeat' (first | exact trivial | assumption | exact xob_b rfl | exact xal_b rfl | (apply And.intro) | decide)) ?_
                           try dsimp only [xsto1, xsto2, xkill, xget, xset, gd_0, gd_s]
                           try rw [hj1]
                           refine r2_i rfl rfl ?_
                           first
                             | exact Or.inl ⟨j, hj, rfl, rfl, rfl, rfl⟩
                             | (refine Or.inr (Or.inr ⟨?_, rfl, rfl⟩)
                                rintro ⟨⟨j9, a1, a2⟩, a3⟩
                                first
                                  | exact no8 b4 ⟨j9, a1, a2⟩
                                  | (rcases a3 with a3 | ⟨a3, p9, a4, a5⟩
                                     · first | exact b14 (by rw [a3]; decide) | exact absurd a3 (by decide)
                                     · first | exact b14 (by rw [a3]; decide) | exact b27 (by rw [a5]; exact inI a4 (by omega))))
                             | (refine Or.inr (Or.inl ⟨j, p, hj, rfl, rfl, hp, rfl, rfl, ?_⟩)
                                (try simp only [rs_c hA, rs_c (hB _), rW_c hA, Decidable.not_not] at *)
                                first
                                  | (have h67a := i_nlt h67; simp [rHf, rTs, *]; done)
                                  | (exfalso; have h67a := i_nlt h67; simp_all; done)
                                  | (exfalso; have h67a := i_nle h67; simp_all; done)
                                  | (have h67a := i_nle h67; simp [rHf, rTs, *]; done))
                         · refine xG_run 6 rfl (by repeat' (first | exact trivial | assumption | exact xob_b rfl | exact xal_b rfl | (apply And.intro) | decide)) ?_
                           try dsimp only [xsto1, xsto2, xkill, xget, xset, gd_0, gd_s]
                           try rw [hj1]
                           refine xG_c2 2 rfl (by repeat' (first | exact trivial | assumption | exact xob_b rfl | exact xal_b rfl | (apply And.intro) | decide)) rfl rfl (by decide) cw_X12_of (d' := d - 1) (e_of (p := p) (k := 5) rfl rfl (by omega)) (by omega) ?_
                           rintro v M' ⟨rfl, hM⟩
                           subst M'
                           dsimp only [Option.toList, List.cons_append, List.nil_append]
                           refine xG_run 4 rfl (by repeat' (first | exact trivial | assumption | exact xob_b rfl | exact xal_b rfl | (apply And.intro) | decide)) ?_
                           try dsimp only [xsto1, xsto2, xkill, xget, xset, gd_0, gd_s]
                           try rw [hj1]
                           refine r2_i rfl rfl ?_
                           first
                             | exact Or.inl ⟨j, hj, rfl, rfl, rfl, rfl⟩
                             | (refine Or.inr (Or.inr ⟨?_, rfl, rfl⟩)
                                rintro ⟨⟨j9, a1, a2⟩, a3⟩
                                first
                                  | exact no8 b4 ⟨j9, a1, a2⟩
                                  | (rcases a3 with a3 | ⟨a3, p9, a4, a5⟩
                                     · first | exact b14 (by rw [a3]; decide) | exact absurd a3 (by decide)
                                     · first | exact b14 (by rw [a3]; decide) | exact b27 (by rw [a5]; exact inI a4 (by omega))))
                             | (refine Or.inr (Or.inl ⟨j, p, hj, rfl, rfl, hp, rfl, rfl, ?_⟩)
                                (try simp only [rs_c hA, rs_c (hB _), rW_c hA, Decidable.not_not] at *)
                                first
                                  | (have h67a := i_nlt h67; simp [rHf, rTs, *]; done)
                                  | (exfalso; have h67a := i_nlt h67; simp_all; done)
                                  | (exfalso; have h67a := i_nle h67; simp_all; done)
                                  | (have h67a := i_nle h67; simp [rHf, rTs, *]; done))
                       · refine xG_run 4 rfl (by repeat' (first | exact trivial | assumption | exact xob_b rfl | exact xal_b rfl | (apply And.intro) | decide)) ?_
                         try dsimp only [xsto1, xsto2, xkill, xget, xset, gd_0, gd_s]
                         try rw [hj1]
                         refine r2_i rfl rfl ?_
                         first
                           | exact Or.inl ⟨j, hj, rfl, rfl, rfl, rfl⟩
                           | (refine Or.inr (Or.inr ⟨?_, rfl, rfl⟩)
                              rintro ⟨⟨j9, a1, a2⟩, a3⟩
                              first
                                | exact no8 b4 ⟨j9, a1, a2⟩
                                | (rcases a3 with a3 | ⟨a3, p9, a4, a5⟩
                                   · first | exact b14 (by rw [a3]; decide) | exact absurd a3 (by decide)
                                   · first | exact b14 (by rw [a3]; decide) | exact b27 (by rw [a5]; exact inI a4 (by omega))))
                           | (refine Or.inr (Or.inl ⟨j, p, hj, rfl, rfl, hp, rfl, rfl, ?_⟩)
                              (try simp only [rs_c hA, rs_c (hB _), rW_c hA, Decidable.not_not] at *)
                              first
                                | (have h67a := i_nlt h67; simp [rHf, rTs, *]; done)
                                | (exfalso; have h67a := i_nlt h67; simp_all; done)
                                | (exfalso; have h67a := i_nle h67; simp_all; done)
                                | (have h67a := i_nle h67; simp [rHf, rTs, *]; done)))
        · first
            | (exfalso; first | exact h40 rfl | exact h40 (by decide) | exact absurd (Decidable.not_not.mp h40) (by decide))
            | (refine xG_run 1 rfl (by repeat' (first | exact trivial | assumption | exact xob_b rfl | exact xal_b rfl | (apply And.intro) | decide)) ?_
               try dsimp only [xsto1, xsto2, xkill, xget, xset, gd_0, gd_s]
               try rw [hj1]
               refine r2_i rfl rfl ?_
               first
                 | exact Or.inl ⟨j, hj, rfl, rfl, rfl, rfl⟩
                 | (refine Or.inr (Or.inr ⟨?_, rfl, rfl⟩)
                    rintro ⟨⟨j9, a1, a2⟩, a3⟩
                    first
                      | exact no8 b4 ⟨j9, a1, a2⟩
                      | (rcases a3 with a3 | ⟨a3, p9, a4, a5⟩
                         · first | exact b14 (by rw [a3]; decide) | exact absurd a3 (by decide)
                         · first | exact b14 (by rw [a3]; decide) | exact b27 (by rw [a5]; exact inI a4 (by omega))))
                 | (refine Or.inr (Or.inl ⟨j, p, hj, rfl, rfl, hp, rfl, rfl, ?_⟩)
                    (try simp only [rs_c hA, rs_c (hB _), rW_c hA, Decidable.not_not] at *)
                    first
                      | (have h67a := i_nlt h67; simp [rHf, rTs, *]; done)
                      | (exfalso; have h67a := i_nlt h67; simp_all; done)
                      | (exfalso; have h67a := i_nle h67; simp_all; done)
                      | (have h67a := i_nle h67; simp [rHf, rTs, *]; done)))
      · have hw := Decidable.not_not.mp h19
        subst hw
        refine xG_run 2 rfl (by repeat' (first | exact trivial | assumption | exact xob_b rfl | exact xal_b rfl | (apply And.intro) | decide)) ?_
        try dsimp only [xsto1, xsto2, xkill, xget, xset, gd_0, gd_s]
        try rw [hj1]
        refine xG_c2 1 rfl (by repeat' (first | exact trivial | assumption | exact xob_b rfl | exact xal_b rfl | (apply And.intro) | decide)) rfl rfl (by decide) cw_X12_isPiece (d' := d - 1) (e_isPiece hn hn2 (by omega)) (by omega) ?_
        rintro v M' ⟨rfl, hM⟩
        subst M'
        dsimp only [Option.toList, List.cons_append, List.nil_append]
        refine xG_br rfl (fun h27 => ?_) (fun h27 => ?_)
        · have b27 := z1.mp h27
          obtain ⟨p, hp, rfl⟩ := inI_of b27 (by omega)
          have hA : ∀ x, gI (sI M 170 j 1) 167 x = gI M 167 x := fun x => gI_ne (Or.inl (by decide))
          have hB : ∀ y x, gI (sI (sI M 170 j 1) 175 j y) 167 x = gI M 167 x := fun y x => (gI_ne (Or.inl (by decide))).trans (hA x)
          refine xG_run 6 rfl (by repeat' (first | exact trivial | assumption | exact xob_b rfl | exact xal_b rfl | (apply And.intro) | decide)) ?_
          try dsimp only [xsto1, xsto2, xkill, xget, xset, gd_0, gd_s]
          try rw [hj1]
          refine xG_br rfl (fun h40 => ?_) (fun h40 => ?_)
          · first
              | (exfalso; first | exact h40 rfl | exact h40 (by decide) | exact absurd (Decidable.not_not.mp h40) (by decide))
              | (refine xG_run 3 rfl (by repeat' (first | exact trivial | assumption | exact xob_b rfl | exact xal_b rfl | (apply And.intro) | decide)) ?_
                 try dsimp only [xsto1, xsto2, xkill, xget, xset, gd_0, gd_s]
                 try rw [hj1]
                 refine xG_c2 2 rfl (by repeat' (first | exact trivial | assumption | exact xob_b rfl | exact xal_b rfl | (apply And.intro) | decide)) rfl rfl (by decide) cw_X12_of (d' := d - 1) (e_of (p := p) (k := 0) rfl rfl (by omega)) (by omega) ?_
                 rintro v M' ⟨rfl, hM⟩
                 subst M'
                 dsimp only [Option.toList, List.cons_append, List.nil_append]
                 refine xG_run 3 rfl (by repeat' (first | exact trivial | assumption | exact xob_b rfl | exact xal_b rfl | (apply And.intro) | decide)) ?_
                 try dsimp only [xsto1, xsto2, xkill, xget, xset, gd_0, gd_s]
                 try rw [hj1]
                 refine xG_c2 1 rfl (by repeat' (first | exact trivial | assumption | exact xob_b rfl | exact xal_b rfl | (apply And.intro) | decide)) rfl rfl (by decide) cw_X12_weight (d' := d - 1) (e_rweight (p := p) (by omega) (by omega)) (by omega) ?_
                 rintro v M' ⟨rfl, hM⟩
                 subst M'
                 dsimp only [Option.toList, List.cons_append, List.nil_append]
                 refine xG_run 3 rfl (by repeat' (first | exact trivial | assumption | exact xob_b rfl | exact xal_b rfl | (apply And.intro) | decide)) ?_
                 try dsimp only [xsto1, xsto2, xkill, xget, xset, gd_0, gd_s]
                 try rw [hj1]
                 refine xG_c2 2 rfl (by repeat' (first | exact trivial | assumption | exact xob_b rfl | exact xal_b rfl | (apply And.intro) | decide)) rfl rfl (by decide) cw_X12_of (d' := d - 1) (e_of (p := p) (k := 1) rfl rfl (by omega)) (by omega) ?_
                 rintro v M' ⟨rfl, hM⟩
                 subst M'
                 dsimp only [Option.toList, List.cons_append, List.nil_append]
                 refine xG_run 2 rfl (by repeat' (first | exact trivial | assumption | exact xob_b rfl | exact xal_b rfl | (apply And.intro) | decide)) ?_
                 try dsimp only [xsto1, xsto2, xkill, xget, xset, gd_0, gd_s]
                 try rw [hj1]
                 refine xG_br rfl (fun h67 => ?_) (fun h67 => ?_)
                 · refine xG_run 8 rfl (by repeat' (first | exact trivial | assumption | exact xob_b rfl | exact xal_b rfl | (apply And.intro) | decide)) ?_
                   try dsimp only [xsto1, xsto2, xkill, xget, xset, gd_0, gd_s]
                   try rw [hj1]
                   refine xG_br rfl (fun h91 => ?_) (fun h91 => ?_)
                   · refine xG_run 2 rfl (by repeat' (first | exact trivial | assumption | exact xob_b rfl | exact xal_b rfl | (apply And.intro) | decide)) ?_
                     try dsimp only [xsto1, xsto2, xkill, xget, xset, gd_0, gd_s]
                     try rw [hj1]
                     refine xG_br rfl (fun h104 => ?_) (fun h104 => ?_)
                     · refine xG_run 7 rfl (by repeat' (first | exact trivial | assumption | exact xob_b rfl | exact xal_b rfl | (apply And.intro) | decide)) ?_
                       try dsimp only [xsto1, xsto2, xkill, xget, xset, gd_0, gd_s]
                       try rw [hj1]
                       refine xG_br rfl (fun h130 => ?_) (fun h130 => ?_)
                       · refine xG_run 4 rfl (by repeat' (first | exact trivial | assumption | exact xob_b rfl | exact xal_b rfl | (apply And.intro) | decide)) ?_
                         try dsimp only [xsto1, xsto2, xkill, xget, xset, gd_0, gd_s]
                         try rw [hj1]
                         refine r2_i rfl rfl ?_
                         first
                           | exact Or.inl ⟨j, hj, rfl, rfl, rfl, rfl⟩
                           | (refine Or.inr (Or.inr ⟨?_, rfl, rfl⟩)
                              rintro ⟨⟨j9, a1, a2⟩, a3⟩
                              first
                                | exact no8 b4 ⟨j9, a1, a2⟩
                                | (rcases a3 with a3 | ⟨a3, p9, a4, a5⟩
                                   · first | exact b14 (by rw [a3]; decide) | exact absurd a3 (by decide)
                                   · first | exact b14 (by rw [a3]; decide) | exact b27 (by rw [a5]; exact inI a4 (by omega))))
                           | (refine Or.inr (Or.inl ⟨j, p, hj, rfl, rfl, hp, rfl, rfl, ?_⟩)
                              (try simp only [rs_c hA, rs_c (hB _), rW_c hA, Decidable.not_not] at *)
                              first
                                | (have h67a := i_nlt h67; simp [rHf, rTs, *]; done)
                                | (exfalso; have h67a := i_nlt h67; simp_all; done)
                                | (exfalso; have h67a := i_nle h67; simp_all; done)
                                | (have h67a := i_nle h67; simp [rHf, rTs, *]; done))
                       · refine xG_run 2 rfl (by repeat' (first | exact trivial | assumption | exact xob_b rfl | exact xal_b rfl | (apply And.intro) | decide)) ?_
                         try dsimp only [xsto1, xsto2, xkill, xget, xset, gd_0, gd_s]
                         try rw [hj1]
                         refine xG_br rfl (fun h136 => ?_) (fun h136 => ?_)
                         · refine xG_run 2 rfl (by repeat' (first | exact trivial | assumption | exact xob_b rfl | exact xal_b rfl | (apply And.intro) | decide)) ?_
                           try dsimp only [xsto1, xsto2, xkill, xget, xset, gd_0, gd_s]
                           try rw [hj1]
                           refine xG_br rfl (fun h156 => ?_) (fun h156 => ?_)
                           · refine xG_run 3 rfl (by repeat' (first | exact trivial | assumption | exact xob_b rfl | exact xal_b rfl | (apply And.intro) | decide)) ?_
                             try dsimp only [xsto1, xsto2, xkill, xget, xset, gd_0, gd_s]
                             try rw [hj1]
                             refine r2_i rfl rfl ?_
                             first
                               | exact Or.inl ⟨j, hj, rfl, rfl, rfl, rfl⟩
                               | (refine Or.inr (Or.inr ⟨?_, rfl, rfl⟩)
                                  rintro ⟨⟨j9, a1, a2⟩, a3⟩
                                  first
                                    | exact no8 b4 ⟨j9, a1, a2⟩
                                    | (rcases a3 with a3 | ⟨a3, p9, a4, a5⟩
                                       · first | exact b14 (by rw [a3]; decide) | exact absurd a3 (by decide)
                                       · first | exact b14 (by rw [a3]; decide) | exact b27 (by rw [a5]; exact inI a4 (by omega))))
                               | (refine Or.inr (Or.inl ⟨j, p, hj, rfl, rfl, hp, rfl, rfl, ?_⟩)
                                  (try simp only [rs_c hA, rs_c (hB _), rW_c hA, Decidable.not_not] at *)
                                  first
                                    | (have h67a := i_nlt h67; simp [rHf, rTs, *]; done)
                                    | (exfalso; have h67a := i_nlt h67; simp_all; done)
                                    | (exfalso; have h67a := i_nle h67; simp_all; done)
                                    | (have h67a := i_nle h67; simp [rHf, rTs, *]; done))
                           · refine xG_run 6 rfl (by repeat' (first | exact trivial | assumption | exact xob_b rfl | exact xal_b rfl | (apply And.intro) | decide)) ?_
                             try dsimp only [xsto1, xsto2, xkill, xget, xset, gd_0, gd_s]
                             try rw [hj1]
                             refine xG_c2 2 rfl (by repeat' (first | exact trivial | assumption | exact xob_b rfl | exact xal_b rfl | (apply And.intro) | decide)) rfl rfl (by decide) cw_X12_of (d' := d - 1) (e_of (p := p) (k := 5) rfl rfl (by omega)) (by omega) ?_
                             rintro v M' ⟨rfl, hM⟩
                             subst M'
                             dsimp only [Option.toList, List.cons_append, List.nil_append]
                             refine xG_run 4 rfl (by repeat' (first | exact trivial | assumption | exact xob_b rfl | exact xal_b rfl | (apply And.intro) | decide)) ?_
                             try dsimp only [xsto1, xsto2, xkill, xget, xset, gd_0, gd_s]
                             try rw [hj1]
                             refine r2_i rfl rfl ?_
                             first
                               | exact Or.inl ⟨j, hj, rfl, rfl, rfl, rfl⟩
                               | (refine Or.inr (Or.inr ⟨?_, rfl, rfl⟩)
                                  rintro ⟨⟨j9, a1, a2⟩, a3⟩
                                  first
                                    | exact no8 b4 ⟨j9, a1, a2⟩
                                    | (rcases a3 with a3 | ⟨a3, p9, a4, a5⟩
                                       · first | exact b14 (by rw [a3]; decide) | exact absurd a3 (by decide)
                                       · first | exact b14 (by rw [a3]; decide) | exact b27 (by rw [a5]; exact inI a4 (by omega))))
                               | (refine Or.inr (Or.inl ⟨j, p, hj, rfl, rfl, hp, rfl, rfl, ?_⟩)
                                  (try simp only [rs_c hA, rs_c (hB _), rW_c hA, Decidable.not_not] at *)
                                  first
                                    | (have h67a := i_nlt h67; simp [rHf, rTs, *]; done)
                                    | (exfalso; have h67a := i_nlt h67; simp_all; done)
                                    | (exfalso; have h67a := i_nle h67; simp_all; done)
                                    | (have h67a := i_nle h67; simp [rHf, rTs, *]; done))
                         · refine xG_run 3 rfl (by repeat' (first | exact trivial | assumption | exact xob_b rfl | exact xal_b rfl | (apply And.intro) | decide)) ?_
                           try dsimp only [xsto1, xsto2, xkill, xget, xset, gd_0, gd_s]
                           try rw [hj1]
                           refine xG_c2 2 rfl (by repeat' (first | exact trivial | assumption | exact xob_b rfl | exact xal_b rfl | (apply And.intro) | decide)) rfl rfl (by decide) cw_X12_of (d' := d - 1) (e_of (p := p) (k := 5) rfl rfl (by omega)) (by omega) ?_
                           rintro v M' ⟨rfl, hM⟩
                           subst M'
                           dsimp only [Option.toList, List.cons_append, List.nil_append]
                           refine xG_br rfl (fun h145 => ?_) (fun h145 => ?_)
                           · refine xG_run 2 rfl (by repeat' (first | exact trivial | assumption | exact xob_b rfl | exact xal_b rfl | (apply And.intro) | decide)) ?_
                             try dsimp only [xsto1, xsto2, xkill, xget, xset, gd_0, gd_s]
                             try rw [hj1]
                             refine xG_br rfl (fun h156 => ?_) (fun h156 => ?_)
                             · refine xG_run 3 rfl (by repeat' (first | exact trivial | assumption | exact xob_b rfl | exact xal_b rfl | (apply And.intro) | decide)) ?_
                               try dsimp only [xsto1, xsto2, xkill, xget, xset, gd_0, gd_s]
                               try rw [hj1]
                               refine r2_i rfl rfl ?_
                               first
                                 | exact Or.inl ⟨j, hj, rfl, rfl, rfl, rfl⟩
                                 | (refine Or.inr (Or.inr ⟨?_, rfl, rfl⟩)
                                    rintro ⟨⟨j9, a1, a2⟩, a3⟩
                                    first
                                      | exact no8 b4 ⟨j9, a1, a2⟩
                                      | (rcases a3 with a3 | ⟨a3, p9, a4, a5⟩
                                         · first | exact b14 (by rw [a3]; decide) | exact absurd a3 (by decide)
                                         · first | exact b14 (by rw [a3]; decide) | exact b27 (by rw [a5]; exact inI a4 (by omega))))
                                 | (refine Or.inr (Or.inl ⟨j, p, hj, rfl, rfl, hp, rfl, rfl, ?_⟩)
                                    (try simp only [rs_c hA, rs_c (hB _), rW_c hA, Decidable.not_not] at *)
                                    first
                                      | (have h67a := i_nlt h67; simp [rHf, rTs, *]; done)
                                      | (exfalso; have h67a := i_nlt h67; simp_all; done)
                                      | (exfalso; have h67a := i_nle h67; simp_all; done)
                                      | (have h67a := i_nle h67; simp [rHf, rTs, *]; done))
                             · refine xG_run 6 rfl (by repeat' (first | exact trivial | assumption | exact xob_b rfl | exact xal_b rfl | (apply And.intro) | decide)) ?_
                               try dsimp only [xsto1, xsto2, xkill, xget, xset, gd_0, gd_s]
                               try rw [hj1]
                               refine xG_c2 2 rfl (by repeat' (first | exact trivial | assumption | exact xob_b rfl | exact xal_b rfl | (apply And.intro) | decide)) rfl rfl (by decide) cw_X12_of (d' := d - 1) (e_of (p := p) (k := 5) rfl rfl (by omega)) (by omega) ?_
                               rintro v M' ⟨rfl, hM⟩
                               subst M'
                               dsimp only [Option.toList, List.cons_append, List.nil_append]
                               refine xG_run 4 rfl (by repeat' (first | exact trivial | assumption | exact xob_b rfl | exact xal_b rfl | (apply And.intro) | decide)) ?_
                               try dsimp only [xsto1, xsto2, xkill, xget, xset, gd_0, gd_s]
                               try rw [hj1]
                               refine r2_i rfl rfl ?_
                               first
                                 | exact Or.inl ⟨j, hj, rfl, rfl, rfl, rfl⟩
                                 | (refine Or.inr (Or.inr ⟨?_, rfl, rfl⟩)
                                    rintro ⟨⟨j9, a1, a2⟩, a3⟩
                                    first
                                      | exact no8 b4 ⟨j9, a1, a2⟩
                                      | (rcases a3 with a3 | ⟨a3, p9, a4, a5⟩
                                         · first | exact b14 (by rw [a3]; decide) | exact absurd a3 (by decide)
                                         · first | exact b14 (by rw [a3]; decide) | exact b27 (by rw [a5]; exact inI a4 (by omega))))
                                 | (refine Or.inr (Or.inl ⟨j, p, hj, rfl, rfl, hp, rfl, rfl, ?_⟩)
                                    (try simp only [rs_c hA, rs_c (hB _), rW_c hA, Decidable.not_not] at *)
                                    first
                                      | (have h67a := i_nlt h67; simp [rHf, rTs, *]; done)
                                      | (exfalso; have h67a := i_nlt h67; simp_all; done)
                                      | (exfalso; have h67a := i_nle h67; simp_all; done)
                                      | (have h67a := i_nle h67; simp [rHf, rTs, *]; done))
                           · refine xG_run 4 rfl (by repeat' (first | exact trivial | assumption | exact xob_b rfl | exact xal_b rfl | (apply And.intro) | decide)) ?_
                             try dsimp only [xsto1, xsto2, xkill, xget, xset, gd_0, gd_s]
                             try rw [hj1]
                             refine r2_i rfl rfl ?_
                             first
                               | exact Or.inl ⟨j, hj, rfl, rfl, rfl, rfl⟩
                               | (refine Or.inr (Or.inr ⟨?_, rfl, rfl⟩)
                                  rintro ⟨⟨j9, a1, a2⟩, a3⟩
                                  first
                                    | exact no8 b4 ⟨j9, a1, a2⟩
                                    | (rcases a3 with a3 | ⟨a3, p9, a4, a5⟩
                                       · first | exact b14 (by rw [a3]; decide) | exact absurd a3 (by decide)
                                       · first | exact b14 (by rw [a3]; decide) | exact b27 (by rw [a5]; exact inI a4 (by omega))))
                               | (refine Or.inr (Or.inl ⟨j, p, hj, rfl, rfl, hp, rfl, rfl, ?_⟩)
                                  (try simp only [rs_c hA, rs_c (hB _), rW_c hA, Decidable.not_not] at *)
                                  first
                                    | (have h67a := i_nlt h67; simp [rHf, rTs, *]; done)
                                    | (exfalso; have h67a := i_nlt h67; simp_all; done)
                                    | (exfalso; have h67a := i_nle h67; simp_all; done)
                                    | (have h67a := i_nle h67; simp [rHf, rTs, *]; done))
                     · refine xG_run 4 rfl (by repeat' (first | exact trivial | assumption | exact xob_b rfl | exact xal_b rfl | (apply And.intro) | decide)) ?_
                       try dsimp only [xsto1, xsto2, xkill, xget, xset, gd_0, gd_s]
                       try rw [hj1]
                       refine xG_c2 2 rfl (by repeat' (first | exact trivial | assumption | exact xob_b rfl | exact xal_b rfl | (apply And.intro) | decide)) rfl rfl (by decide) cw_X12_of (d' := d - 1) (e_of (p := p) (k := 4) rfl rfl (by omega)) (by omega) ?_
                       rintro v M' ⟨rfl, hM⟩
                       subst M'
                       dsimp only [Option.toList, List.cons_append, List.nil_append]
                       refine xG_run 8 rfl (by repeat' (first | exact trivial | assumption | exact xob_b rfl | exact xal_b rfl | (apply And.intro) | decide)) ?_
                       try dsimp only [xsto1, xsto2, xkill, xget, xset, gd_0, gd_s]
                       try rw [hj1]
                       refine xG_br rfl (fun h130 => ?_) (fun h130 => ?_)
                       · refine xG_run 4 rfl (by repeat' (first | exact trivial | assumption | exact xob_b rfl | exact xal_b rfl | (apply And.intro) | decide)) ?_
                         try dsimp only [xsto1, xsto2, xkill, xget, xset, gd_0, gd_s]
                         try rw [hj1]
                         refine r2_i rfl rfl ?_
                         first
                           | exact Or.inl ⟨j, hj, rfl, rfl, rfl, rfl⟩
                           | (refine Or.inr (Or.inr ⟨?_, rfl, rfl⟩)
                              rintro ⟨⟨j9, a1, a2⟩, a3⟩
                              first
                                | exact no8 b4 ⟨j9, a1, a2⟩
                                | (rcases a3 with a3 | ⟨a3, p9, a4, a5⟩
                                   · first | exact b14 (by rw [a3]; decide) | exact absurd a3 (by decide)
                                   · first | exact b14 (by rw [a3]; decide) | exact b27 (by rw [a5]; exact inI a4 (by omega))))
                           | (refine Or.inr (Or.inl ⟨j, p, hj, rfl, rfl, hp, rfl, rfl, ?_⟩)
                              (try simp only [rs_c hA, rs_c (hB _), rW_c hA, Decidable.not_not] at *)
                              first
                                | (have h67a := i_nlt h67; simp [rHf, rTs, *]; done)
                                | (exfalso; have h67a := i_nlt h67; simp_all; done)
                                | (exfalso; have h67a := i_nle h67; simp_all; done)
                                | (have h67a := i_nle h67; simp [rHf, rTs, *]; done))
                       · refine xG_run 2 rfl (by repeat' (first | exact trivial | assumption | exact xob_b rfl | exact xal_b rfl | (apply And.intro) | decide)) ?_
                         try dsimp only [xsto1, xsto2, xkill, xget, xset, gd_0, gd_s]
                         try rw [hj1]
                         refine xG_br rfl (fun h136 => ?_) (fun h136 => ?_)
                         · refine xG_run 2 rfl (by repeat' (first | exact trivial | assumption | exact xob_b rfl | exact xal_b rfl | (apply And.intro) | decide)) ?_
                           try dsimp only [xsto1, xsto2, xkill, xget, xset, gd_0, gd_s]
                           try rw [hj1]
                           refine xG_br rfl (fun h156 => ?_) (fun h156 => ?_)
                           · refine xG_run 3 rfl (by repeat' (first | exact trivial | assumption | exact xob_b rfl | exact xal_b rfl | (apply And.intro) | decide)) ?_
                             try dsimp only [xsto1, xsto2, xkill, xget, xset, gd_0, gd_s]
                             try rw [hj1]
                             refine r2_i rfl rfl ?_
                             first
                               | exact Or.inl ⟨j, hj, rfl, rfl, rfl, rfl⟩
                               | (refine Or.inr (Or.inr ⟨?_, rfl, rfl⟩)
                                  rintro ⟨⟨j9, a1, a2⟩, a3⟩
                                  first
                                    | exact no8 b4 ⟨j9, a1, a2⟩
                                    | (rcases a3 with a3 | ⟨a3, p9, a4, a5⟩
                                       · first | exact b14 (by rw [a3]; decide) | exact absurd a3 (by decide)
                                       · first | exact b14 (by rw [a3]; decide) | exact b27 (by rw [a5]; exact inI a4 (by omega))))
                               | (refine Or.inr (Or.inl ⟨j, p, hj, rfl, rfl, hp, rfl, rfl, ?_⟩)
                                  (try simp only [rs_c hA, rs_c (hB _), rW_c hA, Decidable.not_not] at *)
                                  first
                                    | (have h67a := i_nlt h67; simp [rHf, rTs, *]; done)
                                    | (exfalso; have h67a := i_nlt h67; simp_all; done)
                                    | (exfalso; have h67a := i_nle h67; simp_all; done)
                                    | (have h67a := i_nle h67; simp [rHf, rTs, *]; done))
                           · refine xG_run 6 rfl (by repeat' (first | exact trivial | assumption | exact xob_b rfl | exact xal_b rfl | (apply And.intro) | decide)) ?_
                             try dsimp only [xsto1, xsto2, xkill, xget, xset, gd_0, gd_s]
                             try rw [hj1]
                             refine xG_c2 2 rfl (by repeat' (first | exact trivial | assumption | exact xob_b rfl | exact xal_b rfl | (apply And.intro) | decide)) rfl rfl (by decide) cw_X12_of (d' := d - 1) (e_of (p := p) (k := 5) rfl rfl (by omega)) (by omega) ?_
                             rintro v M' ⟨rfl, hM⟩
                             subst M'
                             dsimp only [Option.toList, List.cons_append, List.nil_append]
                             refine xG_run 4 rfl (by repeat' (first | exact trivial | assumption | exact xob_b rfl | exact xal_b rfl | (apply And.intro) | decide)) ?_
                             try dsimp only [xsto1, xsto2, xkill, xget, xset, gd_0, gd_s]
                             try rw [hj1]
                             refine r2_i rfl rfl ?_
                             first
                               | exact Or.inl ⟨j, hj, rfl, rfl, rfl, rfl⟩
                               | (refine Or.inr (Or.inr ⟨?_, rfl, rfl⟩)
                                  rintro ⟨⟨j9, a1, a2⟩, a3⟩
                                  first
                                    | exact no8 b4 ⟨j9, a1, a2⟩
                                    | (rcases a3 with a3 | ⟨a3, p9, a4, a5⟩
                                       · first | exact b14 (by rw [a3]; decide) | exact absurd a3 (by decide)
                                       · first | exact b14 (by rw [a3]; decide) | exact b27 (by rw [a5]; exact inI a4 (by omega))))
                               | (refine Or.inr (Or.inl ⟨j, p, hj, rfl, rfl, hp, rfl, rfl, ?_⟩)
                                  (try simp only [rs_c hA, rs_c (hB _), rW_c hA, Decidable.not_not] at *)
                                  first
                                    | (have h67a := i_nlt h67; simp [rHf, rTs, *]; done)
                                    | (exfalso; have h67a := i_nlt h67; simp_all; done)
                                    | (exfalso; have h67a := i_nle h67; simp_all; done)
                                    | (have h67a := i_nle h67; simp [rHf, rTs, *]; done))
                         · refine xG_run 3 rfl (by repeat' (first | exact trivial | assumption | exact xob_b rfl | exact xal_b rfl | (apply And.intro) | decide)) ?_
                           try dsimp only [xsto1, xsto2, xkill, xget, xset, gd_0, gd_s]
                           try rw [hj1]
                           refine xG_c2 2 rfl (by repeat' (first | exact trivial | assumption | exact xob_b rfl | exact xal_b rfl | (apply And.intro) | decide)) rfl rfl (by decide) cw_X12_of (d' := d - 1) (e_of (p := p) (k := 5) rfl rfl (by omega)) (by omega) ?_
                           rintro v M' ⟨rfl, hM⟩
                           subst M'
                           dsimp only [Option.toList, List.cons_append, List.nil_append]
                           refine xG_br rfl (fun h145 => ?_) (fun h145 => ?_)
                           · refine xG_run 2 rfl (by repeat' (first | exact trivial | assumption | exact xob_b rfl | exact xal_b rfl | (apply And.intro) | decide)) ?_
                             try dsimp only [xsto1, xsto2, xkill, xget, xset, gd_0, gd_s]
                             try rw [hj1]
                             refine xG_br rfl (fun h156 => ?_) (fun h156 => ?_)
                             · refine xG_run 3 rfl (by repeat' (first | exact trivial | assumption | exact xob_b rfl | exact xal_b rfl | (apply And.intro) | decide)) ?_
                               try dsimp only [xsto1, xsto2, xkill, xget, xset, gd_0, gd_s]
                               try rw [hj1]
                               refine r2_i rfl rfl ?_
                               first
                                 | exact Or.inl ⟨j, hj, rfl, rfl, rfl, rfl⟩
                                 | (refine Or.inr (Or.inr ⟨?_, rfl, rfl⟩)
                                    rintro ⟨⟨j9, a1, a2⟩, a3⟩
                                    first
                                      | exact no8 b4 ⟨j9, a1, a2⟩
                                      | (rcases a3 with a3 | ⟨a3, p9, a4, a5⟩
                                         · first | exact b14 (by rw [a3]; decide) | exact absurd a3 (by decide)
                                         · first | exact b14 (by rw [a3]; decide) | exact b27 (by rw [a5]; exact inI a4 (by omega))))
                                 | (refine Or.inr (Or.inl ⟨j, p, hj, rfl, rfl, hp, rfl, rfl, ?_⟩)
                                    (try simp only [rs_c hA, rs_c (hB _), rW_c hA, Decidable.not_not] at *)
                                    first
                                      | (have h67a := i_nlt h67; simp [rHf, rTs, *]; done)
                                      | (exfalso; have h67a := i_nlt h67; simp_all; done)
                                      | (exfalso; have h67a := i_nle h67; simp_all; done)
                                      | (have h67a := i_nle h67; simp [rHf, rTs, *]; done))
                             · refine xG_run 6 rfl (by repeat' (first | exact trivial | assumption | exact xob_b rfl | exact xal_b rfl | (apply And.intro) | decide)) ?_
                               try dsimp only [xsto1, xsto2, xkill, xget, xset, gd_0, gd_s]
                               try rw [hj1]
                               refine xG_c2 2 rfl (by repeat' (first | exact trivial | assumption | exact xob_b rfl | exact xal_b rfl | (apply And.intro) | decide)) rfl rfl (by decide) cw_X12_of (d' := d - 1) (e_of (p := p) (k := 5) rfl rfl (by omega)) (by omega) ?_
                               rintro v M' ⟨rfl, hM⟩
                               subst M'
                               dsimp only [Option.toList, List.cons_append, List.nil_append]
                               refine xG_run 4 rfl (by repeat' (first | exact trivial | assumption | exact xob_b rfl | exact xal_b rfl | (apply And.intro) | decide)) ?_
                               try dsimp only [xsto1, xsto2, xkill, xget, xset, gd_0, gd_s]
                               try rw [hj1]
                               refine r2_i rfl rfl ?_
                               first
                                 | exact Or.inl ⟨j, hj, rfl, rfl, rfl, rfl⟩
                                 | (refine Or.inr (Or.inr ⟨?_, rfl, rfl⟩)
                                    rintro ⟨⟨j9, a1, a2⟩, a3⟩
                                    first
                                      | exact no8 b4 ⟨j9, a1, a2⟩
                                      | (rcases a3 with a3 | ⟨a3, p9, a4, a5⟩
                                         · first | exact b14 (by rw [a3]; decide) | exact absurd a3 (by decide)
                                         · first | exact b14 (by rw [a3]; decide) | exact b27 (by rw [a5]; exact inI a4 (by omega))))
                                 | (refine Or.inr (Or.inl ⟨j, p, hj, rfl, rfl, hp, rfl, rfl, ?_⟩)
                                    (try simp only [rs_c hA, rs_c (hB _), rW_c hA, Decidable.not_not] at *)
                                    first
                                      | (have h67a := i_nlt h67; simp [rHf, rTs, *]; done)
                                      | (exfalso; have h67a := i_nlt h67; simp_all; done)
                                      | (exfalso; have h67a := i_nle h67; simp_all; done)
                                      | (have h67a := i_nle h67; simp [rHf, rTs, *]; done))
                           · refine xG_run 4 rfl (by repeat' (first | exact trivial | assumption | exact xob_b rfl | exact xal_b rfl | (apply And.intro) | decide)) ?_
                             try dsimp only [xsto1, xsto2, xkill, xget, xset, gd_0, gd_s]
                             try rw [hj1]
                             refine r2_i rfl rfl ?_
                             first
                               | exact Or.inl ⟨j, hj, rfl, rfl, rfl, rfl⟩
                               | (refine Or.inr (Or.inr ⟨?_, rfl, rfl⟩)
                                  rintro ⟨⟨j9, a1, a2⟩, a3⟩
                                  first
                                    | exact no8 b4 ⟨j9, a1, a2⟩
                                    | (rcases a3 with a3 | ⟨a3, p9, a4, a5⟩
                                       · first | exact b14 (by rw [a3]; decide) | exact absurd a3 (by decide)
                                       · first | exact b14 (by rw [a3]; decide) | exact b27 (by rw [a5]; exact inI a4 (by omega))))
                               | (refine Or.inr (Or.inl ⟨j, p, hj, rfl, rfl, hp, rfl, rfl, ?_⟩)
                                  (try simp only [rs_c hA, rs_c (hB _), rW_c hA, Decidable.not_not] at *)
                                  first
                                    | (have h67a := i_nlt h67; simp [rHf, rTs, *]; done)
                                    | (exfalso; have h67a := i_nlt h67; simp_all; done)
                                    | (exfalso; have h67a := i_nle h67; simp_all; done)
                                    | (have h67a := i_nle h67; simp [rHf, rTs, *]; done))
                   · refine xG_run 8 rfl (by repeat' (first | exact trivial | assumption | exact xob_b rfl | exact xal_b rfl | (apply And.intro) | decide)) ?_
                     try dsimp only [xsto1, xsto2, xkill, xget, xset, gd_0, gd_s]
                     try rw [hj1]
                     refine xG_run 2 rfl (by repeat' (first | exact trivial | assumption | exact xob_b rfl | exact xal_b rfl | (apply And.intro) | decide)) ?_
                     try dsimp only [xsto1, xsto2, xkill, xget, xset, gd_0, gd_s]
                     try rw [hj1]
                     refine xG_br rfl (fun h130 => ?_) (fun h130 => ?_)
                     · refine xG_run 4 rfl (by repeat' (first | exact trivial | assumption | exact xob_b rfl | exact xal_b rfl | (apply And.intro) | decide)) ?_
                       try dsimp only [xsto1, xsto2, xkill, xget, xset, gd_0, gd_s]
                       try rw [hj1]
                       refine r2_i rfl rfl ?_
                       first
                         | exact Or.inl ⟨j, hj, rfl, rfl, rfl, rfl⟩
                         | (refine Or.inr (Or.inr ⟨?_, rfl, rfl⟩)
                            rintro ⟨⟨j9, a1, a2⟩, a3⟩
                            first
                              | exact no8 b4 ⟨j9, a1, a2⟩
                              | (rcases a3 with a3 | ⟨a3, p9, a4, a5⟩
                                 · first | exact b14 (by rw [a3]; decide) | exact absurd a3 (by decide)
                                 · first | exact b14 (by rw [a3]; decide) | exact b27 (by rw [a5]; exact inI a4 (by omega))))
                         | (refine Or.inr (Or.inl ⟨j, p, hj, rfl, rfl, hp, rfl, rfl, ?_⟩)
                            (try simp only [rs_c hA, rs_c (hB _), rW_c hA, Decidable.not_not] at *)
                            first
                              | (have h67a := i_nlt h67; simp [rHf, rTs, *]; done)
                              | (exfalso; have h67a := i_nlt h67; simp_all; done)
                              | (exfalso; have h67a := i_nle h67; simp_all; done)
                              | (have h67a := i_nle h67; simp [rHf, rTs, *]; done))
                     · refine xG_run 2 rfl (by repeat' (first | exact trivial | assumption | exact xob_b rfl | exact xal_b rfl | (apply And.intro) | decide)) ?_
                       try dsimp only [xsto1, xsto2, xkill, xget, xset, gd_0, gd_s]
                       try rw [hj1]
                       refine xG_br rfl (fun h136 => ?_) (fun h136 => ?_)
                       · refine xG_run 2 rfl (by repeat' (first | exact trivial | assumption | exact xob_b rfl | exact xal_b rfl | (apply And.intro) | decide)) ?_
                         try dsimp only [xsto1, xsto2, xkill, xget, xset, gd_0, gd_s]
                         try rw [hj1]
                         refine xG_br rfl (fun h156 => ?_) (fun h156 => ?_)
                         · refine xG_run 3 rfl (by repeat' (first | exact trivial | assumption | exact xob_b rfl | exact xal_b rfl | (apply And.intro) | decide)) ?_
                           try dsimp only [xsto1, xsto2, xkill, xget, xset, gd_0, gd_s]
                           try rw [hj1]
                           refine r2_i rfl rfl ?_
                           first
                             | exact Or.inl ⟨j, hj, rfl, rfl, rfl, rfl⟩
                             | (refine Or.inr (Or.inr ⟨?_, rfl, rfl⟩)
                                rintro ⟨⟨j9, a1, a2⟩, a3⟩
                                first
                                  | exact no8 b4 ⟨j9, a1, a2⟩
                                  | (rcases a3 with a3 | ⟨a3, p9, a4, a5⟩
                                     · first | exact b14 (by rw [a3]; decide) | exact absurd a3 (by decide)
                                     · first | exact b14 (by rw [a3]; decide) | exact b27 (by rw [a5]; exact inI a4 (by omega))))
                             | (refine Or.inr (Or.inl ⟨j, p, hj, rfl, rfl, hp, rfl, rfl, ?_⟩)
                                (try simp only [rs_c hA, rs_c (hB _), rW_c hA, Decidable.not_not] at *)
                                first
                                  | (have h67a := i_nlt h67; simp [rHf, rTs, *]; done)
                                  | (exfalso; have h67a := i_nlt h67; simp_all; done)
                                  | (exfalso; have h67a := i_nle h67; simp_all; done)
                                  | (have h67a := i_nle h67; simp [rHf, rTs, *]; done))
                         · refine xG_run 6 rfl (by repeat' (first | exact trivial | assumption | exact xob_b rfl | exact xal_b rfl | (apply And.intro) | decide)) ?_
                           try dsimp only [xsto1, xsto2, xkill, xget, xset, gd_0, gd_s]
                           try rw [hj1]
                           refine xG_c2 2 rfl (by repeat' (first | exact trivial | assumption | exact xob_b rfl | exact xal_b rfl | (apply And.intro) | decide)) rfl rfl (by decide) cw_X12_of (d' := d - 1) (e_of (p := p) (k := 5) rfl rfl (by omega)) (by omega) ?_
                           rintro v M' ⟨rfl, hM⟩
                           subst M'
                           dsimp only [Option.toList, List.cons_append, List.nil_append]
                           refine xG_run 4 rfl (by repeat' (first | exact trivial | assumption | exact xob_b rfl | exact xal_b rfl | (apply And.intro) | decide)) ?_
                           try dsimp only [xsto1, xsto2, xkill, xget, xset, gd_0, gd_s]
                           try rw [hj1]
                           refine r2_i rfl rfl ?_
                           first
                             | exact Or.inl ⟨j, hj, rfl, rfl, rfl, rfl⟩
                             | (refine Or.inr (Or.inr ⟨?_, rfl, rfl⟩)
                                rintro ⟨⟨j9, a1, a2⟩, a3⟩
                                first
                                  | exact no8 b4 ⟨j9, a1, a2⟩
                                  | (rcases a3 with a3 | ⟨a3, p9, a4, a5⟩
                                     · first | exact b14 (by rw [a3]; decide) | exact absurd a3 (by decide)
                                     · first | exact b14 (by rw [a3]; decide) | exact b27 (by rw [a5]; exact inI a4 (by omega))))
                             | (refine Or.inr (Or.inl ⟨j, p, hj, rfl, rfl, hp, rfl, rfl, ?_⟩)
                                (try simp only [rs_c hA, rs_c (hB _), rW_c hA, Decidable.not_not] at *)
                                first
                                  | (have h67a := i_nlt h67; simp [rHf, rTs, *]; done)
                                  | (exfalso; have h67a := i_nlt h67; simp_all; done)
                                  | (exfalso; have h67a := i_nle h67; simp_all; done)
                                  | (have h67a := i_nle h67; simp [rHf, rTs, *]; done))
                       · refine xG_run 3 rfl (by repeat' (first | exact trivial | assumption | exact xob_b rfl | exact xal_b rfl | (apply And.intro) | decide)) ?_
                         try dsimp only [xsto1, xsto2, xkill, xget, xset, gd_0, gd_s]
                         try rw [hj1]
                         refine xG_c2 2 rfl (by repeat' (first | exact trivial | assumption | exact xob_b rfl | exact xal_b rfl | (apply And.intro) | decide)) rfl rfl (by decide) cw_X12_of (d' := d - 1) (e_of (p := p) (k := 5) rfl rfl (by omega)) (by omega) ?_
                         rintro v M' ⟨rfl, hM⟩
                         subst M'
                         dsimp only [Option.toList, List.cons_append, List.nil_append]
                         refine xG_br rfl (fun h145 => ?_) (fun h145 => ?_)
                         · refine xG_run 2 rfl (by repeat' (first | exact trivial | assumption | exact xob_b rfl | exact xal_b rfl | (apply And.intro) | decide)) ?_
                           try dsimp only [xsto1, xsto2, xkill, xget, xset, gd_0, gd_s]
                           try rw [hj1]
                           refine xG_br rfl (fun h156 => ?_) (fun h156 => ?_)
                           · refine xG_run 3 rfl (by repeat' (first | exact trivial | assumption | exact xob_b rfl | exact xal_b rfl | (apply And.intro) | decide)) ?_
                             try dsimp only [xsto1, xsto2, xkill, xget, xset, gd_0, gd_s]
                             try rw [hj1]
                             refine r2_i rfl rfl ?_
                             first
                               | exact Or.inl ⟨j, hj, rfl, rfl, rfl, rfl⟩
                               | (refine Or.inr (Or.inr ⟨?_, rfl, rfl⟩)
                                  rintro ⟨⟨j9, a1, a2⟩, a3⟩
                                  first
                                    | exact no8 b4 ⟨j9, a1, a2⟩
                                    | (rcases a3 with a3 | ⟨a3, p9, a4, a5⟩
                                       · first | exact b14 (by rw [a3]; decide) | exact absurd a3 (by decide)
                                       · first | exact b14 (by rw [a3]; decide) | exact b27 (by rw [a5]; exact inI a4 (by omega))))
                               | (refine Or.inr (Or.inl ⟨j, p, hj, rfl, rfl, hp, rfl, rfl, ?_⟩)
                                  (try simp only [rs_c hA, rs_c (hB _), rW_c hA, Decidable.not_not] at *)
                                  first
                                    | (have h67a := i_nlt h67; simp [rHf, rTs, *]; done)
                                    | (exfalso; have h67a := i_nlt h67; simp_all; done)
                                    | (exfalso; have h67a := i_nle h67; simp_all; done)
                                    | (have h67a := i_nle h67; simp [rHf, rTs, *]; done))
                           · refine xG_run 6 rfl (by repeat' (first | exact trivial | assumption | exact xob_b rfl | exact xal_b rfl | (apply And.intro) | decide)) ?_
                             try dsimp only [xsto1, xsto2, xkill, xget, xset, gd_0, gd_s]
                             try rw [hj1]
                             refine xG_c2 2 rfl (by repeat' (first | exact trivial | assumption | exact xob_b rfl | exact xal_b rfl | (apply And.intro) | decide)) rfl rfl (by decide) cw_X12_of (d' := d - 1) (e_of (p := p) (k := 5) rfl rfl (by omega)) (by omega) ?_
                             rintro v M' ⟨rfl, hM⟩
                             subst M'
                             dsimp only [Option.toList, List.cons_append, List.nil_append]
                             refine xG_run 4 rfl (by repeat' (first | exact trivial | assumption | exact xob_b rfl | exact xal_b rfl | (apply And.intro) | decide)) ?_
                             try dsimp only [xsto1, xsto2, xkill, xget, xset, gd_0, gd_s]
                             try rw [hj1]
                             refine r2_i rfl rfl ?_
                             first
                               | exact Or.inl ⟨j, hj, rfl, rfl, rfl, rfl⟩
                               | (refine Or.inr (Or.inr ⟨?_, rfl, rfl⟩)
                                  rintro ⟨⟨j9, a1, a2⟩, a3⟩
                                  first
                                    | exact no8 b4 ⟨j9, a1, a2⟩
                                    | (rcases a3 with a3 | ⟨a3, p9, a4, a5⟩
                                       · first | exact b14 (by rw [a3]; decide) | exact absurd a3 (by decide)
                                       · first | exact b14 (by rw [a3]; decide) | exact b27 (by rw [a5]; exact inI a4 (by omega))))
                               | (refine Or.inr (Or.inl ⟨j, p, hj, rfl, rfl, hp, rfl, rfl, ?_⟩)
                                  (try simp only [rs_c hA, rs_c (hB _), rW_c hA, Decidable.not_not] at *)
                                  first
                                    | (have h67a := i_nlt h67; simp [rHf, rTs, *]; done)
                                    | (exfalso; have h67a := i_nlt h67; simp_all; done)
                                    | (exfalso; have h67a := i_nle h67; simp_all; done)
                                    | (have h67a := i_nle h67; simp [rHf, rTs, *]; done))
                         · refine xG_run 4 rfl (by repeat' (first | exact trivial | assumption | exact xob_b rfl | exact xal_b rfl | (apply And.intro) | decide)) ?_
                           try dsimp only [xsto1, xsto2, xkill, xget, xset, gd_0, gd_s]
                           try rw [hj1]
                           refine r2_i rfl rfl ?_
                           first
                             | exact Or.inl ⟨j, hj, rfl, rfl, rfl, rfl⟩
                             | (refine Or.inr (Or.inr ⟨?_, rfl, rfl⟩)
                                rintro ⟨⟨j9, a1, a2⟩, a3⟩
                                first
                                  | exact no8 b4 ⟨j9, a1, a2⟩
                                  | (rcases a3 with a3 | ⟨a3, p9, a4, a5⟩
                                     · first | exact b14 (by rw [a3]; decide) | exact absurd a3 (by decide)
                                     · first | exact b14 (by rw [a3]; decide) | exact b27 (by rw [a5]; exact inI a4 (by omega))))
                             | (refine Or.inr (Or.inl ⟨j, p, hj, rfl, rfl, hp, rfl, rfl, ?_⟩)
                                (try simp only [rs_c hA, rs_c (hB _), rW_c hA, Decidable.not_not] at *)
                                first
                                  | (have h67a := i_nlt h67; simp [rHf, rTs, *]; done)
                                  | (exfalso; have h67a := i_nlt h67; simp_all; done)
                                  | (exfalso; have h67a := i_nle h67; simp_all; done)
                                  | (have h67a := i_nle h67; simp [rHf, rTs, *]; done))
                 · refine xG_run 3 rfl (by repeat' (first | exact trivial | assumption | exact xob_b rfl | exact xal_b rfl | (apply And.intro) | decide)) ?_
                   try dsimp only [xsto1, xsto2, xkill, xget, xset, gd_0, gd_s]
                   try rw [hj1]
                   refine xG_c2 2 rfl (by repeat' (first | exact trivial | assumption | exact xob_b rfl | exact xal_b rfl | (apply And.intro) | decide)) rfl rfl (by decide) cw_X12_of (d' := d - 1) (e_of (p := p) (k := 3) rfl rfl (by omega)) (by omega) ?_
                   rintro v M' ⟨rfl, hM⟩
                   subst M'
                   dsimp only [Option.toList, List.cons_append, List.nil_append]
                   refine xG_run 8 rfl (by repeat' (first | exact trivial | assumption | exact xob_b rfl | exact xal_b rfl | (apply And.intro) | decide)) ?_
                   try dsimp only [xsto1, xsto2, xkill, xget, xset, gd_0, gd_s]
                   try rw [hj1]
                   refine xG_br rfl (fun h91 => ?_) (fun h91 => ?_)
                   · refine xG_run 2 rfl (by repeat' (first | exact trivial | assumption | exact xob_b rfl | exact xal_b rfl | (apply And.intro) | decide)) ?_
                     try dsimp only [xsto1, xsto2, xkill, xget, xset, gd_0, gd_s]
                     try rw [hj1]
                     refine xG_br rfl (fun h104 => ?_) (fun h104 => ?_)
                     · refine xG_run 7 rfl (by repeat' (first | exact trivial | assumption | exact xob_b rfl | exact xal_b rfl | (apply And.intro) | decide)) ?_
                       try dsimp only [xsto1, xsto2, xkill, xget, xset, gd_0, gd_s]
                       try rw [hj1]
                       refine xG_br rfl (fun h130 => ?_) (fun h130 => ?_)
                       · refine xG_run 4 rfl (by repeat' (first | exact trivial | assumption | exact xob_b rfl | exact xal_b rfl | (apply And.intro) | decide)) ?_
                         try dsimp only [xsto1, xsto2, xkill, xget, xset, gd_0, gd_s]
                         try rw [hj1]
                         refine r2_i rfl rfl ?_
                         first
                           | exact Or.inl ⟨j, hj, rfl, rfl, rfl, rfl⟩
                           | (refine Or.inr (Or.inr ⟨?_, rfl, rfl⟩)
                              rintro ⟨⟨j9, a1, a2⟩, a3⟩
                              first
                                | exact no8 b4 ⟨j9, a1, a2⟩
                                | (rcases a3 with a3 | ⟨a3, p9, a4, a5⟩
                                   · first | exact b14 (by rw [a3]; decide) | exact absurd a3 (by decide)
                                   · first | exact b14 (by rw [a3]; decide) | exact b27 (by rw [a5]; exact inI a4 (by omega))))
                           | (refine Or.inr (Or.inl ⟨j, p, hj, rfl, rfl, hp, rfl, rfl, ?_⟩)
                              (try simp only [rs_c hA, rs_c (hB _), rW_c hA, Decidable.not_not] at *)
                              first
                                | (have h67a := i_nlt h67; simp [rHf, rTs, *]; done)
                                | (exfalso; have h67a := i_nlt h67; simp_all; done)
                                | (exfalso; have h67a := i_nle h67; simp_all; done)
                                | (have h67a := i_nle h67; simp [rHf, rTs, *]; done))
                       · refine xG_run 2 rfl (by repeat' (first | exact trivial | assumption | exact xob_b rfl | exact xal_b rfl | (apply And.intro) | decide)) ?_
                         try dsimp only [xsto1, xsto2, xkill, xget, xset, gd_0, gd_s]
                         try rw [hj1]
                         refine xG_br rfl (fun h136 => ?_) (fun h136 => ?_)
                         · refine xG_run 2 rfl (by repeat' (first | exact trivial | assumption | exact xob_b rfl | exact xal_b rfl | (apply And.intro) | decide)) ?_
                           try dsimp only [xsto1, xsto2, xkill, xget, xset, gd_0, gd_s]
                           try rw [hj1]
                           refine xG_br rfl (fun h156 => ?_) (fun h156 => ?_)
                           · refine xG_run 3 rfl (by repeat' (first | exact trivial | assumption | exact xob_b rfl | exact xal_b rfl | (apply And.intro) | decide)) ?_
                             try dsimp only [xsto1, xsto2, xkill, xget, xset, gd_0, gd_s]
                             try rw [hj1]
                             refine r2_i rfl rfl ?_
                             first
                               | exact Or.inl ⟨j, hj, rfl, rfl, rfl, rfl⟩
                               | (refine Or.inr (Or.inr ⟨?_, rfl, rfl⟩)
                                  rintro ⟨⟨j9, a1, a2⟩, a3⟩
                                  first
                                    | exact no8 b4 ⟨j9, a1, a2⟩
                                    | (rcases a3 with a3 | ⟨a3, p9, a4, a5⟩
                                       · first | exact b14 (by rw [a3]; decide) | exact absurd a3 (by decide)
                                       · first | exact b14 (by rw [a3]; decide) | exact b27 (by rw [a5]; exact inI a4 (by omega))))
                               | (refine Or.inr (Or.inl ⟨j, p, hj, rfl, rfl, hp, rfl, rfl, ?_⟩)
                                  (try simp only [rs_c hA, rs_c (hB _), rW_c hA, Decidable.not_not] at *)
                                  first
                                    | (have h67a := i_nlt h67; simp [rHf, rTs, *]; done)
                                    | (exfalso; have h67a := i_nlt h67; simp_all; done)
                                    | (exfalso; have h67a := i_nle h67; simp_all; done)
                                    | (have h67a := i_nle h67; simp [rHf, rTs, *]; done))
                           · refine xG_run 6 rfl (by repeat' (first | exact trivial | assumption | exact xob_b rfl | exact xal_b rfl | (apply And.intro) | decide)) ?_
                             try dsimp only [xsto1, xsto2, xkill, xget, xset, gd_0, gd_s]
                             try rw [hj1]
                             refine xG_c2 2 rfl (by repeat' (first | exact trivial | assumption | exact xob_b rfl | exact xal_b rfl | (apply And.intro) | decide)) rfl rfl (by decide) cw_X12_of (d' := d - 1) (e_of (p := p) (k := 5) rfl rfl (by omega)) (by omega) ?_
                             rintro v M' ⟨rfl, hM⟩
                             subst M'
                             dsimp only [Option.toList, List.cons_append, List.nil_append]
                             refine xG_run 4 rfl (by repeat' (first | exact trivial | assumption | exact xob_b rfl | exact xal_b rfl | (apply And.intro) | decide)) ?_
                             try dsimp only [xsto1, xsto2, xkill, xget, xset, gd_0, gd_s]
                             try rw [hj1]
                             refine r2_i rfl rfl ?_
                             first
                               | exact Or.inl ⟨j, hj, rfl, rfl, rfl, rfl⟩
                               | (refine Or.inr (Or.inr ⟨?_, rfl, rfl⟩)
                                  rintro ⟨⟨j9, a1, a2⟩, a3⟩
                                  first
                                    | exact no8 b4 ⟨j9, a1, a2⟩
                                    | (rcases a3 with a3 | ⟨a3, p9, a4, a5⟩
                                       · first | exact b14 (by rw [a3]; decide) | exact absurd a3 (by decide)
                                       · first | exact b14 (by rw [a3]; decide) | exact b27 (by rw [a5]; exact inI a4 (by omega))))
                               | (refine Or.inr (Or.inl ⟨j, p, hj, rfl, rfl, hp, rfl, rfl, ?_⟩)
                                  (try simp only [rs_c hA, rs_c (hB _), rW_c hA, Decidable.not_not] at *)
                                  first
                                    | (have h67a := i_nlt h67; simp [rHf, rTs, *]; done)
                                    | (exfalso; have h67a := i_nlt h67; simp_all; done)
                                    | (exfalso; have h67a := i_nle h67; simp_all; done)
                                    | (have h67a := i_nle h67; simp [rHf, rTs, *]; done))
                         · refine xG_run 3 rfl (by repeat' (first | exact trivial | assumption | exact xob_b rfl | exact xal_b rfl | (apply And.intro) | decide)) ?_
                           try dsimp only [xsto1, xsto2, xkill, xget, xset, gd_0, gd_s]
                           try rw [hj1]
                           refine xG_c2 2 rfl (by repeat' (first | exact trivial | assumption | exact xob_b rfl | exact xal_b rfl | (apply And.intro) | decide)) rfl rfl (by decide) cw_X12_of (d' := d - 1) (e_of (p := p) (k := 5) rfl rfl (by omega)) (by omega) ?_
                           rintro v M' ⟨rfl, hM⟩
                           subst M'
                           dsimp only [Option.toList, List.cons_append, List.nil_append]
                           refine xG_br rfl (fun h145 => ?_) (fun h145 => ?_)
                           · refine xG_run 2 rfl (by repeat' (first | exact trivial | assumption | exact xob_b rfl | exact xal_b rfl | (apply And.intro) | decide)) ?_
                             try dsimp only [xsto1, xsto2, xkill, xget, xset, gd_0, gd_s]
                             try rw [hj1]
                             refine xG_br rfl (fun h156 => ?_) (fun h156 => ?_)
                             · refine xG_run 3 rfl (by repeat' (first | exact trivial | assumption | exact xob_b rfl | exact xal_b rfl | (apply And.intro) | decide)) ?_
                               try dsimp only [xsto1, xsto2, xkill, xget, xset, gd_0, gd_s]
                               try rw [hj1]
                               refine r2_i rfl rfl ?_
                               first
                                 | exact Or.inl ⟨j, hj, rfl, rfl, rfl, rfl⟩
                                 | (refine Or.inr (Or.inr ⟨?_, rfl, rfl⟩)
                                    rintro ⟨⟨j9, a1, a2⟩, a3⟩
                                    first
                                      | exact no8 b4 ⟨j9, a1, a2⟩
                                      | (rcases a3 with a3 | ⟨a3, p9, a4, a5⟩
                                         · first | exact b14 (by rw [a3]; decide) | exact absurd a3 (by decide)
                                         · first | exact b14 (by rw [a3]; decide) | exact b27 (by rw [a5]; exact inI a4 (by omega))))
                                 | (refine Or.inr (Or.inl ⟨j, p, hj, rfl, rfl, hp, rfl, rfl, ?_⟩)
                                    (try simp only [rs_c hA, rs_c (hB _), rW_c hA, Decidable.not_not] at *)
                                    first
                                      | (have h67a := i_nlt h67; simp [rHf, rTs, *]; done)
                                      | (exfalso; have h67a := i_nlt h67; simp_all; done)
                                      | (exfalso; have h67a := i_nle h67; simp_all; done)
                                      | (have h67a := i_nle h67; simp [rHf, rTs, *]; done))
                             · refine xG_run 6 rfl (by repeat' (first | exact trivial | assumption | exact xob_b rfl | exact xal_b rfl | (apply And.intro) | decide)) ?_
                               try dsimp only [xsto1, xsto2, xkill, xget, xset, gd_0, gd_s]
                               try rw [hj1]
                               refine xG_c2 2 rfl (by repeat' (first | exact trivial | assumption | exact xob_b rfl | exact xal_b rfl | (apply And.intro) | decide)) rfl rfl (by decide) cw_X12_of (d' := d - 1) (e_of (p := p) (k := 5) rfl rfl (by omega)) (by omega) ?_
                               rintro v M' ⟨rfl, hM⟩
                               subst M'
                               dsimp only [Option.toList, List.cons_append, List.nil_append]
                               refine xG_run 4 rfl (by repeat' (first | exact trivial | assumption | exact xob_b rfl | exact xal_b rfl | (apply And.intro) | decide)) ?_
                               try dsimp only [xsto1, xsto2, xkill, xget, xset, gd_0, gd_s]
                               try rw [hj1]
                               refine r2_i rfl rfl ?_
                               first
                                 | exact Or.inl ⟨j, hj, rfl, rfl, rfl, rfl⟩
                                 | (refine Or.inr (Or.inr ⟨?_, rfl, rfl⟩)
                                    rintro ⟨⟨j9, a1, a2⟩, a3⟩
                                    first
                                      | exact no8 b4 ⟨j9, a1, a2⟩
                                      | (rcases a3 with a3 | ⟨a3, p9, a4, a5⟩
                                         · first | exact b14 (by rw [a3]; decide) | exact absurd a3 (by decide)
                                         · first | exact b14 (by rw [a3]; decide) | exact b27 (by rw [a5]; exact inI a4 (by omega))))
                                 | (refine Or.inr (Or.inl ⟨j, p, hj, rfl, rfl, hp, rfl, rfl, ?_⟩)
                                    (try simp only [rs_c hA, rs_c (hB _), rW_c hA, Decidable.not_not] at *)
                                    first
                                      | (have h67a := i_nlt h67; simp [rHf, rTs, *]; done)
                                      | (exfalso; have h67a := i_nlt h67; simp_all; done)
                                      | (exfalso; have h67a := i_nle h67; simp_all; done)
                                      | (have h67a := i_nle h67; simp [rHf, rTs, *]; done))
                           · refine xG_run 4 rfl (by repeat' (first | exact trivial | assumption | exact xob_b rfl | exact xal_b rfl | (apply And.intro) | decide)) ?_
                             try dsimp only [xsto1, xsto2, xkill, xget, xset, gd_0, gd_s]
                             try rw [hj1]
                             refine r2_i rfl rfl ?_
                             first
                               | exact Or.inl ⟨j, hj, rfl, rfl, rfl, rfl⟩
                               | (refine Or.inr (Or.inr ⟨?_, rfl, rfl⟩)
                                  rintro ⟨⟨j9, a1, a2⟩, a3⟩
                                  first
                                    | exact no8 b4 ⟨j9, a1, a2⟩
                                    | (rcases a3 with a3 | ⟨a3, p9, a4, a5⟩
                                       · first | exact b14 (by rw [a3]; decide) | exact absurd a3 (by decide)
                                       · first | exact b14 (by rw [a3]; decide) | exact b27 (by rw [a5]; exact inI a4 (by omega))))
                               | (refine Or.inr (Or.inl ⟨j, p, hj, rfl, rfl, hp, rfl, rfl, ?_⟩)
                                  (try simp only [rs_c hA, rs_c (hB _), rW_c hA, Decidable.not_not] at *)
                                  first
                                    | (have h67a := i_nlt h67; simp [rHf, rTs, *]; done)
                                    | (exfalso; have h67a := i_nlt h67; simp_all; done)
                                    | (exfalso; have h67a := i_nle h67; simp_all; done)
                                    | (have h67a := i_nle h67; simp [rHf, rTs, *]; done))
                     · refine xG_run 4 rfl (by repeat' (first | exact trivial | assumption | exact xob_b rfl | exact xal_b rfl | (apply And.intro) | decide)) ?_
                       try dsimp only [xsto1, xsto2, xkill, xget, xset, gd_0, gd_s]
                       try rw [hj1]
                       refine xG_c2 2 rfl (by repeat' (first | exact trivial | assumption | exact xob_b rfl | exact xal_b rfl | (apply And.intro) | decide)) rfl rfl (by decide) cw_X12_of (d' := d - 1) (e_of (p := p) (k := 4) rfl rfl (by omega)) (by omega) ?_
                       rintro v M' ⟨rfl, hM⟩
                       subst M'
                       dsimp only [Option.toList, List.cons_append, List.nil_append]
                       refine xG_run 8 rfl (by repeat' (first | exact trivial | assumption | exact xob_b rfl | exact xal_b rfl | (apply And.intro) | decide)) ?_
                       try dsimp only [xsto1, xsto2, xkill, xget, xset, gd_0, gd_s]
                       try rw [hj1]
                       refine xG_br rfl (fun h130 => ?_) (fun h130 => ?_)
                       · refine xG_run 4 rfl (by repeat' (first | exact trivial | assumption | exact xob_b rfl | exact xal_b rfl | (apply And.intro) | decide)) ?_
                         try dsimp only [xsto1, xsto2, xkill, xget, xset, gd_0, gd_s]
                         try rw [hj1]
                         refine r2_i rfl rfl ?_
                         first
                           | exact Or.inl ⟨j, hj, rfl, rfl, rfl, rfl⟩
                           | (refine Or.inr (Or.inr ⟨?_, rfl, rfl⟩)
                              rintro ⟨⟨j9, a1, a2⟩, a3⟩
                              first
                                | exact no8 b4 ⟨j9, a1, a2⟩
                                | (rcases a3 with a3 | ⟨a3, p9, a4, a5⟩
                                   · first | exact b14 (by rw [a3]; decide) | exact absurd a3 (by decide)
                                   · first | exact b14 (by rw [a3]; decide) | exact b27 (by rw [a5]; exact inI a4 (by omega))))
                           | (refine Or.inr (Or.inl ⟨j, p, hj, rfl, rfl, hp, rfl, rfl, ?_⟩)
                              (try simp only [rs_c hA, rs_c (hB _), rW_c hA, Decidable.not_not] at *)
                              first
                                | (have h67a := i_nlt h67; simp [rHf, rTs, *]; done)
                                | (exfalso; have h67a := i_nlt h67; simp_all; done)
                                | (exfalso; have h67a := i_nle h67; simp_all; done)
                                | (have h67a := i_nle h67; simp [rHf, rTs, *]; done))
                       · refine xG_run 2 rfl (by repeat' (first | exact trivial | assumption | exact xob_b rfl | exact xal_b rfl | (apply And.intro) | decide)) ?_
                         try dsimp only [xsto1, xsto2, xkill, xget, xset, gd_0, gd_s]
                         try rw [hj1]
                         refine xG_br rfl (fun h136 => ?_) (fun h136 => ?_)
                         · refine xG_run 2 rfl (by repeat' (first | exact trivial | assumption | exact xob_b rfl | exact xal_b rfl | (apply And.intro) | decide)) ?_
                           try dsimp only [xsto1, xsto2, xkill, xget, xset, gd_0, gd_s]
                           try rw [hj1]
                           refine xG_br rfl (fun h156 => ?_) (fun h156 => ?_)
                           · refine xG_run 3 rfl (by repeat' (first | exact trivial | assumption | exact xob_b rfl | exact xal_b rfl | (apply And.intro) | decide)) ?_
                             try dsimp only [xsto1, xsto2, xkill, xget, xset, gd_0, gd_s]
                             try rw [hj1]
                             refine r2_i rfl rfl ?_
                             first
                               | exact Or.inl ⟨j, hj, rfl, rfl, rfl, rfl⟩
                               | (refine Or.inr (Or.inr ⟨?_, rfl, rfl⟩)
                                  rintro ⟨⟨j9, a1, a2⟩, a3⟩
                                  first
                                    | exact no8 b4 ⟨j9, a1, a2⟩
                                    | (rcases a3 with a3 | ⟨a3, p9, a4, a5⟩
                                       · first | exact b14 (by rw [a3]; decide) | exact absurd a3 (by decide)
                                       · first | exact b14 (by rw [a3]; decide) | exact b27 (by rw [a5]; exact inI a4 (by omega))))
                               | (refine Or.inr (Or.inl ⟨j, p, hj, rfl, rfl, hp, rfl, rfl, ?_⟩)
                                  (try simp only [rs_c hA, rs_c (hB _), rW_c hA, Decidable.not_not] at *)
                                  first
                                    | (have h67a := i_nlt h67; simp [rHf, rTs, *]; done)
                                    | (exfalso; have h67a := i_nlt h67; simp_all; done)
                                    | (exfalso; have h67a := i_nle h67; simp_all; done)
                                    | (have h67a := i_nle h67; simp [rHf, rTs, *]; done))
                           · refine xG_run 6 rfl (by repeat' (first | exact trivial | assumption | exact xob_b rfl | exact xal_b rfl | (apply And.intro) | decide)) ?_
                             try dsimp only [xsto1, xsto2, xkill, xget, xset, gd_0, gd_s]
                             try rw [hj1]
                             refine xG_c2 2 rfl (by repeat' (first | exact trivial | assumption | exact xob_b rfl | exact xal_b rfl | (apply And.intro) | decide)) rfl rfl (by decide) cw_X12_of (d' := d - 1) (e_of (p := p) (k := 5) rfl rfl (by omega)) (by omega) ?_
                             rintro v M' ⟨rfl, hM⟩
                             subst M'
                             dsimp only [Option.toList, List.cons_append, List.nil_append]
                             refine xG_run 4 rfl (by repeat' (first | exact trivial | assumption | exact xob_b rfl | exact xal_b rfl | (apply And.intro) | decide)) ?_
                             try dsimp only [xsto1, xsto2, xkill, xget, xset, gd_0, gd_s]
                             try rw [hj1]
                             refine r2_i rfl rfl ?_
                             first
                               | exact Or.inl ⟨j, hj, rfl, rfl, rfl, rfl⟩
                               | (refine Or.inr (Or.inr ⟨?_, rfl, rfl⟩)
                                  rintro ⟨⟨j9, a1, a2⟩, a3⟩
                                  first
                                    | exact no8 b4 ⟨j9, a1, a2⟩
                                    | (rcases a3 with a3 | ⟨a3, p9, a4, a5⟩
                                       · first | exact b14 (by rw [a3]; decide) | exact absurd a3 (by decide)
                                       · first | exact b14 (by rw [a3]; decide) | exact b27 (by rw [a5]; exact inI a4 (by omega))))
                               | (refine Or.inr (Or.inl ⟨j, p, hj, rfl, rfl, hp, rfl, rfl, ?_⟩)
                                  (try simp only [rs_c hA, rs_c (hB _), rW_c hA, Decidable.not_not] at *)
                                  first
                                    | (have h67a := i_nlt h67; simp [rHf, rTs, *]; done)
                                    | (exfalso; have h67a := i_nlt h67; simp_all; done)
                                    | (exfalso; have h67a := i_nle h67; simp_all; done)
                                    | (have h67a := i_nle h67; simp [rHf, rTs, *]; done))
                         · refine xG_run 3 rfl (by repeat' (first | exact trivial | assumption | exact xob_b rfl | exact xal_b rfl | (apply And.intro) | decide)) ?_
                           try dsimp only [xsto1, xsto2, xkill, xget, xset, gd_0, gd_s]
                           try rw [hj1]
                           refine xG_c2 2 rfl (by repeat' (first | exact trivial | assumption | exact xob_b rfl | exact xal_b rfl | (apply And.intro) | decide)) rfl rfl (by decide) cw_X12_of (d' := d - 1) (e_of (p := p) (k := 5) rfl rfl (by omega)) (by omega) ?_
                           rintro v M' ⟨rfl, hM⟩
                           subst M'
                           dsimp only [Option.toList, List.cons_append, List.nil_append]
                           refine xG_br rfl (fun h145 => ?_) (fun h145 => ?_)
                           · refine xG_run 2 rfl (by repeat' (first | exact trivial | assumption | exact xob_b rfl | exact xal_b rfl | (apply And.intro) | decide)) ?_
                             try dsimp only [xsto1, xsto2, xkill, xget, xset, gd_0, gd_s]
                             try rw [hj1]
                             refine xG_br rfl (fun h156 => ?_) (fun h156 => ?_)
                             · refine xG_run 3 rfl (by repeat' (first | exact trivial | assumption | exact xob_b rfl | exact xal_b rfl | (apply And.intro) | decide)) ?_
                               try dsimp only [xsto1, xsto2, xkill, xget, xset, gd_0, gd_s]
                               try rw [hj1]
                               refine r2_i rfl rfl ?_
                               first
                                 | exact Or.inl ⟨j, hj, rfl, rfl, rfl, rfl⟩
                                 | (refine Or.inr (Or.inr ⟨?_, rfl, rfl⟩)
                                    rintro ⟨⟨j9, a1, a2⟩, a3⟩
                                    first
                                      | exact no8 b4 ⟨j9, a1, a2⟩
                                      | (rcases a3 with a3 | ⟨a3, p9, a4, a5⟩
                                         · first | exact b14 (by rw [a3]; decide) | exact absurd a3 (by decide)
                                         · first | exact b14 (by rw [a3]; decide) | exact b27 (by rw [a5]; exact inI a4 (by omega))))
                                 | (refine Or.inr (Or.inl ⟨j, p, hj, rfl, rfl, hp, rfl, rfl, ?_⟩)
                                    (try simp only [rs_c hA, rs_c (hB _), rW_c hA, Decidable.not_not] at *)
                                    first
                                      | (have h67a := i_nlt h67; simp [rHf, rTs, *]; done)
                                      | (exfalso; have h67a := i_nlt h67; simp_all; done)
                                      | (exfalso; have h67a := i_nle h67; simp_all; done)
                                      | (have h67a := i_nle h67; simp [rHf, rTs, *]; done))
                             · refine xG_run 6 rfl (by repeat' (first | exact trivial | assumption | exact xob_b rfl | exact xal_b rfl | (apply And.intro) | decide)) ?_
                               try dsimp only [xsto1, xsto2, xkill, xget, xset, gd_0, gd_s]
                               try rw [hj1]
                               refine xG_c2 2 rfl (by repeat' (first | exact trivial | assumption | exact xob_b rfl | exact xal_b rfl | (apply And.intro) | decide)) rfl rfl (by decide) cw_X12_of (d' := d - 1) (e_of (p := p) (k := 5) rfl rfl (by omega)) (by omega) ?_
                               rintro v M' ⟨rfl, hM⟩
                               subst M'
                               dsimp only [Option.toList, List.cons_append, List.nil_append]
                               refine xG_run 4 rfl (by repeat' (first | exact trivial | assumption | exact xob_b rfl | exact xal_b rfl | (apply And.intro) | decide)) ?_
                               try dsimp only [xsto1, xsto2, xkill, xget, xset, gd_0, gd_s]
                               try rw [hj1]
                               refine r2_i rfl rfl ?_
                               first
                                 | exact Or.inl ⟨j, hj, rfl, rfl, rfl, rfl⟩
                                 | (refine Or.inr (Or.inr ⟨?_, rfl, rfl⟩)
                                    rintro ⟨⟨j9, a1, a2⟩, a3⟩
                                    first
                                      | exact no8 b4 ⟨j9, a1, a2⟩
                                      | (rcases a3 with a3 | ⟨a3, p9, a4, a5⟩
                                         · first | exact b14 (by rw [a3]; decide) | exact absurd a3 (by decide)
                                         · first | exact b14 (by rw [a3]; decide) | exact b27 (by rw [a5]; exact inI a4 (by omega))))
                                 | (refine Or.inr (Or.inl ⟨j, p, hj, rfl, rfl, hp, rfl, rfl, ?_⟩)
                                    (try simp only [rs_c hA, rs_c (hB _), rW_c hA, Decidable.not_not] at *)
                                    first
                                      | (have h67a := i_nlt h67; simp [rHf, rTs, *]; done)
                                      | (exfalso; have h67a := i_nlt h67; simp_all; done)
                                      | (exfalso; have h67a := i_nle h67; simp_all; done)
                                      | (have h67a := i_nle h67; simp [rHf, rTs, *]; done))
                           · refine xG_run 4 rfl (by repeat' (first | exact trivial | assumption | exact xob_b rfl | exact xal_b rfl | (apply And.intro) | decide)) ?_
                             try dsimp only [xsto1, xsto2, xkill, xget, xset, gd_0, gd_s]
                             try rw [hj1]
                             refine r2_i rfl rfl ?_
                             first
                               | exact Or.inl ⟨j, hj, rfl, rfl, rfl, rfl⟩
                               | (refine Or.inr (Or.inr ⟨?_, rfl, rfl⟩)
                                  rintro ⟨⟨j9, a1, a2⟩, a3⟩
                                  first
                                    | exact no8 b4 ⟨j9, a1, a2⟩
                                    | (rcases a3 with a3 | ⟨a3, p9, a4, a5⟩
                                       · first | exact b14 (by rw [a3]; decide) | exact absurd a3 (by decide)
                                       · first | exact b14 (by rw [a3]; decide) | exact b27 (by rw [a5]; exact inI a4 (by omega))))
                               | (refine Or.inr (Or.inl ⟨j, p, hj, rfl, rfl, hp, rfl, rfl, ?_⟩)
                                  (try simp only [rs_c hA, rs_c (hB _), rW_c hA, Decidable.not_not] at *)
                                  first
                                    | (have h67a := i_nlt h67; simp [rHf, rTs, *]; done)
                                    | (exfalso; have h67a := i_nlt h67; simp_all; done)
                                    | (exfalso; have h67a := i_nle h67; simp_all; done)
                                    | (have h67a := i_nle h67; simp [rHf, rTs, *]; done))
                   · refine xG_run 8 rfl (by repeat' (first | exact trivial | assumption | exact xob_b rfl | exact xal_b rfl | (apply And.intro) | decide)) ?_
                     try dsimp only [xsto1, xsto2, xkill, xget, xset, gd_0, gd_s]
                     try rw [hj1]
                     refine xG_run 2 rfl (by repeat' (first | exact trivial | assumption | exact xob_b rfl | exact xal_b rfl | (apply And.intro) | decide)) ?_
                     try dsimp only [xsto1, xsto2, xkill, xget, xset, gd_0, gd_s]
                     try rw [hj1]
                     refine xG_br rfl (fun h130 => ?_) (fun h130 => ?_)
                     · refine xG_run 4 rfl (by repeat' (first | exact trivial | assumption | exact xob_b rfl | exact xal_b rfl | (apply And.intro) | decide)) ?_
                       try dsimp only [xsto1, xsto2, xkill, xget, xset, gd_0, gd_s]
                       try rw [hj1]
                       refine r2_i rfl rfl ?_
                       first
                         | exact Or.inl ⟨j, hj, rfl, rfl, rfl, rfl⟩
                         | (refine Or.inr (Or.inr ⟨?_, rfl, rfl⟩)
                            rintro ⟨⟨j9, a1, a2⟩, a3⟩
                            first
                              | exact no8 b4 ⟨j9, a1, a2⟩
                              | (rcases a3 with a3 | ⟨a3, p9, a4, a5⟩
                                 · first | exact b14 (by rw [a3]; decide) | exact absurd a3 (by decide)
                                 · first | exact b14 (by rw [a3]; decide) | exact b27 (by rw [a5]; exact inI a4 (by omega))))
                         | (refine Or.inr (Or.inl ⟨j, p, hj, rfl, rfl, hp, rfl, rfl, ?_⟩)
                            (try simp only [rs_c hA, rs_c (hB _), rW_c hA, Decidable.not_not] at *)
                            first
                              | (have h67a := i_nlt h67; simp [rHf, rTs, *]; done)
                              | (exfalso; have h67a := i_nlt h67; simp_all; done)
                              | (exfalso; have h67a := i_nle h67; simp_all; done)
                              | (have h67a := i_nle h67; simp [rHf, rTs, *]; done))
                     · refine xG_run 2 rfl (by repeat' (first | exact trivial | assumption | exact xob_b rfl | exact xal_b rfl | (apply And.intro) | decide)) ?_
                       try dsimp only [xsto1, xsto2, xkill, xget, xset, gd_0, gd_s]
                       try rw [hj1]
                       refine xG_br rfl (fun h136 => ?_) (fun h136 => ?_)
                       · refine xG_run 2 rfl (by repeat' (first | exact trivial | assumption | exact xob_b rfl | exact xal_b rfl | (apply And.intro) | decide)) ?_
                         try dsimp only [xsto1, xsto2, xkill, xget, xset, gd_0, gd_s]
                         try rw [hj1]
                         refine xG_br rfl (fun h156 => ?_) (fun h156 => ?_)
                         · refine xG_run 3 rfl (by repeat' (first | exact trivial | assumption | exact xob_b rfl | exact xal_b rfl | (apply And.intro) | decide)) ?_
                           try dsimp only [xsto1, xsto2, xkill, xget, xset, gd_0, gd_s]
                           try rw [hj1]
                           refine r2_i rfl rfl ?_
                           first
                             | exact Or.inl ⟨j, hj, rfl, rfl, rfl, rfl⟩
                             | (refine Or.inr (Or.inr ⟨?_, rfl, rfl⟩)
                                rintro ⟨⟨j9, a1, a2⟩, a3⟩
                                first
                                  | exact no8 b4 ⟨j9, a1, a2⟩
                                  | (rcases a3 with a3 | ⟨a3, p9, a4, a5⟩
                                     · first | exact b14 (by rw [a3]; decide) | exact absurd a3 (by decide)
                                     · first | exact b14 (by rw [a3]; decide) | exact b27 (by rw [a5]; exact inI a4 (by omega))))
                             | (refine Or.inr (Or.inl ⟨j, p, hj, rfl, rfl, hp, rfl, rfl, ?_⟩)
                                (try simp only [rs_c hA, rs_c (hB _), rW_c hA, Decidable.not_not] at *)
                                first
                                  | (have h67a := i_nlt h67; simp [rHf, rTs, *]; done)
                                  | (exfalso; have h67a := i_nlt h67; simp_all; done)
                                  | (exfalso; have h67a := i_nle h67; simp_all; done)
                                  | (have h67a := i_nle h67; simp [rHf, rTs, *]; done))
                         · refine xG_run 6 rfl (by repeat' (first | exact trivial | assumption | exact xob_b rfl | exact xal_b rfl | (apply And.intro) | decide)) ?_
                           try dsimp only [xsto1, xsto2, xkill, xget, xset, gd_0, gd_s]
                           try rw [hj1]
                           refine xG_c2 2 rfl (by repeat' (first | exact trivial | assumption | exact xob_b rfl | exact xal_b rfl | (apply And.intro) | decide)) rfl rfl (by decide) cw_X12_of (d' := d - 1) (e_of (p := p) (k := 5) rfl rfl (by omega)) (by omega) ?_
                           rintro v M' ⟨rfl, hM⟩
                           subst M'
                           dsimp only [Option.toList, List.cons_append, List.nil_append]
                           refine xG_run 4 rfl (by repeat' (first | exact trivial | assumption | exact xob_b rfl | exact xal_b rfl | (apply And.intro) | decide)) ?_
                           try dsimp only [xsto1, xsto2, xkill, xget, xset, gd_0, gd_s]
                           try rw [hj1]
                           refine r2_i rfl rfl ?_
                           first
                             | exact Or.inl ⟨j, hj, rfl, rfl, rfl, rfl⟩
                             | (refine Or.inr (Or.inr ⟨?_, rfl, rfl⟩)
                                rintro ⟨⟨j9, a1, a2⟩, a3⟩
                                first
                                  | exact no8 b4 ⟨j9, a1, a2⟩
                                  | (rcases a3 with a3 | ⟨a3, p9, a4, a5⟩
                                     · first | exact b14 (by rw [a3]; decide) | exact absurd a3 (by decide)
                                     · first | exact b14 (by rw [a3]; decide) | exact b27 (by rw [a5]; exact inI a4 (by omega))))
                             | (refine Or.inr (Or.inl ⟨j, p, hj, rfl, rfl, hp, rfl, rfl, ?_⟩)
                                (try simp only [rs_c hA, rs_c (hB _), rW_c hA, Decidable.not_not] at *)
                                first
                                  | (have h67a := i_nlt h67; simp [rHf, rTs, *]; done)
                                  | (exfalso; have h67a := i_nlt h67; simp_all; done)
                                  | (exfalso; have h67a := i_nle h67; simp_all; done)
                                  | (have h67a := i_nle h67; simp [rHf, rTs, *]; done))
                       · refine xG_run 3 rfl (by repeat' (first | exact trivial | assumption | exact xob_b rfl | exact xal_b rfl | (apply And.intro) | decide)) ?_
                         try dsimp only [xsto1, xsto2, xkill, xget, xset, gd_0, gd_s]
                         try rw [hj1]
                         refine xG_c2 2 rfl (by repeat' (first | exact trivial | assumption | exact xob_b rfl | exact xal_b rfl | (apply And.intro) | decide)) rfl rfl (by decide) cw_X12_of (d' := d - 1) (e_of (p := p) (k := 5) rfl rfl (by omega)) (by omega) ?_
                         rintro v M' ⟨rfl, hM⟩
                         subst M'
                         dsimp only [Option.toList, List.cons_append, List.nil_append]
                         refine xG_br rfl (fun h145 => ?_) (fun h145 => ?_)
                         · refine xG_run 2 rfl (by repeat' (first | exact trivial | assumption | exact xob_b rfl | exact xal_b rfl | (apply And.intro) | decide)) ?_
                           try dsimp only [xsto1, xsto2, xkill, xget, xset, gd_0, gd_s]
                           try rw [hj1]
                           refine xG_br rfl (fun h156 => ?_) (fun h156 => ?_)
                           · refine xG_run 3 rfl (by repeat' (first | exact trivial | assumption | exact xob_b rfl | exact xal_b rfl | (apply And.intro) | decide)) ?_
                             try dsimp only [xsto1, xsto2, xkill, xget, xset, gd_0, gd_s]
                             try rw [hj1]
                             refine r2_i rfl rfl ?_
                             first
                               | exact Or.inl ⟨j, hj, rfl, rfl, rfl, rfl⟩
                               | (refine Or.inr (Or.inr ⟨?_, rfl, rfl⟩)
                                  rintro ⟨⟨j9, a1, a2⟩, a3⟩
                                  first
                                    | exact no8 b4 ⟨j9, a1, a2⟩
                                    | (rcases a3 with a3 | ⟨a3, p9, a4, a5⟩
                                       · first | exact b14 (by rw [a3]; decide) | exact absurd a3 (by decide)
                                       · first | exact b14 (by rw [a3]; decide) | exact b27 (by rw [a5]; exact inI a4 (by omega))))
                               | (refine Or.inr (Or.inl ⟨j, p, hj, rfl, rfl, hp, rfl, rfl, ?_⟩)
                                  (try simp only [rs_c hA, rs_c (hB _), rW_c hA, Decidable.not_not] at *)
                                  first
                                    | (have h67a := i_nlt h67; simp [rHf, rTs, *]; done)
                                    | (exfalso; have h67a := i_nlt h67; simp_all; done)
                                    | (exfalso; have h67a := i_nle h67; simp_all; done)
                                    | (have h67a := i_nle h67; simp [rHf, rTs, *]; done))
                           · refine xG_run 6 rfl (by repeat' (first | exact trivial | assumption | exact xob_b rfl | exact xal_b rfl | (apply And.intro) | decide)) ?_
                             try dsimp only [xsto1, xsto2, xkill, xget, xset, gd_0, gd_s]
                             try rw [hj1]
                             refine xG_c2 2 rfl (by repeat' (first | exact trivial | assumption | exact xob_b rfl | exact xal_b rfl | (apply And.intro) | decide)) rfl rfl (by decide) cw_X12_of (d' := d - 1) (e_of (p := p) (k := 5) rfl rfl (by omega)) (by omega) ?_
                             rintro v M' ⟨rfl, hM⟩
                             subst M'
                             dsimp only [Option.toList, List.cons_append, List.nil_append]
                             refine xG_run 4 rfl (by repeat' (first | exact trivial | assumption | exact xob_b rfl | exact xal_b rfl | (apply And.intro) | decide)) ?_
                             try dsimp only [xsto1, xsto2, xkill, xget, xset, gd_0, gd_s]
                             try rw [hj1]
                             refine r2_i rfl rfl ?_
                             first
                               | exact Or.inl ⟨j, hj, rfl, rfl, rfl, rfl⟩
                               | (refine Or.inr (Or.inr ⟨?_, rfl, rfl⟩)
                                  rintro ⟨⟨j9, a1, a2⟩, a3⟩
                                  first
                                    | exact no8 b4 ⟨j9, a1, a2⟩
                                    | (rcases a3 with a3 | ⟨a3, p9, a4, a5⟩
                                       · first | exact b14 (by rw [a3]; decide) | exact absurd a3 (by decide)
                                       · first | exact b14 (by rw [a3]; decide) | exact b27 (by rw [a5]; exact inI a4 (by omega))))
                               | (refine Or.inr (Or.inl ⟨j, p, hj, rfl, rfl, hp, rfl, rfl, ?_⟩)
                                  (try simp only [rs_c hA, rs_c (hB _), rW_c hA, Decidable.not_not] at *)
                                  first
                                    | (have h67a := i_nlt h67; simp [rHf, rTs, *]; done)
                                    | (exfalso; have h67a := i_nlt h67; simp_all; done)
                                    | (exfalso; have h67a := i_nle h67; simp_all; done)
                                    | (have h67a := i_nle h67; simp [rHf, rTs, *]; done))
                         · refine xG_run 4 rfl (by repeat' (first | exact trivial | assumption | exact xob_b rfl | exact xal_b rfl | (apply And.intro) | decide)) ?_
                           try dsimp only [xsto1, xsto2, xkill, xget, xset, gd_0, gd_s]
                           try rw [hj1]
                           refine r2_i rfl rfl ?_
                           first
                             | exact Or.inl ⟨j, hj, rfl, rfl, rfl, rfl⟩
                             | (refine Or.inr (Or.inr ⟨?_, rfl, rfl⟩)
                                rintro ⟨⟨j9, a1, a2⟩, a3⟩
                                first
                                  | exact no8 b4 ⟨j9, a1, a2⟩
                                  | (rcases a3 with a3 | ⟨a3, p9, a4, a5⟩
                                     · first | exact b14 (by rw [a3]; decide) | exact absurd a3 (by decide)
                                     · first | exact b14 (by rw [a3]; decide) | exact b27 (by rw [a5]; exact inI a4 (by omega))))
                             | (refine Or.inr (Or.inl ⟨j, p, hj, rfl, rfl, hp, rfl, rfl, ?_⟩)
                                (try simp only [rs_c hA, rs_c (hB _), rW_c hA, Decidable.not_not] at *)
                                first
                                  | (have h67a := i_nlt h67; simp [rHf, rTs, *]; done)
                                  | (exfalso; have h67a := i_nlt h67; simp_all; done)
                                  | (exfalso; have h67a := i_nle h67; simp_all; done)
                                  | (have h67a := i_nle h67; simp [rHf, rTs, *]; done)))
          · first
              | (exfalso; first | exact h40 rfl | exact h40 (by decide) | exact absurd (Decidable.not_not.mp h40) (by decide))
              | (refine xG_run 1 rfl (by repeat' (first | exact trivial | assumption | exact xob_b rfl | exact xal_b rfl | (apply And.intro) | decide)) ?_
                 try dsimp only [xsto1, xsto2, xkill, xget, xset, gd_0, gd_s]
                 try rw [hj1]
                 refine r2_i rfl rfl ?_
                 first
                   | exact Or.inl ⟨j, hj, rfl, rfl, rfl, rfl⟩
                   | (refine Or.inr (Or.inr ⟨?_, rfl, rfl⟩)
                      rintro ⟨⟨j9, a1, a2⟩, a3⟩
                      first
                        | exact no8 b4 ⟨j9, a1, a2⟩
                        | (rcases a3 with a3 | ⟨a3, p9, a4, a5⟩
                           · first | exact b14 (by rw [a3]; decide) | exact absurd a3 (by decide)
                           · first | exact b14 (by rw [a3]; decide) | exact b27 (by rw [a5]; exact inI a4 (by omega))))
                   | (refine Or.inr (Or.inl ⟨j, p, hj, rfl, rfl, hp, rfl, rfl, ?_⟩)
                      (try simp only [rs_c hA, rs_c (hB _), rW_c hA, Decidable.not_not] at *)
                      first
                        | (have h67a := i_nlt h67; simp [rHf, rTs, *]; done)
                        | (exfalso; have h67a := i_nlt h67; simp_all; done)
                        | (exfalso; have h67a := i_nle h67; simp_all; done)
                        | (have h67a := i_nle h67; simp [rHf, rTs, *]; done)))
        · have b27 := z0.mp (Decidable.not_not.mp h27)
          refine xG_run 1 rfl (by repeat' (first | exact trivial | assumption | exact xob_b rfl | exact xal_b rfl | (apply And.intro) | decide)) ?_
          try dsimp only [xsto1, xsto2, xkill, xget, xset, gd_0, gd_s]
          try rw [hj1]
          refine r2_i rfl rfl ?_
          first
            | exact Or.inl ⟨j, hj, rfl, rfl, rfl, rfl⟩
            | (refine Or.inr (Or.inr ⟨?_, rfl, rfl⟩)
               rintro ⟨⟨j9, a1, a2⟩, a3⟩
               first
                 | exact no8 b4 ⟨j9, a1, a2⟩
                 | (rcases a3 with a3 | ⟨a3, p9, a4, a5⟩
                    · first | exact b14 (by rw [a3]; decide) | exact absurd a3 (by decide)
                    · first | exact b14 (by rw [a3]; decide) | exact b27 (by rw [a5]; exact inI a4 (by omega))))
            | (refine Or.inr (Or.inl ⟨j, p, hj, rfl, rfl, hp, rfl, rfl, ?_⟩)
               (try simp only [rs_c hA, rs_c (hB _), rW_c hA, Decidable.not_not] at *)
               first
                 | (have h67a := i_nlt h67; simp [rHf, rTs, *]; done)
                 | (exfalso; have h67a := i_nlt h67; simp_all; done)
                 | (exfalso; have h67a := i_nle h67; simp_all; done)
                 | (have h67a := i_nle h67; simp [rHf, rTs, *]; done))
def lrM (M : xM) (j : Nat) (s n : Int32) : xM := zrB (sI (sI (sI M 170 j 2) 171 j s) 172 j n) 173 (120 * j) 120
set_option maxRecDepth 4000 in
theorem e_m_row {κ : xKK} {d : Nat} {M : xM} {i s n : Int32} (hd : 3 ≤ d) : xE2 κ mX12_row d [.ref 166, .int i, .int s, .int n] M (fun v M' => (∃ j, j < 8 ∧ i = nI j ∧ 0 ≤ s ∧ s ≤ 2 ∧ n ≤ 120 ∧ ((0 ≤ n ∧ v = some (.int 0) ∧ M' = lrM M j s n) ∨ (n < 0 ∧ v = some (.int (-14)) ∧ M' = M))) ∨ (¬ ((∃ j, j < 8 ∧ i = nI j) ∧ 0 ≤ s ∧ s ≤ 2 ∧ n ≤ 120) ∧ v = some (.int (-1)) ∧ M' = M)) := by
  refine xE2_of ci_X12_row cl_X12_row cw_X12_row rfl (L := [some (.ref 166), some (.int i), some (.int s), some (.int n), none]) rfl ?_
  refine xG_run 1 rfl (by repeat' (first | exact trivial | assumption | exact xob_b rfl | exact xal_b rfl | (apply And.intro) | decide)) ?_
  try dsimp only [xsto1, xsto2, xkill, xget, xset, gd_0, gd_s]
  try rw [hj1]
  refine xG_c2 1 rfl (by repeat' (first | exact trivial | assumption | exact xob_b rfl | exact xal_b rfl | (apply And.intro) | decide)) rfl rfl (by decide) cw_X12_isShelf (d' := d - 1) (e_isShelf (by omega)) (by omega) ?_
  rintro v M' ⟨rfl, hM⟩
  subst M'
  dsimp only [Option.toList, List.cons_append, List.nil_append]
  refine xG_br rfl (fun h4 => ?_) (fun h4 => ?_)
  · have b4 := z0.mp h4
    refine xG_run 1 rfl (by repeat' (first | exact trivial | assumption | exact xob_b rfl | exact xal_b rfl | (apply And.intro) | decide)) ?_
    try dsimp only [xsto1, xsto2, xkill, xget, xset, gd_0, gd_s]
    try rw [hj1]
    refine r2_i rfl rfl ?_
    first
      | exact Or.inl ⟨j, hj, rfl, b16.1, b16.2, h22, Or.inr ⟨Int32.not_le.mp h28, rfl, rfl⟩⟩
      | (refine Or.inr ⟨?_, rfl, rfl⟩
         rintro ⟨⟨j9, a1, a2⟩, a3, a4, a5⟩
         first
           | exact no8 b4 ⟨j9, a1, a2⟩
           | exact b16 ⟨a3, a4⟩
           | exact h22 a5)
  · have b4 := z1.mp h4
    obtain ⟨j, hj, rfl⟩ := inI_of (n := 8) (show _ ∧ _ < nI 8 from b4) (by omega)
    have hs170 : xar 170 0 182 (nI j) := xar_n rfl 8 rfl hj (by omega)
    have hs171 : xar 171 0 182 (nI j) := xar_n rfl 8 rfl hj (by omega)
    have hs172 : xar 172 0 182 (nI j) := xar_n rfl 8 rfl hj (by omega)
    have hs175 : xar 175 0 182 (nI j) := xar_n rfl 8 rfl hj (by omega)
    have hs176 : xar 176 0 182 (nI j) := xar_n rfl 8 rfl hj (by omega)
    have hj1 : (nI j).toNatClampNeg = j := nI_cl (by omega)
    refine xG_run 4 rfl (by repeat' (first | exact trivial | assumption | exact xob_b rfl | exact xal_b rfl | (apply And.intro) | decide)) ?_
    try dsimp only [xsto1, xsto2, xkill, xget, xset, gd_0, gd_s]
    try rw [hj1]
    refine xG_c2 3 rfl (by repeat' (first | exact trivial | assumption | exact xob_b rfl | exact xal_b rfl | (apply And.intro) | decide)) rfl rfl (by decide) cw_X12_isIn (d' := d - 1) (e_isIn (c := 0 ≤ s ∧ s ≤ 2) (in32 rfl rfl)) (by omega) ?_
    rintro v M' ⟨rfl, hM⟩
    subst M'
    dsimp only [Option.toList, List.cons_append, List.nil_append]
    refine xG_br rfl (fun h16 => ?_) (fun h16 => ?_)
    · have b16 := z0.mp h16
      refine xG_run 1 rfl (by repeat' (first | exact trivial | assumption | exact xob_b rfl | exact xal_b rfl | (apply And.intro) | decide)) ?_
      try dsimp only [xsto1, xsto2, xkill, xget, xset, gd_0, gd_s]
      try rw [hj1]
      refine r2_i rfl rfl ?_
      first
        | exact Or.inl ⟨j, hj, rfl, b16.1, b16.2, h22, Or.inr ⟨Int32.not_le.mp h28, rfl, rfl⟩⟩
        | (refine Or.inr ⟨?_, rfl, rfl⟩
           rintro ⟨⟨j9, a1, a2⟩, a3, a4, a5⟩
           first
             | exact no8 b4 ⟨j9, a1, a2⟩
             | exact b16 ⟨a3, a4⟩
             | exact h22 a5)
    · have b16 := z1.mp h16
      refine xG_run 2 rfl (by repeat' (first | exact trivial | assumption | exact xob_b rfl | exact xal_b rfl | (apply And.intro) | decide)) ?_
      try dsimp only [xsto1, xsto2, xkill, xget, xset, gd_0, gd_s]
      try rw [hj1]
      refine xG_br rfl (fun h22 => ?_) (fun h22 => ?_)
      · refine xG_run 1 rfl (by repeat' (first | exact trivial | assumption | exact xob_b rfl | exact xal_b rfl | (apply And.intro) | decide)) ?_
        try dsimp only [xsto1, xsto2, xkill, xget, xset, gd_0, gd_s]
        try rw [hj1]
        refine xG_br rfl (fun h28 => ?_) (fun h28 => ?_)
        · refine xG_run 8 rfl (by repeat' (first | exact trivial | assumption | exact xob_b rfl | exact xal_b rfl | (apply And.intro) | decide)) ?_
          try dsimp only [xsto1, xsto2, xkill, xget, xset, gd_0, gd_s]
          try rw [hj1]
          refine xG_run 8 rfl (by repeat' (first | exact trivial | assumption | exact xob_b rfl | exact xal_b rfl | (apply And.intro) | decide)) ?_
          try dsimp only [xsto1, xsto2, xkill, xget, xset, gd_0, gd_s]
          try rw [hj1]
          refine xG_run 1 rfl (by repeat' (first | exact trivial | assumption | exact xob_b rfl | exact xal_b rfl | (apply And.intro) | decide)) ?_
          try dsimp only [xsto1, xsto2, xkill, xget, xset, gd_0, gd_s]
          try rw [hj1]
          have e0 : (sI (sI (sI M 170 j 2) 171 j s) 172 j n) = zrB (sI (sI (sI M 170 j 2) 171 j s) 172 j n) 173 (120 * j) 0 := zrB_0
          show xG κ mX12_row _ (58, [some (.ref 166), some (.int (nI j)), some (.int s), some (.int n), some (.int (nI 0))], [], (sI (sI (sI M 170 j 2) 171 j s) 172 j n), z2) _
          rw [e0]
          refine xG_up (fun k => (58, [some (.ref 166), some (.int (nI j)), some (.int s), some (.int n), some (.int (nI k))], [], zrB (sI (sI (sI M 170 j 2) 171 j s) 172 j n) 173 (120 * j) k, z2)) 120 ?_ ?_ 0 (Nat.zero_le _)
          · intro k hk ih
            have e1 : (120 : Int32) * nI j + nI k = nI (120 * j + k) := ix120 j k
            have e2 : ((120 : Int32) * nI j + nI k).toNatClampNeg = 120 * j + k := by rw [e1]; exact nI_cl (by omega)
            have hse : xar 173 0 182 ((120 : Int32) * nI j + nI k) := by rw [e1]; exact el_ar (by omega)
            refine xG_run 2 rfl (by repeat' (first | exact trivial | assumption | exact xob_b rfl | exact xal_b rfl | (apply And.intro) | decide)) ?_
            try dsimp only [xsto1, xsto2, xkill, xget, xset, gd_0, gd_s]
            refine xG_brF rfl (show ¬ nI 120 ≤ nI k from nI_ge hk (by omega)) ?_
            refine xG_run 8 rfl (by repeat' (first | exact trivial | assumption | exact xob_b rfl | exact xal_b rfl | (apply And.intro) | decide)) ?_
            try dsimp only [xsto1, xsto2, xkill, xget, xset, gd_0, gd_s]
            refine xG_run 3 rfl (by repeat' (first | exact trivial | assumption | exact xob_b rfl | exact xal_b rfl | (apply And.intro) | decide)) ?_
            try dsimp only [xsto1, xsto2, xkill, xget, xset, gd_0, gd_s]
            rw [e2, zrB_s, nI_1]
            exact ih
          · refine xG_run 2 rfl (by repeat' (first | exact trivial | assumption | exact xob_b rfl | exact xal_b rfl | (apply And.intro) | decide)) ?_
            try dsimp only [xsto1, xsto2, xkill, xget, xset, gd_0, gd_s]
            refine xG_brT rfl (show nI 120 ≤ nI 120 from Int32.le_refl _) ?_
            refine xG_run 1 rfl (by repeat' (first | exact trivial | assumption | exact xob_b rfl | exact xal_b rfl | (apply And.intro) | decide)) ?_
            try dsimp only [xsto1, xsto2, xkill, xget, xset, gd_0, gd_s]
            refine r2_i rfl rfl ?_
            exact Or.inl ⟨j, hj, rfl, b16.1, b16.2, h22, Or.inl ⟨h28, rfl, rfl⟩⟩
        · refine xG_run 1 rfl (by repeat' (first | exact trivial | assumption | exact xob_b rfl | exact xal_b rfl | (apply And.intro) | decide)) ?_
          try dsimp only [xsto1, xsto2, xkill, xget, xset, gd_0, gd_s]
          try rw [hj1]
          refine r2_i rfl rfl ?_
          first
            | exact Or.inl ⟨j, hj, rfl, b16.1, b16.2, h22, Or.inr ⟨Int32.not_le.mp h28, rfl, rfl⟩⟩
            | (refine Or.inr ⟨?_, rfl, rfl⟩
               rintro ⟨⟨j9, a1, a2⟩, a3, a4, a5⟩
               first
                 | exact no8 b4 ⟨j9, a1, a2⟩
                 | exact b16 ⟨a3, a4⟩
                 | exact h22 a5)
      · refine xG_run 1 rfl (by repeat' (first | exact trivial | assumption | exact xob_b rfl | exact xal_b rfl | (apply And.intro) | decide)) ?_
        try dsimp only [xsto1, xsto2, xkill, xget, xset, gd_0, gd_s]
        try rw [hj1]
        refine r2_i rfl rfl ?_
        first
          | exact Or.inl ⟨j, hj, rfl, b16.1, b16.2, h22, Or.inr ⟨Int32.not_le.mp h28, rfl, rfl⟩⟩
          | (refine Or.inr ⟨?_, rfl, rfl⟩
             rintro ⟨⟨j9, a1, a2⟩, a3, a4, a5⟩
             first
               | exact no8 b4 ⟨j9, a1, a2⟩
               | exact b16 ⟨a3, a4⟩
               | exact h22 a5)
set_option maxRecDepth 4000 in
theorem e_m_put {κ : xKK} {d : Nat} {M : xM} (hz : ∀ j, j < 8 → ∃ z, z ≤ 120 ∧ gI M 172 j = nI z) {i a x : Int32} (hd : 3 ≤ d) : xE2 κ mX12_put d [.ref 166, .int i, .int a, .int x] M (fun v M' => (∃ j, j < 8 ∧ i = nI j ∧ ((rWR M j (-1) = 0 ∧ (0 ≤ a ∧ a < gI M 172 j) ∧ v = some (.int 0) ∧ M' = sI M 173 (120 * j + a.toNatClampNeg) (cLB (gI M 171 j) x)) ∨ (rWR M j (-1) = 0 ∧ ¬ (0 ≤ a ∧ a < gI M 172 j) ∧ v = some (.int (-13)) ∧ M' = M) ∨ (¬ rWR M j (-1) = 0 ∧ v = some (.int (rWR M j (-1))) ∧ M' = M))) ∨ (¬ (∃ j, j < 8 ∧ i = nI j) ∧ v = some (.int (-1)) ∧ M' = M)) := by
  refine xE2_of ci_X12_put cl_X12_put cw_X12_put rfl (L := [some (.ref 166), some (.int i), some (.int a), some (.int x), none]) rfl ?_
  refine xG_run 3 rfl (by repeat' (first | exact trivial | assumption | exact xob_b rfl | exact xal_b rfl | (apply And.intro) | decide)) ?_
  try dsimp only [xsto1, xsto2, xkill, xget, xset, gd_0, gd_s]
  try rw [hj1]
  refine xG_c2 2 rfl (by repeat' (first | exact trivial | assumption | exact xob_b rfl | exact xal_b rfl | (apply And.intro) | decide)) rfl rfl (by decide) cw_X12_wrongRow (d' := d - 1) (e_wrongRow (s := -1) (by omega)) (by omega) ?_
  rintro v M' ⟨hv, hM⟩
  subst M'
  rcases hv with ⟨j, hj, rfl, rfl⟩ | ⟨hno, rfl⟩
  · dsimp only [Option.toList, List.cons_append, List.nil_append]
    have hs170 : xar 170 0 182 (nI j) := xar_n rfl 8 rfl hj (by omega)
    have hs171 : xar 171 0 182 (nI j) := xar_n rfl 8 rfl hj (by omega)
    have hs172 : xar 172 0 182 (nI j) := xar_n rfl 8 rfl hj (by omega)
    have hs175 : xar 175 0 182 (nI j) := xar_n rfl 8 rfl hj (by omega)
    have hs176 : xar 176 0 182 (nI j) := xar_n rfl 8 rfl hj (by omega)
    have hj1 : (nI j).toNatClampNeg = j := nI_cl (by omega)
    refine xG_run 2 rfl (by repeat' (first | exact trivial | assumption | exact xob_b rfl | exact xal_b rfl | (apply And.intro) | decide)) ?_
    try dsimp only [xsto1, xsto2, xkill, xget, xset, gd_0, gd_s]
    try rw [hj1]
    refine xG_br rfl (fun h10 => ?_) (fun h10 => ?_)
    · first
        | (exfalso; exact absurd h10 (by decide))
        | (obtain ⟨z, hz1, hz2⟩ := hz j hj
           refine xG_run 8 rfl (by repeat' (first | exact trivial | assumption | exact xob_b rfl | exact xal_b rfl | (apply And.intro) | decide)) ?_
           try dsimp only [xsto1, xsto2, xkill, xget, xset, gd_0, gd_s]
           try rw [hj1]
           refine xG_run 2 rfl (by repeat' (first | exact trivial | assumption | exact xob_b rfl | exact xal_b rfl | (apply And.intro) | decide)) ?_
           try dsimp only [xsto1, xsto2, xkill, xget, xset, gd_0, gd_s]
           try rw [hj1]
           refine xG_c2 3 rfl (by repeat' (first | exact trivial | assumption | exact xob_b rfl | exact xal_b rfl | (apply And.intro) | decide)) rfl rfl (by decide) cw_X12_isIn (d' := d - 1) (e_isIn (c := 0 ≤ a ∧ a < gI M 172 j) (in_lt hz2 (by omega))) (by omega) ?_
           rintro v M' ⟨rfl, hM⟩
           subst M'
           dsimp only [Option.toList, List.cons_append, List.nil_append]
           refine xG_br rfl (fun h31 => ?_) (fun h31 => ?_)
           · have b31 := z1.mp h31
             obtain ⟨t, ht, rfl⟩ := inI_of (n := z) (hz2 ▸ b31) (by omega)
             have e1 : (120 : Int32) * nI j + nI t = nI (120 * j + t) := ix120 j t
             have e2 : ((120 : Int32) * nI j + nI t).toNatClampNeg = 120 * j + t := by rw [e1]; exact nI_cl (by omega)
             have hse : xar 173 0 182 ((120 : Int32) * nI j + nI t) := by rw [e1]; exact el_ar (by omega)
             refine xG_run 8 rfl (by repeat' (first | exact trivial | assumption | exact xob_b rfl | exact xal_b rfl | (apply And.intro) | decide)) ?_
             try dsimp only [xsto1, xsto2, xkill, xget, xset, gd_0, gd_s]
             try rw [hj1]
             refine xG_run 3 rfl (by repeat' (first | exact trivial | assumption | exact xob_b rfl | exact xal_b rfl | (apply And.intro) | decide)) ?_
             try dsimp only [xsto1, xsto2, xkill, xget, xset, gd_0, gd_s]
             try rw [hj1]
             refine xG_br rfl (fun h53 => ?_) (fun h53 => ?_)
             · refine xG_run 5 rfl (by repeat' (first | exact trivial | assumption | exact xob_b rfl | exact xal_b rfl | (apply And.intro) | decide)) ?_
               try dsimp only [xsto1, xsto2, xkill, xget, xset, gd_0, gd_s]
               try rw [hj1]
               refine xG_br rfl (fun h68 => ?_) (fun h68 => ?_)
               · refine xG_run 3 rfl (by repeat' (first | exact trivial | assumption | exact xob_b rfl | exact xal_b rfl | (apply And.intro) | decide)) ?_
                 try dsimp only [xsto1, xsto2, xkill, xget, xset, gd_0, gd_s]
                 try rw [hj1]
                 refine r2_i rfl rfl ?_
                 first
                   | exact Or.inr ⟨hno, rfl, rfl⟩
                   | exact Or.inl ⟨j, hj, rfl, Or.inr (Or.inr ⟨h10, rfl, rfl⟩)⟩
                   | exact Or.inl ⟨j, hj, rfl, Or.inr (Or.inl ⟨h10, b31, rfl, rfl⟩)⟩
                   | (refine Or.inl ⟨j, hj, rfl, Or.inl ⟨h10, b31, rfl, ?_⟩⟩
                      (try rw [hj1] at h53)
                      (try rw [hj1] at h68)
                      rw [e2, nI_cl (show t < 2147483648 by omega)]
                      unfold cLB
                      first
                        | (rw [if_pos (Decidable.not_not.mp h53)]; done)
                        | (rw [if_neg h53, if_pos (Decidable.not_not.mp h68)]; done)
                        | (rw [if_neg h53, if_neg h68]; done))
               · refine xG_run 5 rfl (by repeat' (first | exact trivial | assumption | exact xob_b rfl | exact xal_b rfl | (apply And.intro) | decide)) ?_
                 try dsimp only [xsto1, xsto2, xkill, xget, xset, gd_0, gd_s]
                 try rw [hj1]
                 refine r2_i rfl rfl ?_
                 first
                   | exact Or.inr ⟨hno, rfl, rfl⟩
                   | exact Or.inl ⟨j, hj, rfl, Or.inr (Or.inr ⟨h10, rfl, rfl⟩)⟩
                   | exact Or.inl ⟨j, hj, rfl, Or.inr (Or.inl ⟨h10, b31, rfl, rfl⟩)⟩
                   | (refine Or.inl ⟨j, hj, rfl, Or.inl ⟨h10, b31, rfl, ?_⟩⟩
                      (try rw [hj1] at h53)
                      (try rw [hj1] at h68)
                      rw [e2, nI_cl (show t < 2147483648 by omega)]
                      unfold cLB
                      first
                        | (rw [if_pos (Decidable.not_not.mp h53)]; done)
                        | (rw [if_neg h53, if_pos (Decidable.not_not.mp h68)]; done)
                        | (rw [if_neg h53, if_neg h68]; done))
             · refine xG_run 5 rfl (by repeat' (first | exact trivial | assumption | exact xob_b rfl | exact xal_b rfl | (apply And.intro) | decide)) ?_
               try dsimp only [xsto1, xsto2, xkill, xget, xset, gd_0, gd_s]
               try rw [hj1]
               refine r2_i rfl rfl ?_
               first
                 | exact Or.inr ⟨hno, rfl, rfl⟩
                 | exact Or.inl ⟨j, hj, rfl, Or.inr (Or.inr ⟨h10, rfl, rfl⟩)⟩
                 | exact Or.inl ⟨j, hj, rfl, Or.inr (Or.inl ⟨h10, b31, rfl, rfl⟩)⟩
                 | (refine Or.inl ⟨j, hj, rfl, Or.inl ⟨h10, b31, rfl, ?_⟩⟩
                    (try rw [hj1] at h53)
                    (try rw [hj1] at h68)
                    rw [e2, nI_cl (show t < 2147483648 by omega)]
                    unfold cLB
                    first
                      | (rw [if_pos (Decidable.not_not.mp h53)]; done)
                      | (rw [if_neg h53, if_pos (Decidable.not_not.mp h68)]; done)
                      | (rw [if_neg h53, if_neg h68]; done))
           · have b31 := z0.mp (Decidable.not_not.mp h31)
             refine xG_run 1 rfl (by repeat' (first | exact trivial | assumption | exact xob_b rfl | exact xal_b rfl | (apply And.intro) | decide)) ?_
             try dsimp only [xsto1, xsto2, xkill, xget, xset, gd_0, gd_s]
             try rw [hj1]
             refine r2_i rfl rfl ?_
             first
               | exact Or.inr ⟨hno, rfl, rfl⟩
               | exact Or.inl ⟨j, hj, rfl, Or.inr (Or.inr ⟨h10, rfl, rfl⟩)⟩
               | exact Or.inl ⟨j, hj, rfl, Or.inr (Or.inl ⟨h10, b31, rfl, rfl⟩)⟩
               | (refine Or.inl ⟨j, hj, rfl, Or.inl ⟨h10, b31, rfl, ?_⟩⟩
                  (try rw [hj1] at h53)
                  (try rw [hj1] at h68)
                  rw [e2, nI_cl (show t < 2147483648 by omega)]
                  unfold cLB
                  first
                    | (rw [if_pos (Decidable.not_not.mp h53)]; done)
                    | (rw [if_neg h53, if_pos (Decidable.not_not.mp h68)]; done)
                    | (rw [if_neg h53, if_neg h68]; done)))
    · first
        | (exfalso; exact absurd h10 (by decide))
        | (refine xG_run 1 rfl (by repeat' (first | exact trivial | assumption | exact xob_b rfl | exact xal_b rfl | (apply And.intro) | decide)) ?_
           try dsimp only [xsto1, xsto2, xkill, xget, xset, gd_0, gd_s]
           try rw [hj1]
           refine r2_i rfl rfl ?_
           first
             | exact Or.inr ⟨hno, rfl, rfl⟩
             | exact Or.inl ⟨j, hj, rfl, Or.inr (Or.inr ⟨h10, rfl, rfl⟩)⟩
             | exact Or.inl ⟨j, hj, rfl, Or.inr (Or.inl ⟨h10, b31, rfl, rfl⟩)⟩
             | (refine Or.inl ⟨j, hj, rfl, Or.inl ⟨h10, b31, rfl, ?_⟩⟩
                (try rw [hj1] at h53)
                (try rw [hj1] at h68)
                rw [e2, nI_cl (show t < 2147483648 by omega)]
                unfold cLB
                first
                  | (rw [if_pos (Decidable.not_not.mp h53)]; done)
                  | (rw [if_neg h53, if_pos (Decidable.not_not.mp h68)]; done)
                  | (rw [if_neg h53, if_neg h68]; done)))
  · dsimp only [Option.toList, List.cons_append, List.nil_append]
    refine xG_run 2 rfl (by repeat' (first | exact trivial | assumption | exact xob_b rfl | exact xal_b rfl | (apply And.intro) | decide)) ?_
    try dsimp only [xsto1, xsto2, xkill, xget, xset, gd_0, gd_s]
    try rw [hj1]
    refine xG_br rfl (fun h10 => ?_) (fun h10 => ?_)
    · first
        | (exfalso; exact absurd h10 (by decide))
        | (refine xG_run 8 rfl (by repeat' (first | exact trivial | assumption | exact xob_b rfl | exact xal_b rfl | (apply And.intro) | decide)) ?_
           try dsimp only [xsto1, xsto2, xkill, xget, xset, gd_0, gd_s]
           try rw [hj1]
           refine xG_run 2 rfl (by repeat' (first | exact trivial | assumption | exact xob_b rfl | exact xal_b rfl | (apply And.intro) | decide)) ?_
           try dsimp only [xsto1, xsto2, xkill, xget, xset, gd_0, gd_s]
           try rw [hj1]
           refine xG_c2 3 rfl (by repeat' (first | exact trivial | assumption | exact xob_b rfl | exact xal_b rfl | (apply And.intro) | decide)) rfl rfl (by decide) cw_X12_isIn (d' := d - 1) (e_isIn (c := 0 ≤ a ∧ a < gI M 172 j) (in_lt hz2 (by omega))) (by omega) ?_
           rintro v M' ⟨rfl, hM⟩
           subst M'
           dsimp only [Option.toList, List.cons_append, List.nil_append]
           refine xG_br rfl (fun h31 => ?_) (fun h31 => ?_)
           · have b31 := z1.mp h31
             obtain ⟨t, ht, rfl⟩ := inI_of (n := z) (hz2 ▸ b31) (by omega)
             have e1 : (120 : Int32) * nI j + nI t = nI (120 * j + t) := ix120 j t
             have e2 : ((120 : Int32) * nI j + nI t).toNatClampNeg = 120 * j + t := by rw [e1]; exact nI_cl (by omega)
             have hse : xar 173 0 182 ((120 : Int32) * nI j + nI t) := by rw [e1]; exact el_ar (by omega)
             refine xG_run 8 rfl (by repeat' (first | exact trivial | assumption | exact xob_b rfl | exact xal_b rfl | (apply And.intro) | decide)) ?_
             try dsimp only [xsto1, xsto2, xkill, xget, xset, gd_0, gd_s]
             try rw [hj1]
             refine xG_run 3 rfl (by repeat' (first | exact trivial | assumption | exact xob_b rfl | exact xal_b rfl | (apply And.intro) | decide)) ?_
             try dsimp only [xsto1, xsto2, xkill, xget, xset, gd_0, gd_s]
             try rw [hj1]
             refine xG_br rfl (fun h53 => ?_) (fun h53 => ?_)
             · refine xG_run 5 rfl (by repeat' (first | exact trivial | assumption | exact xob_b rfl | exact xal_b rfl | (apply And.intro) | decide)) ?_
               try dsimp only [xsto1, xsto2, xkill, xget, xset, gd_0, gd_s]
               try rw [hj1]
               refine xG_br rfl (fun h68 => ?_) (fun h68 => ?_)
               · refine xG_run 3 rfl (by repeat' (first | exact trivial | assumption | exact xob_b rfl | exact xal_b rfl | (apply And.intro) | decide)) ?_
                 try dsimp only [xsto1, xsto2, xkill, xget, xset, gd_0, gd_s]
                 try rw [hj1]
                 refine r2_i rfl rfl ?_
                 first
                   | exact Or.inr ⟨hno, rfl, rfl⟩
                   | exact Or.inl ⟨j, hj, rfl, Or.inr (Or.inr ⟨h10, rfl, rfl⟩)⟩
                   | exact Or.inl ⟨j, hj, rfl, Or.inr (Or.inl ⟨h10, b31, rfl, rfl⟩)⟩
                   | (refine Or.inl ⟨j, hj, rfl, Or.inl ⟨h10, b31, rfl, ?_⟩⟩
                      (try rw [hj1] at h53)
                      (try rw [hj1] at h68)
                      rw [e2, nI_cl (show t < 2147483648 by omega)]
                      unfold cLB
                      first
                        | (rw [if_pos (Decidable.not_not.mp h53)]; done)
                        | (rw [if_neg h53, if_pos (Decidable.not_not.mp h68)]; done)
                        | (rw [if_neg h53, if_neg h68]; done))
               · refine xG_run 5 rfl (by repeat' (first | exact trivial | assumption | exact xob_b rfl | exact xal_b rfl | (apply And.intro) | decide)) ?_
                 try dsimp only [xsto1, xsto2, xkill, xget, xset, gd_0, gd_s]
                 try rw [hj1]
                 refine r2_i rfl rfl ?_
                 first
                   | exact Or.inr ⟨hno, rfl, rfl⟩
                   | exact Or.inl ⟨j, hj, rfl, Or.inr (Or.inr ⟨h10, rfl, rfl⟩)⟩
                   | exact Or.inl ⟨j, hj, rfl, Or.inr (Or.inl ⟨h10, b31, rfl, rfl⟩)⟩
                   | (refine Or.inl ⟨j, hj, rfl, Or.inl ⟨h10, b31, rfl, ?_⟩⟩
                      (try rw [hj1] at h53)
                      (try rw [hj1] at h68)
                      rw [e2, nI_cl (show t < 2147483648 by omega)]
                      unfold cLB
                      first
                        | (rw [if_pos (Decidable.not_not.mp h53)]; done)
                        | (rw [if_neg h53, if_pos (Decidable.not_not.mp h68)]; done)
                        | (rw [if_neg h53, if_neg h68]; done))
             · refine xG_run 5 rfl (by repeat' (first | exact trivial | assumption | exact xob_b rfl | exact xal_b rfl | (apply And.intro) | decide)) ?_
               try dsimp only [xsto1, xsto2, xkill, xget, xset, gd_0, gd_s]
               try rw [hj1]
               refine r2_i rfl rfl ?_
               first
                 | exact Or.inr ⟨hno, rfl, rfl⟩
                 | exact Or.inl ⟨j, hj, rfl, Or.inr (Or.inr ⟨h10, rfl, rfl⟩)⟩
                 | exact Or.inl ⟨j, hj, rfl, Or.inr (Or.inl ⟨h10, b31, rfl, rfl⟩)⟩
                 | (refine Or.inl ⟨j, hj, rfl, Or.inl ⟨h10, b31, rfl, ?_⟩⟩
                    (try rw [hj1] at h53)
                    (try rw [hj1] at h68)
                    rw [e2, nI_cl (show t < 2147483648 by omega)]
                    unfold cLB
                    first
                      | (rw [if_pos (Decidable.not_not.mp h53)]; done)
                      | (rw [if_neg h53, if_pos (Decidable.not_not.mp h68)]; done)
                      | (rw [if_neg h53, if_neg h68]; done))
           · have b31 := z0.mp (Decidable.not_not.mp h31)
             refine xG_run 1 rfl (by repeat' (first | exact trivial | assumption | exact xob_b rfl | exact xal_b rfl | (apply And.intro) | decide)) ?_
             try dsimp only [xsto1, xsto2, xkill, xget, xset, gd_0, gd_s]
             try rw [hj1]
             refine r2_i rfl rfl ?_
             first
               | exact Or.inr ⟨hno, rfl, rfl⟩
               | exact Or.inl ⟨j, hj, rfl, Or.inr (Or.inr ⟨h10, rfl, rfl⟩)⟩
               | exact Or.inl ⟨j, hj, rfl, Or.inr (Or.inl ⟨h10, b31, rfl, rfl⟩)⟩
               | (refine Or.inl ⟨j, hj, rfl, Or.inl ⟨h10, b31, rfl, ?_⟩⟩
                  (try rw [hj1] at h53)
                  (try rw [hj1] at h68)
                  rw [e2, nI_cl (show t < 2147483648 by omega)]
                  unfold cLB
                  first
                    | (rw [if_pos (Decidable.not_not.mp h53)]; done)
                    | (rw [if_neg h53, if_pos (Decidable.not_not.mp h68)]; done)
                    | (rw [if_neg h53, if_neg h68]; done)))
    · first
        | (exfalso; exact absurd h10 (by decide))
        | (refine xG_run 1 rfl (by repeat' (first | exact trivial | assumption | exact xob_b rfl | exact xal_b rfl | (apply And.intro) | decide)) ?_
           try dsimp only [xsto1, xsto2, xkill, xget, xset, gd_0, gd_s]
           try rw [hj1]
           refine r2_i rfl rfl ?_
           first
             | exact Or.inr ⟨hno, rfl, rfl⟩
             | exact Or.inl ⟨j, hj, rfl, Or.inr (Or.inr ⟨h10, rfl, rfl⟩)⟩
             | exact Or.inl ⟨j, hj, rfl, Or.inr (Or.inl ⟨h10, b31, rfl, rfl⟩)⟩
             | (refine Or.inl ⟨j, hj, rfl, Or.inl ⟨h10, b31, rfl, ?_⟩⟩
                (try rw [hj1] at h53)
                (try rw [hj1] at h68)
                rw [e2, nI_cl (show t < 2147483648 by omega)]
                unfold cLB
                first
                  | (rw [if_pos (Decidable.not_not.mp h53)]; done)
                  | (rw [if_neg h53, if_pos (Decidable.not_not.mp h68)]; done)
                  | (rw [if_neg h53, if_neg h68]; done)))
set_option maxRecDepth 4000 in
theorem e_m_element {κ : xKK} {d : Nat} {M : xM} (hz : ∀ j, j < 8 → ∃ z, z ≤ 120 ∧ gI M 172 j = nI z) {i a : Int32} (hd : 3 ≤ d) : xE2 κ mX12_element d [.ref 166, .int i, .int a] M (fun v M' => (∃ j, j < 8 ∧ i = nI j ∧ (((gI M 170 j = 2 ∧ 0 ≤ a ∧ a < gI M 172 j) ∧ v = some (.long (gI M 173 (120 * j + a.toNatClampNeg)).toInt64) ∧ M' = sI M 166 11 0) ∨ (¬ (gI M 170 j = 2 ∧ 0 ≤ a ∧ a < gI M 172 j) ∧ v = some (.long 0) ∧ M' = sI M 166 11 2))) ∨ (¬ (∃ j, j < 8 ∧ i = nI j) ∧ v = some (.long 0) ∧ M' = sI M 166 11 1)) := by
  refine xE2_of ci_X12_element cl_X12_element cw_X12_element rfl (L := [some (.ref 166), some (.int i), some (.int a)]) rfl ?_
  refine xG_run 2 rfl (by repeat' (first | exact trivial | assumption | exact xob_b rfl | exact xal_b rfl | (apply And.intro) | decide)) ?_
  try dsimp only [xsto1, xsto2, xkill, xget, xset, gd_0, gd_s]
  try rw [hj1]
  refine xG_c2 1 rfl (by repeat' (first | exact trivial | assumption | exact xob_b rfl | exact xal_b rfl | (apply And.intro) | decide)) rfl rfl (by decide) cw_X12_isShelf (d' := d - 1) (e_isShelf (by omega)) (by omega) ?_
  rintro v M' ⟨rfl, hM⟩
  subst M'
  dsimp only [Option.toList, List.cons_append, List.nil_append]
  refine xG_br rfl (fun h5 => ?_) (fun h5 => ?_)
  · have b5 := z1.mp h5
    obtain ⟨j, hj, rfl⟩ := inI_of (n := 8) (show _ ∧ _ < nI 8 from b5) (by omega)
    have hs170 : xar 170 0 182 (nI j) := xar_n rfl 8 rfl hj (by omega)
    have hs171 : xar 171 0 182 (nI j) := xar_n rfl 8 rfl hj (by omega)
    have hs172 : xar 172 0 182 (nI j) := xar_n rfl 8 rfl hj (by omega)
    have hs175 : xar 175 0 182 (nI j) := xar_n rfl 8 rfl hj (by omega)
    have hs176 : xar 176 0 182 (nI j) := xar_n rfl 8 rfl hj (by omega)
    have hj1 : (nI j).toNatClampNeg = j := nI_cl (by omega)
    obtain ⟨z, hz1, hz2⟩ := hz j hj
    refine xG_run 5 rfl (by repeat' (first | exact trivial | assumption | exact xob_b rfl | exact xal_b rfl | (apply And.intro) | decide)) ?_
    try dsimp only [xsto1, xsto2, xkill, xget, xset, gd_0, gd_s]
    try rw [hj1]
    refine xG_br rfl (fun h19 => ?_) (fun h19 => ?_)
    · try rw [hj1] at h19
      refine xG_run 5 rfl (by repeat' (first | exact trivial | assumption | exact xob_b rfl | exact xal_b rfl | (apply And.intro) | decide)) ?_
      try dsimp only [xsto1, xsto2, xkill, xget, xset, gd_0, gd_s]
      try rw [hj1]
      refine xG_br rfl (fun h52 => ?_) (fun h52 => ?_)
      · first
          | (exfalso; rw [gI_self] at h52; first | exact h52 (by decide) | exact absurd h52 (by decide))
          | (refine xG_run 1 rfl (by repeat' (first | exact trivial | assumption | exact xob_b rfl | exact xal_b rfl | (apply And.intro) | decide)) ?_
             try dsimp only [xsto1, xsto2, xkill, xget, xset, gd_0, gd_s]
             try rw [hj1]
             refine r2_l rfl rfl ?_
             first
               | exact Or.inr ⟨no8 b5, rfl, rfl⟩
               | exact Or.inl ⟨j, hj, rfl, Or.inr ⟨fun q => b37 q.2, rfl, rfl⟩⟩
               | exact Or.inl ⟨j, hj, rfl, Or.inr ⟨fun q => h19 q.1, rfl, rfl⟩⟩
               | (refine Or.inl ⟨j, hj, rfl, Or.inl ⟨⟨by first | exact h19 | exact Decidable.not_not.mp h19, b37⟩, ?_, rfl⟩⟩
                  rw [e2, nI_cl (show t < 2147483648 by omega)]
                  rfl))
      · first
          | (exfalso; rw [gI_self] at h52; first | exact h52 (by decide) | exact absurd h52 (by decide))
          | (refine xG_run 8 rfl (by repeat' (first | exact trivial | assumption | exact xob_b rfl | exact xal_b rfl | (apply And.intro) | decide)) ?_
             try dsimp only [xsto1, xsto2, xkill, xget, xset, gd_0, gd_s]
             try rw [hj1]
             refine xG_run 2 rfl (by repeat' (first | exact trivial | assumption | exact xob_b rfl | exact xal_b rfl | (apply And.intro) | decide)) ?_
             try dsimp only [xsto1, xsto2, xkill, xget, xset, gd_0, gd_s]
             try rw [hj1]
             refine r2_l rfl rfl ?_
             first
               | exact Or.inr ⟨no8 b5, rfl, rfl⟩
               | exact Or.inl ⟨j, hj, rfl, Or.inr ⟨fun q => b37 q.2, rfl, rfl⟩⟩
               | exact Or.inl ⟨j, hj, rfl, Or.inr ⟨fun q => h19 q.1, rfl, rfl⟩⟩
               | (refine Or.inl ⟨j, hj, rfl, Or.inl ⟨⟨by first | exact h19 | exact Decidable.not_not.mp h19, b37⟩, ?_, rfl⟩⟩
                  rw [e2, nI_cl (show t < 2147483648 by omega)]
                  rfl))
    · try rw [hj1] at h19
      refine xG_run 8 rfl (by repeat' (first | exact trivial | assumption | exact xob_b rfl | exact xal_b rfl | (apply And.intro) | decide)) ?_
      try dsimp only [xsto1, xsto2, xkill, xget, xset, gd_0, gd_s]
      try rw [hj1]
      refine xG_run 2 rfl (by repeat' (first | exact trivial | assumption | exact xob_b rfl | exact xal_b rfl | (apply And.intro) | decide)) ?_
      try dsimp only [xsto1, xsto2, xkill, xget, xset, gd_0, gd_s]
      try rw [hj1]
      refine xG_c2 3 rfl (by repeat' (first | exact trivial | assumption | exact xob_b rfl | exact xal_b rfl | (apply And.intro) | decide)) rfl rfl (by decide) cw_X12_isIn (d' := d - 1) (e_isIn (c := 0 ≤ a ∧ a < gI M 172 j) (in_lt hz2 (by omega))) (by omega) ?_
      rintro v M' ⟨rfl, hM⟩
      subst M'
      dsimp only [Option.toList, List.cons_append, List.nil_append]
      refine xG_br rfl (fun h37 => ?_) (fun h37 => ?_)
      · have b37 := z1.mp h37
        obtain ⟨t, ht, rfl⟩ := inI_of (n := z) (hz2 ▸ b37) (by omega)
        have e1 : (120 : Int32) * nI j + nI t = nI (120 * j + t) := ix120 j t
        have e2 : ((120 : Int32) * nI j + nI t).toNatClampNeg = 120 * j + t := by rw [e1]; exact nI_cl (by omega)
        have hse : xar 173 0 182 ((120 : Int32) * nI j + nI t) := by rw [e1]; exact el_ar (by omega)
        refine xG_run 4 rfl (by repeat' (first | exact trivial | assumption | exact xob_b rfl | exact xal_b rfl | (apply And.intro) | decide)) ?_
        try dsimp only [xsto1, xsto2, xkill, xget, xset, gd_0, gd_s]
        try rw [hj1]
        refine xG_br rfl (fun h52 => ?_) (fun h52 => ?_)
        · first
            | (exfalso; rw [gI_self] at h52; first | exact h52 (by decide) | exact absurd h52 (by decide))
            | (refine xG_run 1 rfl (by repeat' (first | exact trivial | assumption | exact xob_b rfl | exact xal_b rfl | (apply And.intro) | decide)) ?_
               try dsimp only [xsto1, xsto2, xkill, xget, xset, gd_0, gd_s]
               try rw [hj1]
               refine r2_l rfl rfl ?_
               first
                 | exact Or.inr ⟨no8 b5, rfl, rfl⟩
                 | exact Or.inl ⟨j, hj, rfl, Or.inr ⟨fun q => b37 q.2, rfl, rfl⟩⟩
                 | exact Or.inl ⟨j, hj, rfl, Or.inr ⟨fun q => h19 q.1, rfl, rfl⟩⟩
                 | (refine Or.inl ⟨j, hj, rfl, Or.inl ⟨⟨by first | exact h19 | exact Decidable.not_not.mp h19, b37⟩, ?_, rfl⟩⟩
                    rw [e2, nI_cl (show t < 2147483648 by omega)]
                    rfl))
        · first
            | (exfalso; rw [gI_self] at h52; first | exact h52 (by decide) | exact absurd h52 (by decide))
            | (refine xG_run 8 rfl (by repeat' (first | exact trivial | assumption | exact xob_b rfl | exact xal_b rfl | (apply And.intro) | decide)) ?_
               try dsimp only [xsto1, xsto2, xkill, xget, xset, gd_0, gd_s]
               try rw [hj1]
               refine xG_run 2 rfl (by repeat' (first | exact trivial | assumption | exact xob_b rfl | exact xal_b rfl | (apply And.intro) | decide)) ?_
               try dsimp only [xsto1, xsto2, xkill, xget, xset, gd_0, gd_s]
               try rw [hj1]
               refine r2_l rfl rfl ?_
               first
                 | exact Or.inr ⟨no8 b5, rfl, rfl⟩
                 | exact Or.inl ⟨j, hj, rfl, Or.inr ⟨fun q => b37 q.2, rfl, rfl⟩⟩
                 | exact Or.inl ⟨j, hj, rfl, Or.inr ⟨fun q => h19 q.1, rfl, rfl⟩⟩
                 | (refine Or.inl ⟨j, hj, rfl, Or.inl ⟨⟨by first | exact h19 | exact Decidable.not_not.mp h19, b37⟩, ?_, rfl⟩⟩
                    rw [e2, nI_cl (show t < 2147483648 by omega)]
                    rfl))
      · have b37 := z0.mp (Decidable.not_not.mp h37)
        refine xG_run 5 rfl (by repeat' (first | exact trivial | assumption | exact xob_b rfl | exact xal_b rfl | (apply And.intro) | decide)) ?_
        try dsimp only [xsto1, xsto2, xkill, xget, xset, gd_0, gd_s]
        try rw [hj1]
        refine xG_br rfl (fun h52 => ?_) (fun h52 => ?_)
        · first
            | (exfalso; rw [gI_self] at h52; first | exact h52 (by decide) | exact absurd h52 (by decide))
            | (refine xG_run 1 rfl (by repeat' (first | exact trivial | assumption | exact xob_b rfl | exact xal_b rfl | (apply And.intro) | decide)) ?_
               try dsimp only [xsto1, xsto2, xkill, xget, xset, gd_0, gd_s]
               try rw [hj1]
               refine r2_l rfl rfl ?_
               first
                 | exact Or.inr ⟨no8 b5, rfl, rfl⟩
                 | exact Or.inl ⟨j, hj, rfl, Or.inr ⟨fun q => b37 q.2, rfl, rfl⟩⟩
                 | exact Or.inl ⟨j, hj, rfl, Or.inr ⟨fun q => h19 q.1, rfl, rfl⟩⟩
                 | (refine Or.inl ⟨j, hj, rfl, Or.inl ⟨⟨by first | exact h19 | exact Decidable.not_not.mp h19, b37⟩, ?_, rfl⟩⟩
                    rw [e2, nI_cl (show t < 2147483648 by omega)]
                    rfl))
        · first
            | (exfalso; rw [gI_self] at h52; first | exact h52 (by decide) | exact absurd h52 (by decide))
            | (refine xG_run 8 rfl (by repeat' (first | exact trivial | assumption | exact xob_b rfl | exact xal_b rfl | (apply And.intro) | decide)) ?_
               try dsimp only [xsto1, xsto2, xkill, xget, xset, gd_0, gd_s]
               try rw [hj1]
               refine xG_run 2 rfl (by repeat' (first | exact trivial | assumption | exact xob_b rfl | exact xal_b rfl | (apply And.intro) | decide)) ?_
               try dsimp only [xsto1, xsto2, xkill, xget, xset, gd_0, gd_s]
               try rw [hj1]
               refine r2_l rfl rfl ?_
               first
                 | exact Or.inr ⟨no8 b5, rfl, rfl⟩
                 | exact Or.inl ⟨j, hj, rfl, Or.inr ⟨fun q => b37 q.2, rfl, rfl⟩⟩
                 | exact Or.inl ⟨j, hj, rfl, Or.inr ⟨fun q => h19 q.1, rfl, rfl⟩⟩
                 | (refine Or.inl ⟨j, hj, rfl, Or.inl ⟨⟨by first | exact h19 | exact Decidable.not_not.mp h19, b37⟩, ?_, rfl⟩⟩
                    rw [e2, nI_cl (show t < 2147483648 by omega)]
                    rfl))
  · have b5 := z0.mp (Decidable.not_not.mp h5)
    refine xG_run 5 rfl (by repeat' (first | exact trivial | assumption | exact xob_b rfl | exact xal_b rfl | (apply And.intro) | decide)) ?_
    try dsimp only [xsto1, xsto2, xkill, xget, xset, gd_0, gd_s]
    try rw [hj1]
    refine xG_br rfl (fun h52 => ?_) (fun h52 => ?_)
    · first
        | (exfalso; rw [gI_self] at h52; first | exact h52 (by decide) | exact absurd h52 (by decide))
        | (refine xG_run 1 rfl (by repeat' (first | exact trivial | assumption | exact xob_b rfl | exact xal_b rfl | (apply And.intro) | decide)) ?_
           try dsimp only [xsto1, xsto2, xkill, xget, xset, gd_0, gd_s]
           try rw [hj1]
           refine r2_l rfl rfl ?_
           first
             | exact Or.inr ⟨no8 b5, rfl, rfl⟩
             | exact Or.inl ⟨j, hj, rfl, Or.inr ⟨fun q => b37 q.2, rfl, rfl⟩⟩
             | exact Or.inl ⟨j, hj, rfl, Or.inr ⟨fun q => h19 q.1, rfl, rfl⟩⟩
             | (refine Or.inl ⟨j, hj, rfl, Or.inl ⟨⟨by first | exact h19 | exact Decidable.not_not.mp h19, b37⟩, ?_, rfl⟩⟩
                rw [e2, nI_cl (show t < 2147483648 by omega)]
                rfl))
    · first
        | (exfalso; rw [gI_self] at h52; first | exact h52 (by decide) | exact absurd h52 (by decide))
        | (refine xG_run 8 rfl (by repeat' (first | exact trivial | assumption | exact xob_b rfl | exact xal_b rfl | (apply And.intro) | decide)) ?_
           try dsimp only [xsto1, xsto2, xkill, xget, xset, gd_0, gd_s]
           try rw [hj1]
           refine xG_run 2 rfl (by repeat' (first | exact trivial | assumption | exact xob_b rfl | exact xal_b rfl | (apply And.intro) | decide)) ?_
           try dsimp only [xsto1, xsto2, xkill, xget, xset, gd_0, gd_s]
           try rw [hj1]
           refine r2_l rfl rfl ?_
           first
             | exact Or.inr ⟨no8 b5, rfl, rfl⟩
             | exact Or.inl ⟨j, hj, rfl, Or.inr ⟨fun q => b37 q.2, rfl, rfl⟩⟩
             | exact Or.inl ⟨j, hj, rfl, Or.inr ⟨fun q => h19 q.1, rfl, rfl⟩⟩
             | (refine Or.inl ⟨j, hj, rfl, Or.inl ⟨⟨by first | exact h19 | exact Decidable.not_not.mp h19, b37⟩, ?_, rfl⟩⟩
                rw [e2, nI_cl (show t < 2147483648 by omega)]
                rfl))
