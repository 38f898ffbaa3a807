/-! ===== what the functions read: cells of 167 and 166.18 ===== -/
section CR
variable {M M' : xM} {np nr : Nat} (h : ∀ k, gI M' 167 k = gI M 167 k) (hj : gJ M' 166 18 = gJ M 166 18)
theorem jkV_c (h : ∀ k, gI M' 167 k = gI M 167 k) {q : Nat} {L : Int32} : jkV M' q L = jkV M q L := by unfold jkV; rw [rr_c h, rP_c h, rA_c h, rH_c h]
theorem c_sI (h : ∀ k, gI M' 167 k = gI M 167 k) {a : Nat} {v : Int32} (k : Nat) : gI (sI M' 167 a v) 167 k = gI (sI M 167 a v) 167 k := by
  rw [gIsI, gIsI, h]
theorem afV_c (h : ∀ k, gI M' 167 k = gI M 167 k) (hj : gJ M' 166 18 = gJ M 166 18) {q : Nat} : afV M' np nr q = afV M np nr q := by
  have e : ∀ J, rSt (afR M' q J) np nr = rSt (afR M q J) np nr := fun J => rSt_c (fun k => c_sI h k) ((gJ_self _ _ _ _).trans (gJ_self _ _ _ _).symm)
  unfold afV
  rw [rr_c h, rSt_c h hj, jkV_c h, e]
theorem rbV_c (h : ∀ k, gI M' 167 k = gI M 167 k) (hj : gJ M' 166 18 = gJ M 166 18) {q : Nat} {u b w : Int32} : rbV M' np nr q u b w = rbV M np nr q u b w := by
  have e : ∀ t k, gI (tgR M' q t) 167 k = gI (tgR M q t) 167 k := fun t k => c_sI h k
  have e2 : rbO M' np nr q u b = rbO M np nr q u b := funext (fun t => by
    unfold rbO
    rw [rSt_c (e t) hj, rP_c (e t)])
  unfold rbV
  rw [e2]
theorem unV_c (h : ∀ k, gI M' 167 k = gI M 167 k) (hj : gJ M' 166 18 = gJ M 166 18) : unV M' np nr = unV M np nr := by
  have e0 : (fun i => rs M' i 5) = fun i => rs M i 5 := funext (fun i => rs_c h i 5)
  have e : ∀ s k, gI (meR M' np s) 167 k = gI (meR M np s) 167 k := fun s k => by
    show (if _ then _ else _) = (if _ then _ else _)
    rw [e0, h]
  unfold unV
  rw [e0, show (fun s => rSt (meR M' np s) np nr) = fun s => rSt (meR M np s) np nr from funext (fun s => rSt_c (e s) hj)]
theorem stF_c (h : ∀ k, gI M' 167 k = gI M 167 k) {s : Nat} : ∀ (no q : Nat), stF M' s no q = stF M s no q
  | 0, q => rr_c h q 3
  | k + 1, q => by
    have e1 : oro M' k = oro M k := h _
    have e2 : oM M' k = oM M k := h _
    rw [stF, stF, stF_c h k q, e1, e2]
theorem chR_c (h : ∀ k, gI M' 167 k = gI M 167 k) {no s : Nat} (k : Nat) : gI (chR M' nr no s) 167 k = gI (chR M nr no s) 167 k := by
  show (if _ then _ else _) = (if _ then _ else _)
  rw [h, stF_c h]
theorem enP_c (h : ∀ k, gI M' 167 k = gI M 167 k) (hj : gJ M' 166 18 = gJ M 166 18) {E E' : Nat → Int32} {z mo : Nat} (hE : ∀ k, k < z → E' k = E k) : enP M' np nr E' z mo ↔ enP M np nr E z mo := by
  have e : ∀ a b, rSt (wsR M' a b) np nr = rSt (wsR M a b) np nr := fun a b => rSt_c (fun k => c_sI (fun k => c_sI h k) k) hj
  constructor
  · intro q i hi
    obtain ⟨q1, q2⟩ := q i hi
    unfold okS at q1 q2 ⊢
    rw [hE i hi, e] at q1 q2
    exact ⟨q1, q2⟩
  · intro q i hi
    obtain ⟨q1, q2⟩ := q i hi
    unfold okS at q1 q2 ⊢
    rw [hE i hi, e, e]
    exact ⟨q1, q2⟩
theorem chF_c {P P' : Nat → Int32} {A B : Nat → Prop} [∀ s, Decidable (A s)] [∀ s, Decidable (B s)] (hP : ∀ s, P' s = P s) (hO : ∀ s, A s ↔ B s) : ∀ n, chF P' A n = chF P B n
  | 0 => rfl
  | n + 1 => by
    rw [chF, chF, chF_c hP hO n, hP]
    by_cases c : A n
    · rw [if_pos c, if_pos ((hO n).mp c)]
    · rw [if_neg c, if_neg (fun q => c ((hO n).mpr q))]
theorem cheV_c (h : ∀ k, gI M' 167 k = gI M 167 k) (hj : gJ M' 166 18 = gJ M 166 18) {no z mo : Nat} {E E' : Nat → Int32} {w : Int32} (hE : ∀ k, k < z → E' k = E k) : cheV M' np nr no E' z mo w = cheV M np nr no E z mo w := by
  have e1 : ∀ s, prV M' no s = prV M no s := fun s => iSum_cong (fun k _ => by rw [show oP M' k = oP M k from h _])
  unfold cheV
  rw [chF_c e1 (fun s => enP_c (fun k => chR_c h k) hj hE)]
theorem oQ_c (h : ∀ k, gI M' 167 k = gI M 167 k) (hj : gJ M' 166 18 = gJ M 166 18) {U : Nat} {t ml mp : Int32} : oQ M' np nr U t ml mp = oQ M np nr U t ml mp := by
  have e : ∀ S k, gI (tgU M' nr U S t) 167 k = gI (tgU M nr U S t) 167 k := fun S k => by rw [tu_g, tu_g, h]
  funext S r
  refine propext ⟨fun q => ⟨q.1, (isF_c (fun k => c_sI (e S) k) hj).mp q.2.1, (isF_c (e _) hj).mp q.2.2⟩, fun q => ⟨q.1, (isF_c (fun k => c_sI (e S) k) hj).mpr q.2.1, (isF_c (e _) hj).mpr q.2.2⟩⟩
theorem gO_c (h : ∀ k, gI M' 167 k = gI M 167 k) {x t ml mp : Int32} {U : Nat} : gO M' nr x t ml mp U ↔ gO M nr x t ml mp U := by
  unfold gO
  simp only [rr_c h]
theorem clV_c (h : ∀ k, gI M' 167 k = gI M 167 k) (hj : gJ M' 166 18 = gJ M 166 18) {nu : Nat} {hour : Int32} : clV M' np nr nu hour = clV M np nr nu hour := by
  have e : ∀ p, hlV M' (fct M' np nr p hour) nu = hlV M (fct M np nr p hour) nu := fun p => by
    rw [hlV_c h, show fct M' np nr p hour = fct M np nr p hour from funext (fct_c h hj)]
  unfold clV
  simp only [e]
end CR
/-! ===== what they read of a text: what stands before its end ===== -/
section CT
variable {T T' : Nat → Int32} {n : Nat}
theorem chr_c (h : ∀ k, k < n → T' k = T k) (p : Nat) : chr T' n p = chr T n p := by
  unfold chr
  by_cases c : p < n
  · rw [if_pos c, if_pos c, h p c]
  · rw [if_neg c, if_neg c]
theorem nL_c (h : ∀ k, k < n → T' k = T k) (p : Nat) : nL T' n p = nL T n p := by unfold nL; simp only [chr_c h]
theorem nV_c (h : ∀ k, k < n → T' k = T k) (p : Nat) : nV T' n p = nV T n p := by unfold nV; simp only [chr_c h, nL_c h]
theorem rd1_c (h : ∀ k, k < n → T' k = T k) (it : Nat) (s : tsT) : rd1 T' n it s = rd1 T n it s := by unfold rd1; simp only [chr_c h, nL_c h, nV_c h]
theorem rdS_c (h : ∀ k, k < n → T' k = T k) : ∀ (l : List Nat) (s : tsT), rdS T' n l s = rdS T n l s
  | [], _ => rfl
  | it :: l, s => by rw [rdS, rdS, rd1_c h, rdS_c h l]
theorem stS_c (h : ∀ k, k < n → T' k = T k) (p : Nat) (sd : Int32) : stS T' n p sd = stS T n p sd := by unfold stS; simp only [chr_c h, rdS_c h]
theorem fpR_c (h : ∀ k, k < n → T' k = T k) : ∀ (f p : Nat), fpR T' n f p = fpR T n f p
  | 0, _ => rfl
  | f + 1, p => by rw [fpR, fpR, stS_c h, fpR_c h f]
end CT
