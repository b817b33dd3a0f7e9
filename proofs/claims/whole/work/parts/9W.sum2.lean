/-! ===== drawing: words of sums, on both sides ===== -/
theorem lB_N : ∀ j, j < 256 → lB (Int32.ofNat j) = true → 97 ≤ j ∧ j ≤ 122 ∧ (Int32.ofNat j - 97 + 1).toInt64 = Int64.ofNat (j - 96) := by decide +kernel
theorem lB_n {x : Int32} (h : lB x = true) : ∃ d, 1 ≤ d ∧ d ≤ 26 ∧ (x - 97 + 1).toInt64 = Int64.ofNat d := by
  have h1 := lB_t h
  have h2 : ¬ x < 97 ∧ ¬ 122 < x := by
    unfold inR at h1
    constructor
    · intro q; rw [if_pos q] at h1; exact absurd h1 (by decide)
    · intro q
      by_cases q2 : x < 97
      · rw [if_pos q2] at h1; exact absurd h1 (by decide)
      · rw [if_neg q2, if_pos q] at h1; exact absurd h1 (by decide)
  obtain ⟨j, hj, rfl⟩ := nn_oN (x := x) (fun q => h2.1 (Int32.lt_trans q (by decide)))
  have h3 : j < 256 := by
    have h4 : ¬ 122 < j := fun q => h2.2 ((oN_lt (a := 122) (by omega) hj).mpr q)
    omega
  obtain ⟨a1, a2, a3⟩ := lB_N j h3 h
  exact ⟨j - 96, by omega, by omega, a3⟩
theorem wv_N {t : RW} : ∀ (m k v : Nat), ∃ w, wvR t m k (Int64.ofNat v) = Int64.ofNat w ∧ w < (v + 1) * 32 ^ (rnE lB t m k - k) ∧ v ≤ w ∧ (1 ≤ rnE lB t m k - k → 32 * v + 1 ≤ w) ∧ (2 ≤ rnE lB t m k - k → 33 ≤ w) := by
  intro m
  induction m with
  | zero =>
    intro k v
    have e : rnE lB t 0 k - k = 0 := by show k - k = 0; omega
    rw [e]
    exact ⟨v, rfl, by omega, Nat.le_refl _, fun q => by omega, fun q => by omega⟩
  | succ m ih =>
    intro k v
    by_cases hl : lB (t k) = true
    · have eR : rnE lB t (m + 1) k = rnE lB t m (k + 1) := by show (if lB (t k) = true then _ else _) = _; rw [if_pos hl]
      have eV : wvR t (m + 1) k (Int64.ofNat v) = wvR t m (k + 1) (32 * Int64.ofNat v + (t k - 97 + 1).toInt64) := by show (if lB (t k) = true then _ else _) = _; rw [if_pos hl]
      obtain ⟨d, d1, d2, d3⟩ := lB_n hl
      have hge := (rnE_ge (q := lB) (t := t) m (k + 1)).1
      have e3 : 32 * Int64.ofNat v + (t k - 97 + 1).toInt64 = Int64.ofNat (32 * v + d) := by
        rw [d3, show (32 : Int64) = Int64.ofNat 32 from rfl, ← Int64.ofNat_mul, ← Int64.ofNat_add]
      obtain ⟨w, w1, w2, w3, w4, w5⟩ := ih (k + 1) (32 * v + d)
      rw [eR, eV, e3]
      refine ⟨w, w1, ?_, by omega, fun _ => by omega, fun q => by have := w4 (by omega); omega⟩
      rw [show rnE lB t m (k + 1) - k = (rnE lB t m (k + 1) - (k + 1)) + 1 by omega, Nat.pow_succ, Nat.mul_comm (32 ^ _) 32, ← Nat.mul_assoc]
      exact Nat.lt_of_lt_of_le w2 (Nat.mul_le_mul_right _ (by omega))
    · have eR : rnE lB t (m + 1) k = k := by show (if lB (t k) = true then _ else _) = _; rw [if_neg hl]
      have eV : wvR t (m + 1) k (Int64.ofNat v) = Int64.ofNat v := by show (if lB (t k) = true then _ else _) = _; rw [if_neg hl]
      rw [eR, eV]
      refine ⟨v, rfl, by rw [Nat.sub_self]; omega, Nat.le_refl _, fun q => by omega, fun q => by omega⟩
theorem kd_2 {t : RW} {n k : Nat} (h : kd t n k = 2) : k < n ∧ lB (t k) = true ∧ vl t n k = wvR t (n - k) k 0 ∧ en t n k = rnE lB t (n - k) k ∧ rnE lB t (n - k) k - k ≤ 8 := by
  have hk := kd_in (t := t) (n := n) (k := k) (by omega)
  unfold kd at h
  rw [if_neg (by omega)] at h
  split at h
  · rename_i hl
    split at h
    · rename_i h8
      refine ⟨hk, hl, ?_, ?_, h8⟩
      · unfold vl; rw [if_pos hl]
      · unfold en; rw [if_neg (by omega), if_pos hl]
    · omega
  · split at h
    · split at h <;> omega
    · split at h <;> omega
theorem i64_inj {a c : Nat} (ha : a < 4611686018427387904) (hc : c < 4611686018427387904) (h : Int64.ofNat a = Int64.ofNat c) : a = c := by
  have h1 : BitVec.ofNat 64 a = BitVec.ofNat 64 c := congrArg Int64.toBitVec h
  have h2 := congrArg BitVec.toNat h1
  rw [BitVec.toNat_ofNat, BitVec.toNat_ofNat] at h2
  omega
/-- one letter alone -/
theorem let1 {t : RW} {n k c : Nat} (h : kd t n k = 2) (hc : c < 33) (hv : vl t n k = Int64.ofNat c) : en t n k - k = 1 := by
  obtain ⟨h1, h2, h3, h4, h5⟩ := kd_2 h
  obtain ⟨w, w1, w2, w3, w4, w5⟩ := wv_N (t := t) (n - k) k 0
  have hgt := rnE_1 (q := lB) (t := t) h1 h2
  rw [h4]
  by_cases h6 : 2 ≤ rnE lB t (n - k) k - k
  · exfalso
    have h7 := w5 h6
    have h8 : 32 ^ (rnE lB t (n - k) k - k) ≤ 32 ^ 8 := Nat.pow_le_pow_right (by decide) h5
    have h9 : (32 : Nat) ^ 8 = 1099511627776 := by decide
    have e : Int64.ofNat w = Int64.ofNat c := by rw [← w1]; exact h3.symm.trans hv
    have := i64_inj (by omega) (by omega) e
    omega
  · omega
theorem varV_2 {t : RW} {n i : Nat} (h : varV t n i ≠ -1) : kd t n (pl t n i) = 2 := by
  unfold varV at h
  split at h
  · assumption
  · exact absurd rfl h
section SUM2
variable {b : Nat} {F : Nat → Option AE} {D E : Nat → Option KD} {I : Nat → Nat → Int32} {L : Nat → Nat → Int64} {P : Nat → Nat → Option Nat} {nx us : Nat}
theorem M_var {n i : Nat} {t : RW} {rg : Int32} (h : TM t n rg (pl t n i) (I 72) (L 72)) : f_X15_varHere (ad b 72) (lay b F E I L P nx us) = some (varV t n i, (lay b F E I L P nx us)) := by
  have h2 := (M_srt h).1
  unfold varV
  by_cases hc : kd t n (pl t n i) = 2
  · obtain ⟨-, hv, h32, -⟩ := h.2.2.2.1 hc
    rw [if_pos hc]
    have one : ∀ c, c < 33 → vl t n (pl t n i) = Int64.ofNat c → I 72 32 = 1 := fun c hc' hq => by rw [h32, let1 hc hc' hq]; rfl
    have cm : ∀ c : Int64, (lg_cmp (vl t n (pl t n i)) c = 0) = (vl t n (pl t n i) = c) := fun c => propext (cmp_eq _ _)
    by_cases q1 : vl t n (pl t n i) = 9
    · have o := one 9 (by decide) q1
      rw [if_pos q1]
      simp (decide := true) only [f_X15_varHere_96, f_X15_varHere_16, f_X15_varHere, h2, hc, o, hv, cm, q1, isO_s, gI_s, gA_s, gL_s, pI_s, pZ_s, pL_s, aI_s, aL_s, aN_s, aQ_s, sI_s, sL_s, cr, LNs, Option.map_some, Option.map_none, Option.bind_some, b2, tr, lt, if_true, if_false, ckZ, X_within, M_in, inR_z, X_refuse, X_tell, X_deny, X_grant, M_refused, M_denied, M_done, M_granted, u2_same, u2_ne, u2_u2, upd_same, upd_ne, aW0, ixR_z, ixR_1, M_isWall, M_isPainter, M_isWork, X_has4, X_has10, X_at, or_false, false_or, or_true, true_or, not_true, not_false_iff, Option.isSome_some, isO_d, gI_d, gA_d, pI_d, ne_eq, not_false_eq_true, u2_hi, u2_hj, u2_dyn, u2_dynj, Nat.reduceAdd, mX_r, mX_rD, mX_rDj, mM_r, mX_u, mX_uM, mX_uD, mX_uDj, mM_u, mM_uX, mM_uD, mM_uDj, u2_dd, u2_d0, u2_0d]
    · rw [if_neg q1]
      by_cases q2 : vl t n (pl t n i) = 10
      · have o := one 10 (by decide) q2
        rw [if_pos q2]
        simp (decide := true) only [f_X15_varHere_96, f_X15_varHere_16, f_X15_varHere, h2, hc, o, hv, cm, q1, q2, isO_s, gI_s, gA_s, gL_s, pI_s, pZ_s, pL_s, aI_s, aL_s, aN_s, aQ_s, sI_s, sL_s, cr, LNs, Option.map_some, Option.map_none, Option.bind_some, b2, tr, lt, if_true, if_false, ckZ, X_within, M_in, inR_z, X_refuse, X_tell, X_deny, X_grant, M_refused, M_denied, M_done, M_granted, u2_same, u2_ne, u2_u2, upd_same, upd_ne, aW0, ixR_z, ixR_1, M_isWall, M_isPainter, M_isWork, X_has4, X_has10, X_at, or_false, false_or, or_true, true_or, not_true, not_false_iff, Option.isSome_some, isO_d, gI_d, gA_d, pI_d, ne_eq, not_false_eq_true, u2_hi, u2_hj, u2_dyn, u2_dynj, Nat.reduceAdd, mX_r, mX_rD, mX_rDj, mM_r, mX_u, mX_uM, mX_uD, mX_uDj, mM_u, mM_uX, mM_uD, mM_uDj, u2_dd, u2_d0, u2_0d]
      · rw [if_neg q2]
        by_cases q3 : vl t n (pl t n i) = 11
        · have o := one 11 (by decide) q3
          rw [if_pos q3]
          simp (decide := true) only [f_X15_varHere_96, f_X15_varHere_16, f_X15_varHere, h2, hc, o, hv, cm, q1, q2, q3, isO_s, gI_s, gA_s, gL_s, pI_s, pZ_s, pL_s, aI_s, aL_s, aN_s, aQ_s, sI_s, sL_s, cr, LNs, Option.map_some, Option.map_none, Option.bind_some, b2, tr, lt, if_true, if_false, ckZ, X_within, M_in, inR_z, X_refuse, X_tell, X_deny, X_grant, M_refused, M_denied, M_done, M_granted, u2_same, u2_ne, u2_u2, upd_same, upd_ne, aW0, ixR_z, ixR_1, M_isWall, M_isPainter, M_isWork, X_has4, X_has10, X_at, or_false, false_or, or_true, true_or, not_true, not_false_iff, Option.isSome_some, isO_d, gI_d, gA_d, pI_d, ne_eq, not_false_eq_true, u2_hi, u2_hj, u2_dyn, u2_dynj, Nat.reduceAdd, mX_r, mX_rD, mX_rDj, mM_r, mX_u, mX_uM, mX_uD, mX_uDj, mM_u, mM_uX, mM_uD, mM_uDj, u2_dd, u2_d0, u2_0d]
        · rw [if_neg q3]
          by_cases q4 : vl t n (pl t n i) = 13
          · have o := one 13 (by decide) q4
            rw [if_pos q4]
            simp (decide := true) only [f_X15_varHere_96, f_X15_varHere_16, f_X15_varHere, h2, hc, o, hv, cm, q1, q2, q3, q4, isO_s, gI_s, gA_s, gL_s, pI_s, pZ_s, pL_s, aI_s, aL_s, aN_s, aQ_s, sI_s, sL_s, cr, LNs, Option.map_some, Option.map_none, Option.bind_some, b2, tr, lt, if_true, if_false, ckZ, X_within, M_in, inR_z, X_refuse, X_tell, X_deny, X_grant, M_refused, M_denied, M_done, M_granted, u2_same, u2_ne, u2_u2, upd_same, upd_ne, aW0, ixR_z, ixR_1, M_isWall, M_isPainter, M_isWork, X_has4, X_has10, X_at, or_false, false_or, or_true, true_or, not_true, not_false_iff, Option.isSome_some, isO_d, gI_d, gA_d, pI_d, ne_eq, not_false_eq_true, u2_hi, u2_hj, u2_dyn, u2_dynj, Nat.reduceAdd, mX_r, mX_rD, mX_rDj, mM_r, mX_u, mX_uM, mX_uD, mX_uDj, mM_u, mM_uX, mM_uD, mM_uDj, u2_dd, u2_d0, u2_0d]
          · rw [if_neg q4]
            by_cases q5 : vl t n (pl t n i) = 14
            · have o := one 14 (by decide) q5
              rw [if_pos q5]
              simp (decide := true) only [f_X15_varHere_96, f_X15_varHere_16, f_X15_varHere, h2, hc, o, hv, cm, q1, q2, q3, q4, q5, isO_s, gI_s, gA_s, gL_s, pI_s, pZ_s, pL_s, aI_s, aL_s, aN_s, aQ_s, sI_s, sL_s, cr, LNs, Option.map_some, Option.map_none, Option.bind_some, b2, tr, lt, if_true, if_false, ckZ, X_within, M_in, inR_z, X_refuse, X_tell, X_deny, X_grant, M_refused, M_denied, M_done, M_granted, u2_same, u2_ne, u2_u2, upd_same, upd_ne, aW0, ixR_z, ixR_1, M_isWall, M_isPainter, M_isWork, X_has4, X_has10, X_at, or_false, false_or, or_true, true_or, not_true, not_false_iff, Option.isSome_some, isO_d, gI_d, gA_d, pI_d, ne_eq, not_false_eq_true, u2_hi, u2_hj, u2_dyn, u2_dynj, Nat.reduceAdd, mX_r, mX_rD, mX_rDj, mM_r, mX_u, mX_uM, mX_uD, mX_uDj, mM_u, mM_uX, mM_uD, mM_uDj, u2_dd, u2_d0, u2_0d]
            · rw [if_neg q5]
              by_cases o : I 72 32 = 1
              · simp (decide := true) only [f_X15_varHere_96, f_X15_varHere_16, f_X15_varHere, h2, hc, o, hv, cm, q1, q2, q3, q4, q5, isO_s, gI_s, gA_s, gL_s, pI_s, pZ_s, pL_s, aI_s, aL_s, aN_s, aQ_s, sI_s, sL_s, cr, LNs, Option.map_some, Option.map_none, Option.bind_some, b2, tr, lt, if_true, if_false, ckZ, X_within, M_in, inR_z, X_refuse, X_tell, X_deny, X_grant, M_refused, M_denied, M_done, M_granted, u2_same, u2_ne, u2_u2, upd_same, upd_ne, aW0, ixR_z, ixR_1, M_isWall, M_isPainter, M_isWork, X_has4, X_has10, X_at, or_false, false_or, or_true, true_or, not_true, not_false_iff, Option.isSome_some, isO_d, gI_d, gA_d, pI_d, ne_eq, not_false_eq_true, u2_hi, u2_hj, u2_dyn, u2_dynj, Nat.reduceAdd, mX_r, mX_rD, mX_rDj, mM_r, mX_u, mX_uM, mX_uD, mX_uDj, mM_u, mM_uX, mM_uD, mM_uDj, u2_dd, u2_d0, u2_0d]
              · simp (decide := true) only [f_X15_varHere_96, f_X15_varHere_16, f_X15_varHere, h2, hc, o, isO_s, gI_s, gA_s, gL_s, pI_s, pZ_s, pL_s, aI_s, aL_s, aN_s, aQ_s, sI_s, sL_s, cr, LNs, Option.map_some, Option.map_none, Option.bind_some, b2, tr, lt, if_true, if_false, ckZ, X_within, M_in, inR_z, X_refuse, X_tell, X_deny, X_grant, M_refused, M_denied, M_done, M_granted, u2_same, u2_ne, u2_u2, upd_same, upd_ne, aW0, ixR_z, ixR_1, M_isWall, M_isPainter, M_isWork, X_has4, X_has10, X_at, or_false, false_or, or_true, true_or, not_true, not_false_iff, Option.isSome_some, isO_d, gI_d, gA_d, pI_d, ne_eq, not_false_eq_true, u2_hi, u2_hj, u2_dyn, u2_dynj, Nat.reduceAdd, mX_r, mX_rD, mX_rDj, mM_r, mX_u, mX_uM, mX_uD, mX_uDj, mM_u, mM_uX, mM_uD, mM_uDj, u2_dd, u2_d0, u2_0d]
  · rw [if_neg hc]
    simp (decide := true) only [f_X15_varHere_96, f_X15_varHere_16, f_X15_varHere, h2, hc, isO_s, gI_s, gA_s, gL_s, pI_s, pZ_s, pL_s, aI_s, aL_s, aN_s, aQ_s, sI_s, sL_s, cr, LNs, Option.map_some, Option.map_none, Option.bind_some, b2, tr, lt, if_true, if_false, ckZ, X_within, M_in, inR_z, X_refuse, X_tell, X_deny, X_grant, M_refused, M_denied, M_done, M_granted, u2_same, u2_ne, u2_u2, upd_same, upd_ne, aW0, ixR_z, ixR_1, M_isWall, M_isPainter, M_isWork, X_has4, X_has10, X_at, or_false, false_or, or_true, true_or, not_true, not_false_iff, Option.isSome_some, isO_d, gI_d, gA_d, pI_d, ne_eq, not_false_eq_true, u2_hi, u2_hj, u2_dyn, u2_dynj, Nat.reduceAdd, mX_r, mX_rD, mX_rDj, mM_r, mX_u, mX_uM, mX_uD, mX_uDj, mM_u, mM_uX, mM_uD, mM_uDj, u2_dd, u2_d0, u2_0d]
theorem X_isv (x : Int32) (h : AH) : f_X2_isVariable x h = some (inR x 7 11, h) := by
  unfold inR
  simp only [f_X2_isVariable, f_X2_isVariable_16, f_X2_isVariable_17, ckZ]
  split
  · rfl
  · split <;> rfl
theorem var_T {t : RW} {n i : Nat} : ((nmT t n i < 7 ∨ 11 < nmT t n i) ↔ varV t n i = -1) ∧ (varV t n i ≠ -1 → nmT t n i - 7 = varV t n i) := by
  by_cases h : kd t n (pl t n i) = 2
  · have e : varV t n i = varW (vl t n (pl t n i)) := if_pos h
    rw [e, nmT_2 h]
    exact nmV_var _
  · have e : varV t n i = -1 := if_neg h
    rw [e, nmT_n h]
    decide
theorem var_I {t : RW} {n i : Nat} : (inR (nmT t n i) 7 11 = 0) = (varV t n i = -1) := by rw [inR_z]; exact propext var_T.1
theorem nmT_5 {t : RW} {n i : Nat} : (nmT t n i = 5) = isW t n i 9 := nmT_w (by decide) nmV_5
theorem nmT_6 {t : RW} {n i : Nat} : (nmT t n i = 6) = isW t n i 10 := nmT_w (by decide) nmV_6
theorem nmT_12 {t : RW} {n i : Nat} : (nmT t n i = 12) = isW t n i 7 := nmT_w (by decide) nmV_12
theorem pt_T {t : RW} {n i : Nat} (h : kd t n (pl t n i) = 2) : ((nmT t n i < 7 ∨ 13 < nmT t n i) ↔ ¬ (varV t n i ≠ -1 ∨ isW t n i 7 ∨ isW t n i 8)) ∧ ((nmT t n i < 0 ∨ 6 < nmT t n i) ↔ ¬ (isW t n i 1 ∨ isW t n i 2 ∨ isW t n i 3 ∨ isW t n i 4 ∨ isW t n i 5 ∨ isW t n i 9 ∨ isW t n i 10)) := by
  have e : varV t n i = varW (vl t n (pl t n i)) := if_pos h
  rw [e, nmT_2 h]
  simp only [isW, h, true_and]
  exact nmV_pt _
/-- the kind of a step, as the class numbers them -/
def skV (t : RW) (n i : Nat) : Int32 := if isW t n i 1 then 6 else if isW t n i 2 then 7 else if isW t n i 3 then 8 else if isW t n i 4 then 9 else if isW t n i 5 then 11 else -1
theorem sk_T {t : RW} {n i : Nat} (h : kd t n (pl t n i) = 2) : ((nmT t n i < 0 ∨ 4 < nmT t n i) ↔ skV t n i = -1) ∧ (nmT t n i = 0 ↔ skV t n i = 6) ∧ (nmT t n i = 1 ↔ skV t n i = 7) ∧ (nmT t n i = 2 ↔ skV t n i = 8) ∧ (nmT t n i = 3 ↔ skV t n i = 9) := by
  have e : skV t n i = skW (vl t n (pl t n i)) := by
    unfold skV skW
    simp only [isW, h, true_and]
  rw [e, nmT_2 h]
  exact nmV_sk _
theorem skV_m1 {t : RW} {n i : Nat} : (skV t n i = -1) = ¬ (isW t n i 1 ∨ isW t n i 2 ∨ isW t n i 3 ∨ isW t n i 4 ∨ isW t n i 5) := by
  unfold skV
  repeat' split
  all_goals simp_all (decide := true)
theorem M_kept {z : ZX} {n i : Nat} {t : RW} {rg : Int32} (hz : GZ b F z) (h : TM t n rg (pl t n i) (I 72) (L 72)) : f_X15_isKept z (ad b 72) (lay b F E I L P nx us) = some (if (isW t n i 1 ∨ isW t n i 2 ∨ isW t n i 3 ∨ isW t n i 4 ∨ isW t n i 5 ∨ isW t n i 9 ∨ isW t n i 10) then 1 else 0, (lay b F E I L P nx us)) := by
  have w1 : f_X15_isWord z (ad b 72) (z.1 16) (lay b F E I L P nx us) = some (if isW t n i 1 then 1 else 0, (lay b F E I L P nx us)) := M_isW (k := 16) hz (by decide) h
  have w2 : f_X15_isWord z (ad b 72) (z.1 17) (lay b F E I L P nx us) = some (if isW t n i 2 then 1 else 0, (lay b F E I L P nx us)) := M_isW (k := 17) hz (by decide) h
  have w3 : f_X15_isWord z (ad b 72) (z.1 18) (lay b F E I L P nx us) = some (if isW t n i 3 then 1 else 0, (lay b F E I L P nx us)) := M_isW (k := 18) hz (by decide) h
  have w4 : f_X15_isWord z (ad b 72) (z.1 19) (lay b F E I L P nx us) = some (if isW t n i 4 then 1 else 0, (lay b F E I L P nx us)) := M_isW (k := 19) hz (by decide) h
  have w5 : f_X15_isWord z (ad b 72) (z.1 20) (lay b F E I L P nx us) = some (if isW t n i 5 then 1 else 0, (lay b F E I L P nx us)) := M_isW (k := 20) hz (by decide) h
  have w9 : f_X15_isWord z (ad b 72) (z.1 21) (lay b F E I L P nx us) = some (if isW t n i 9 then 1 else 0, (lay b F E I L P nx us)) := M_isW (k := 21) hz (by decide) h
  have wa : f_X15_isWord z (ad b 72) (z.1 22) (lay b F E I L P nx us) = some (if isW t n i 10 then 1 else 0, (lay b F E I L P nx us)) := M_isW (k := 22) hz (by decide) h
  by_cases q1 : isW t n i 1
  · rw [if_pos q1] at w1
    rw [if_pos (Or.inl q1)]
    simp (decide := true) only [f_X15_isKept_75, f_X15_isKept_70, f_X15_isKept, w1, isO_s, gI_s, gA_s, gL_s, pI_s, pZ_s, pL_s, aI_s, aL_s, aN_s, aQ_s, sI_s, sL_s, cr, LNs, Option.map_some, Option.map_none, Option.bind_some, b2, tr, lt, if_true, if_false, ckZ, X_within, M_in, inR_z, X_refuse, X_tell, X_deny, X_grant, M_refused, M_denied, M_done, M_granted, u2_same, u2_ne, u2_u2, upd_same, upd_ne, aW0, ixR_z, ixR_1, M_isWall, M_isPainter, M_isWork, X_has4, X_has10, X_at, or_false, false_or, or_true, true_or, not_true, not_false_iff, Option.isSome_some, isO_d, gI_d, gA_d, pI_d, ne_eq, not_false_eq_true, u2_hi, u2_hj, u2_dyn, u2_dynj, Nat.reduceAdd, mX_r, mX_rD, mX_rDj, mM_r, mX_u, mX_uM, mX_uD, mX_uDj, mM_u, mM_uX, mM_uD, mM_uDj, u2_dd, u2_d0, u2_0d]
  rw [if_neg q1] at w1
  by_cases q2 : isW t n i 2
  · rw [if_pos q2] at w2
    rw [if_pos (Or.inr (Or.inl q2))]
    simp (decide := true) only [f_X15_isKept_75, f_X15_isKept_70, f_X15_isKept, w1, w2, isO_s, gI_s, gA_s, gL_s, pI_s, pZ_s, pL_s, aI_s, aL_s, aN_s, aQ_s, sI_s, sL_s, cr, LNs, Option.map_some, Option.map_none, Option.bind_some, b2, tr, lt, if_true, if_false, ckZ, X_within, M_in, inR_z, X_refuse, X_tell, X_deny, X_grant, M_refused, M_denied, M_done, M_granted, u2_same, u2_ne, u2_u2, upd_same, upd_ne, aW0, ixR_z, ixR_1, M_isWall, M_isPainter, M_isWork, X_has4, X_has10, X_at, or_false, false_or, or_true, true_or, not_true, not_false_iff, Option.isSome_some, isO_d, gI_d, gA_d, pI_d, ne_eq, not_false_eq_true, u2_hi, u2_hj, u2_dyn, u2_dynj, Nat.reduceAdd, mX_r, mX_rD, mX_rDj, mM_r, mX_u, mX_uM, mX_uD, mX_uDj, mM_u, mM_uX, mM_uD, mM_uDj, u2_dd, u2_d0, u2_0d]
  rw [if_neg q2] at w2
  by_cases q3 : isW t n i 3
  · rw [if_pos q3] at w3
    rw [if_pos (Or.inr (Or.inr (Or.inl q3)))]
    simp (decide := true) only [f_X15_isKept_75, f_X15_isKept_70, f_X15_isKept, w1, w2, w3, isO_s, gI_s, gA_s, gL_s, pI_s, pZ_s, pL_s, aI_s, aL_s, aN_s, aQ_s, sI_s, sL_s, cr, LNs, Option.map_some, Option.map_none, Option.bind_some, b2, tr, lt, if_true, if_false, ckZ, X_within, M_in, inR_z, X_refuse, X_tell, X_deny, X_grant, M_refused, M_denied, M_done, M_granted, u2_same, u2_ne, u2_u2, upd_same, upd_ne, aW0, ixR_z, ixR_1, M_isWall, M_isPainter, M_isWork, X_has4, X_has10, X_at, or_false, false_or, or_true, true_or, not_true, not_false_iff, Option.isSome_some, isO_d, gI_d, gA_d, pI_d, ne_eq, not_false_eq_true, u2_hi, u2_hj, u2_dyn, u2_dynj, Nat.reduceAdd, mX_r, mX_rD, mX_rDj, mM_r, mX_u, mX_uM, mX_uD, mX_uDj, mM_u, mM_uX, mM_uD, mM_uDj, u2_dd, u2_d0, u2_0d]
  rw [if_neg q3] at w3
  by_cases q4 : isW t n i 4
  · rw [if_pos q4] at w4
    rw [if_pos (Or.inr (Or.inr (Or.inr (Or.inl q4))))]
    simp (decide := true) only [f_X15_isKept_75, f_X15_isKept_70, f_X15_isKept, w1, w2, w3, w4, isO_s, gI_s, gA_s, gL_s, pI_s, pZ_s, pL_s, aI_s, aL_s, aN_s, aQ_s, sI_s, sL_s, cr, LNs, Option.map_some, Option.map_none, Option.bind_some, b2, tr, lt, if_true, if_false, ckZ, X_within, M_in, inR_z, X_refuse, X_tell, X_deny, X_grant, M_refused, M_denied, M_done, M_granted, u2_same, u2_ne, u2_u2, upd_same, upd_ne, aW0, ixR_z, ixR_1, M_isWall, M_isPainter, M_isWork, X_has4, X_has10, X_at, or_false, false_or, or_true, true_or, not_true, not_false_iff, Option.isSome_some, isO_d, gI_d, gA_d, pI_d, ne_eq, not_false_eq_true, u2_hi, u2_hj, u2_dyn, u2_dynj, Nat.reduceAdd, mX_r, mX_rD, mX_rDj, mM_r, mX_u, mX_uM, mX_uD, mX_uDj, mM_u, mM_uX, mM_uD, mM_uDj, u2_dd, u2_d0, u2_0d]
  rw [if_neg q4] at w4
  by_cases q9 : isW t n i 9
  · rw [if_pos q9] at w9
    rw [if_pos (Or.inr (Or.inr (Or.inr (Or.inr (Or.inr (Or.inl q9))))))]
    simp (decide := true) only [f_X15_isKept_75, f_X15_isKept_70, f_X15_isKept, w1, w2, w3, w4, w9, isO_s, gI_s, gA_s, gL_s, pI_s, pZ_s, pL_s, aI_s, aL_s, aN_s, aQ_s, sI_s, sL_s, cr, LNs, Option.map_some, Option.map_none, Option.bind_some, b2, tr, lt, if_true, if_false, ckZ, X_within, M_in, inR_z, X_refuse, X_tell, X_deny, X_grant, M_refused, M_denied, M_done, M_granted, u2_same, u2_ne, u2_u2, upd_same, upd_ne, aW0, ixR_z, ixR_1, M_isWall, M_isPainter, M_isWork, X_has4, X_has10, X_at, or_false, false_or, or_true, true_or, not_true, not_false_iff, Option.isSome_some, isO_d, gI_d, gA_d, pI_d, ne_eq, not_false_eq_true, u2_hi, u2_hj, u2_dyn, u2_dynj, Nat.reduceAdd, mX_r, mX_rD, mX_rDj, mM_r, mX_u, mX_uM, mX_uD, mX_uDj, mM_u, mM_uX, mM_uD, mM_uDj, u2_dd, u2_d0, u2_0d]
  rw [if_neg q9] at w9
  by_cases qa : isW t n i 10
  · rw [if_pos qa] at wa
    rw [if_pos (Or.inr (Or.inr (Or.inr (Or.inr (Or.inr (Or.inr qa))))))]
    simp (decide := true) only [f_X15_isKept_75, f_X15_isKept_70, f_X15_isKept, w1, w2, w3, w4, w9, wa, isO_s, gI_s, gA_s, gL_s, pI_s, pZ_s, pL_s, aI_s, aL_s, aN_s, aQ_s, sI_s, sL_s, cr, LNs, Option.map_some, Option.map_none, Option.bind_some, b2, tr, lt, if_true, if_false, ckZ, X_within, M_in, inR_z, X_refuse, X_tell, X_deny, X_grant, M_refused, M_denied, M_done, M_granted, u2_same, u2_ne, u2_u2, upd_same, upd_ne, aW0, ixR_z, ixR_1, M_isWall, M_isPainter, M_isWork, X_has4, X_has10, X_at, or_false, false_or, or_true, true_or, not_true, not_false_iff, Option.isSome_some, isO_d, gI_d, gA_d, pI_d, ne_eq, not_false_eq_true, u2_hi, u2_hj, u2_dyn, u2_dynj, Nat.reduceAdd, mX_r, mX_rD, mX_rDj, mM_r, mX_u, mX_uM, mX_uD, mX_uDj, mM_u, mM_uX, mM_uD, mM_uDj, u2_dd, u2_d0, u2_0d]
  rw [if_neg qa] at wa
  by_cases q5 : isW t n i 5
  · rw [if_pos q5] at w5
    rw [if_pos (Or.inr (Or.inr (Or.inr (Or.inr (Or.inl q5)))))]
    simp (decide := true) only [f_X15_isKept_75, f_X15_isKept_70, f_X15_isKept, w1, w2, w3, w4, w9, wa, w5, isO_s, gI_s, gA_s, gL_s, pI_s, pZ_s, pL_s, aI_s, aL_s, aN_s, aQ_s, sI_s, sL_s, cr, LNs, Option.map_some, Option.map_none, Option.bind_some, b2, tr, lt, if_true, if_false, ckZ, X_within, M_in, inR_z, X_refuse, X_tell, X_deny, X_grant, M_refused, M_denied, M_done, M_granted, u2_same, u2_ne, u2_u2, upd_same, upd_ne, aW0, ixR_z, ixR_1, M_isWall, M_isPainter, M_isWork, X_has4, X_has10, X_at, or_false, false_or, or_true, true_or, not_true, not_false_iff, Option.isSome_some, isO_d, gI_d, gA_d, pI_d, ne_eq, not_false_eq_true, u2_hi, u2_hj, u2_dyn, u2_dynj, Nat.reduceAdd, mX_r, mX_rD, mX_rDj, mM_r, mX_u, mX_uM, mX_uD, mX_uDj, mM_u, mM_uX, mM_uD, mM_uDj, u2_dd, u2_d0, u2_0d]
  rw [if_neg q5] at w5
  rw [if_neg (by
    intro q
    rcases q with q | q | q | q | q | q | q
    · exact q1 q
    · exact q2 q
    · exact q3 q
    · exact q4 q
    · exact q5 q
    · exact q9 q
    · exact qa q)]
  simp (decide := true) only [f_X15_isKept_75, f_X15_isKept_70, f_X15_isKept, w1, w2, w3, w4, w9, wa, w5, isO_s, gI_s, gA_s, gL_s, pI_s, pZ_s, pL_s, aI_s, aL_s, aN_s, aQ_s, sI_s, sL_s, cr, LNs, Option.map_some, Option.map_none, Option.bind_some, b2, tr, lt, if_true, if_false, ckZ, X_within, M_in, inR_z, X_refuse, X_tell, X_deny, X_grant, M_refused, M_denied, M_done, M_granted, u2_same, u2_ne, u2_u2, upd_same, upd_ne, aW0, ixR_z, ixR_1, M_isWall, M_isPainter, M_isWork, X_has4, X_has10, X_at, or_false, false_or, or_true, true_or, not_true, not_false_iff, Option.isSome_some, isO_d, gI_d, gA_d, pI_d, ne_eq, not_false_eq_true, u2_hi, u2_hj, u2_dyn, u2_dynj, Nat.reduceAdd, mX_r, mX_rD, mX_rDj, mM_r, mX_u, mX_uM, mX_uD, mX_uDj, mM_u, mM_uX, mM_uD, mM_uDj, u2_dd, u2_d0, u2_0d]
end SUM2
