/-! ===== tokens: what both readers ask ===== -/
theorem kd_le {t : RW} {n k : Nat} : kd t n k ≤ 4 := by
  unfold kd
  repeat' split
  all_goals omega
theorem kd_3 {t : RW} {n k : Nat} (h : kd t n k = 3) : vl t n k = (nvR t (n - k) k 0).toInt64 := by
  unfold kd at h
  unfold vl
  split at h
  · omega
  · split at h
    · split at h <;> omega
    · rename_i h1
      rw [if_neg h1]
      split at h
      · rename_i h2
        rw [if_pos h2]
      · split at h <;> omega
theorem kd_4 {t : RW} {n k : Nat} (h : kd t n k = 4) : vl t n k = (t k).toInt64 ∧ gB (t k) = true := by
  unfold kd at h
  unfold vl
  split at h
  · omega
  · split at h
    · split at h <;> omega
    · rename_i h1
      rw [if_neg h1]
      split at h
      · split at h <;> omega
      · rename_i h2
        rw [if_neg h2]
        split at h
        · rename_i h3
          exact ⟨rfl, h3⟩
        · omega
theorem i6432 (x : Int32) : x.toInt64.toInt32 = x := by simp
theorem cmp_eq (x y : Int64) : (lg_cmp x y = 0) ↔ x = y := by
  unfold lg_cmp
  by_cases h1 : x > y
  · rw [if_pos h1]
    refine ⟨fun q => absurd q (by decide), fun q => ?_⟩
    subst q
    exact absurd h1 Int64.lt_irrefl
  · rw [if_neg h1]
    by_cases h2 : x = y
    · rw [if_pos h2]
      exact ⟨fun _ => h2, fun _ => rfl⟩
    · rw [if_neg h2]
      exact ⟨fun q => absurd q (by decide), fun q => absurd q h2⟩
/-- does the i-th token say the k-th text -/
abbrev isW (t : RW) (n i k : Nat) : Prop := kd t n (pl t n i) = 2 ∧ vl t n (pl t n i) = zw k
/-- is the i-th token the sign c -/
abbrev isC (t : RW) (n i : Nat) (c : Int32) : Prop := kd t n (pl t n i) = 4 ∧ t (pl t n i) = c
def sgn (t : RW) (n i : Nat) : Int32 := if kd t n (pl t n i) = 4 then t (pl t n i) else 0
theorem sgn_c {t : RW} {n i : Nat} {c : Int32} (hc : c ≠ 0) : (sgn t n i = c) = isC t n i c := by
  unfold sgn isC
  by_cases h : kd t n (pl t n i) = 4
  · rw [if_pos h]
    exact propext ⟨fun q => ⟨h, q⟩, fun q => q.2⟩
  · rw [if_neg h]
    exact propext ⟨fun q => absurd q.symm hc, fun q => absurd q.1 h⟩
/-- a byte that only the text of a right knows -/
def cm (t : RW) (n i : Nat) (rg : Int32) : Prop := kd t n (pl t n i) = 4 ∧ rg = 0 ∧ (t (pl t n i) = 44 ∨ t (pl t n i) = 37)
/-- the class's number of the i-th token -/
def nmT (t : RW) (n i : Nat) : Int32 := if kd t n (pl t n i) = 2 then nmV (vl t n (pl t n i)) else -1
theorem nmV_c (v : Int64) : (v = zw 1 ∨ v = zw 2 ∨ v = zw 3 ∨ v = zw 4 ∨ v = zw 5 ∨ v = zw 9 ∨ v = zw 10 ∨ v = 9 ∨ v = 10 ∨ v = 11 ∨ v = 13 ∨ v = 14 ∨ v = zw 7 ∨ v = zw 8 ∨ v = zw 12 ∨ v = zw 13 ∨ v = zw 14 ∨ v = zw 15 ∨ v = zw 11) ∨ (nmV v = -1 ∧ v ≠ zw 1 ∧ v ≠ zw 2 ∧ v ≠ zw 3 ∧ v ≠ zw 4 ∧ v ≠ zw 5 ∧ v ≠ zw 9 ∧ v ≠ zw 10 ∧ v ≠ 9 ∧ v ≠ 10 ∧ v ≠ 11 ∧ v ≠ 13 ∧ v ≠ 14 ∧ v ≠ zw 7 ∧ v ≠ zw 8 ∧ v ≠ zw 12 ∧ v ≠ zw 13 ∧ v ≠ zw 14 ∧ v ≠ zw 15 ∧ v ≠ zw 11) := by
  by_cases q0 : v = zw 1
  · exact Or.inl (Or.inl q0)
  by_cases q1 : v = zw 2
  · exact Or.inl (Or.inr (Or.inl q1))
  by_cases q2 : v = zw 3
  · exact Or.inl (Or.inr (Or.inr (Or.inl q2)))
  by_cases q3 : v = zw 4
  · exact Or.inl (Or.inr (Or.inr (Or.inr (Or.inl q3))))
  by_cases q4 : v = zw 5
  · exact Or.inl (Or.inr (Or.inr (Or.inr (Or.inr (Or.inl q4)))))
  by_cases q5 : v = zw 9
  · exact Or.inl (Or.inr (Or.inr (Or.inr (Or.inr (Or.inr (Or.inl q5))))))
  by_cases q6 : v = zw 10
  · exact Or.inl (Or.inr (Or.inr (Or.inr (Or.inr (Or.inr (Or.inr (Or.inl q6)))))))
  by_cases q7 : v = 9
  · exact Or.inl (Or.inr (Or.inr (Or.inr (Or.inr (Or.inr (Or.inr (Or.inr (Or.inl q7))))))))
  by_cases q8 : v = 10
  · exact Or.inl (Or.inr (Or.inr (Or.inr (Or.inr (Or.inr (Or.inr (Or.inr (Or.inr (Or.inl q8)))))))))
  by_cases q9 : v = 11
  · exact Or.inl (Or.inr (Or.inr (Or.inr (Or.inr (Or.inr (Or.inr (Or.inr (Or.inr (Or.inr (Or.inl q9))))))))))
  by_cases q10 : v = 13
  · exact Or.inl (Or.inr (Or.inr (Or.inr (Or.inr (Or.inr (Or.inr (Or.inr (Or.inr (Or.inr (Or.inr (Or.inl q10)))))))))))
  by_cases q11 : v = 14
  · exact Or.inl (Or.inr (Or.inr (Or.inr (Or.inr (Or.inr (Or.inr (Or.inr (Or.inr (Or.inr (Or.inr (Or.inr (Or.inl q11))))))))))))
  by_cases q12 : v = zw 7
  · exact Or.inl (Or.inr (Or.inr (Or.inr (Or.inr (Or.inr (Or.inr (Or.inr (Or.inr (Or.inr (Or.inr (Or.inr (Or.inr (Or.inl q12)))))))))))))
  by_cases q13 : v = zw 8
  · exact Or.inl (Or.inr (Or.inr (Or.inr (Or.inr (Or.inr (Or.inr (Or.inr (Or.inr (Or.inr (Or.inr (Or.inr (Or.inr (Or.inr (Or.inl q13))))))))))))))
  by_cases q14 : v = zw 12
  · exact Or.inl (Or.inr (Or.inr (Or.inr (Or.inr (Or.inr (Or.inr (Or.inr (Or.inr (Or.inr (Or.inr (Or.inr (Or.inr (Or.inr (Or.inr (Or.inl q14)))))))))))))))
  by_cases q15 : v = zw 13
  · exact Or.inl (Or.inr (Or.inr (Or.inr (Or.inr (Or.inr (Or.inr (Or.inr (Or.inr (Or.inr (Or.inr (Or.inr (Or.inr (Or.inr (Or.inr (Or.inr (Or.inl q15))))))))))))))))
  by_cases q16 : v = zw 14
  · exact Or.inl (Or.inr (Or.inr (Or.inr (Or.inr (Or.inr (Or.inr (Or.inr (Or.inr (Or.inr (Or.inr (Or.inr (Or.inr (Or.inr (Or.inr (Or.inr (Or.inr (Or.inl q16)))))))))))))))))
  by_cases q17 : v = zw 15
  · exact Or.inl (Or.inr (Or.inr (Or.inr (Or.inr (Or.inr (Or.inr (Or.inr (Or.inr (Or.inr (Or.inr (Or.inr (Or.inr (Or.inr (Or.inr (Or.inr (Or.inr (Or.inr (Or.inl q17))))))))))))))))))
  by_cases q18 : v = zw 11
  · exact Or.inl (Or.inr (Or.inr (Or.inr (Or.inr (Or.inr (Or.inr (Or.inr (Or.inr (Or.inr (Or.inr (Or.inr (Or.inr (Or.inr (Or.inr (Or.inr (Or.inr (Or.inr (Or.inr (q18)))))))))))))))))))
  refine Or.inr ⟨?_, q0, q1, q2, q3, q4, q5, q6, q7, q8, q9, q10, q11, q12, q13, q14, q15, q16, q17, q18⟩
  unfold nmV
  rw [if_neg (fun e => q0 e.symm), if_neg (fun e => q1 e.symm), if_neg (fun e => q2 e.symm), if_neg (fun e => q3 e.symm), if_neg (fun e => q4 e.symm), if_neg (fun e => q5 e.symm), if_neg (fun e => q6 e.symm), if_neg (fun e => q7 e.symm), if_neg (fun e => q8 e.symm), if_neg (fun e => q9 e.symm), if_neg (fun e => q10 e.symm), if_neg (fun e => q11 e.symm), if_neg (fun e => q12 e.symm), if_neg (fun e => q13 e.symm), if_neg (fun e => q14 e.symm), if_neg (fun e => q15 e.symm), if_neg (fun e => q16 e.symm), if_neg (fun e => q17 e.symm), if_neg (fun e => q18 e.symm)]
def whoW (v : Int64) : Int32 := if v = zw 12 then 0 else if v = zw 13 then 1 else if v = zw 14 then 2 else if v = zw 15 then 3 else -1
def varW (v : Int64) : Int32 := if v = 9 then 0 else if v = 10 then 1 else if v = 11 then 2 else if v = 13 then 3 else if v = 14 then 4 else -1
def skW (v : Int64) : Int32 := if v = zw 1 then 6 else if v = zw 2 then 7 else if v = zw 3 then 8 else if v = zw 4 then 9 else if v = zw 5 then 11 else -1
theorem nmV_18 (v : Int64) : (nmV v = 18 ↔ v = zw 11) := by
  rcases nmV_c v with h | ⟨h, q0, q1, q2, q3, q4, q5, q6, q7, q8, q9, q10, q11, q12, q13, q14, q15, q16, q17, q18⟩
  · rcases h with rfl | rfl | rfl | rfl | rfl | rfl | rfl | rfl | rfl | rfl | rfl | rfl | rfl | rfl | rfl | rfl | rfl | rfl | rfl <;> decide +kernel
  · rw [h]
    simp (decide := true) [whoW, varW, skW, q0, q1, q2, q3, q4, q5, q6, q7, q8, q9, q10, q11, q12, q13, q14, q15, q16, q17, q18]
theorem nmV_5 (v : Int64) : (nmV v = 5 ↔ v = zw 9) := by
  rcases nmV_c v with h | ⟨h, q0, q1, q2, q3, q4, q5, q6, q7, q8, q9, q10, q11, q12, q13, q14, q15, q16, q17, q18⟩
  · rcases h with rfl | rfl | rfl | rfl | rfl | rfl | rfl | rfl | rfl | rfl | rfl | rfl | rfl | rfl | rfl | rfl | rfl | rfl | rfl <;> decide +kernel
  · rw [h]
    simp (decide := true) [whoW, varW, skW, q0, q1, q2, q3, q4, q5, q6, q7, q8, q9, q10, q11, q12, q13, q14, q15, q16, q17, q18]
theorem nmV_6 (v : Int64) : (nmV v = 6 ↔ v = zw 10) := by
  rcases nmV_c v with h | ⟨h, q0, q1, q2, q3, q4, q5, q6, q7, q8, q9, q10, q11, q12, q13, q14, q15, q16, q17, q18⟩
  · rcases h with rfl | rfl | rfl | rfl | rfl | rfl | rfl | rfl | rfl | rfl | rfl | rfl | rfl | rfl | rfl | rfl | rfl | rfl | rfl <;> decide +kernel
  · rw [h]
    simp (decide := true) [whoW, varW, skW, q0, q1, q2, q3, q4, q5, q6, q7, q8, q9, q10, q11, q12, q13, q14, q15, q16, q17, q18]
theorem nmV_12 (v : Int64) : (nmV v = 12 ↔ v = zw 7) := by
  rcases nmV_c v with h | ⟨h, q0, q1, q2, q3, q4, q5, q6, q7, q8, q9, q10, q11, q12, q13, q14, q15, q16, q17, q18⟩
  · rcases h with rfl | rfl | rfl | rfl | rfl | rfl | rfl | rfl | rfl | rfl | rfl | rfl | rfl | rfl | rfl | rfl | rfl | rfl | rfl <;> decide +kernel
  · rw [h]
    simp (decide := true) [whoW, varW, skW, q0, q1, q2, q3, q4, q5, q6, q7, q8, q9, q10, q11, q12, q13, q14, q15, q16, q17, q18]
theorem nmV_who (v : Int64) : ((nmV v < 14 ∨ 17 < nmV v) ↔ whoW v = -1) ∧ (whoW v ≠ -1 → nmV v - 14 = whoW v) := by
  rcases nmV_c v with h | ⟨h, q0, q1, q2, q3, q4, q5, q6, q7, q8, q9, q10, q11, q12, q13, q14, q15, q16, q17, q18⟩
  · rcases h with rfl | rfl | rfl | rfl | rfl | rfl | rfl | rfl | rfl | rfl | rfl | rfl | rfl | rfl | rfl | rfl | rfl | rfl | rfl <;> decide +kernel
  · rw [h]
    simp (decide := true) [whoW, varW, skW, q0, q1, q2, q3, q4, q5, q6, q7, q8, q9, q10, q11, q12, q13, q14, q15, q16, q17, q18]
theorem nmV_sk (v : Int64) : ((nmV v < 0 ∨ 4 < nmV v) ↔ skW v = -1) ∧ (nmV v = 0 ↔ skW v = 6) ∧ (nmV v = 1 ↔ skW v = 7) ∧ (nmV v = 2 ↔ skW v = 8) ∧ (nmV v = 3 ↔ skW v = 9) := by
  rcases nmV_c v with h | ⟨h, q0, q1, q2, q3, q4, q5, q6, q7, q8, q9, q10, q11, q12, q13, q14, q15, q16, q17, q18⟩
  · rcases h with rfl | rfl | rfl | rfl | rfl | rfl | rfl | rfl | rfl | rfl | rfl | rfl | rfl | rfl | rfl | rfl | rfl | rfl | rfl <;> decide +kernel
  · rw [h]
    simp (decide := true) [whoW, varW, skW, q0, q1, q2, q3, q4, q5, q6, q7, q8, q9, q10, q11, q12, q13, q14, q15, q16, q17, q18]
theorem nmV_var (v : Int64) : ((nmV v < 7 ∨ 11 < nmV v) ↔ varW v = -1) ∧ (varW v ≠ -1 → nmV v - 7 = varW v) := by
  rcases nmV_c v with h | ⟨h, q0, q1, q2, q3, q4, q5, q6, q7, q8, q9, q10, q11, q12, q13, q14, q15, q16, q17, q18⟩
  · rcases h with rfl | rfl | rfl | rfl | rfl | rfl | rfl | rfl | rfl | rfl | rfl | rfl | rfl | rfl | rfl | rfl | rfl | rfl | rfl <;> decide +kernel
  · rw [h]
    simp (decide := true) [whoW, varW, skW, q0, q1, q2, q3, q4, q5, q6, q7, q8, q9, q10, q11, q12, q13, q14, q15, q16, q17, q18]
theorem nmV_pt (v : Int64) : ((nmV v < 7 ∨ 13 < nmV v) ↔ ¬ (varW v ≠ -1 ∨ v = zw 7 ∨ v = zw 8)) ∧ ((nmV v < 0 ∨ 6 < nmV v) ↔ ¬ (v = zw 1 ∨ v = zw 2 ∨ v = zw 3 ∨ v = zw 4 ∨ v = zw 5 ∨ v = zw 9 ∨ v = zw 10)) := by
  rcases nmV_c v with h | ⟨h, q0, q1, q2, q3, q4, q5, q6, q7, q8, q9, q10, q11, q12, q13, q14, q15, q16, q17, q18⟩
  · rcases h with rfl | rfl | rfl | rfl | rfl | rfl | rfl | rfl | rfl | rfl | rfl | rfl | rfl | rfl | rfl | rfl | rfl | rfl | rfl <;> decide +kernel
  · rw [h]
    simp (decide := true) [whoW, varW, skW, q0, q1, q2, q3, q4, q5, q6, q7, q8, q9, q10, q11, q12, q13, q14, q15, q16, q17, q18]
section TOK6
variable {b : Nat} {F : Nat → Option AE} {D E : Nat → Option KD} {I : Nat → Nat → Int32} {L : Nat → Nat → Int64} {P : Nat → Nat → Option Nat} {nx us : Nat}
theorem X_kind {n la i : Nat} {t : RW} (h : TX t n la I L) (hi : i ≤ la) (h4 : I 40 4 = Int32.ofNat i) : f_X7_kind (ad b 40) (lay b F E I L P nx us) = some (Int32.ofNat (kd t n (pl t n i)), (lay b F E I L P nx us)) := by
  obtain ⟨h1, h2, h3, -⟩ := h
  obtain ⟨a1, a2, a3⟩ := h3 i hi
  have e1 := oN_neg (w := i) (by omega)
  have e3 : ((Int32.ofNat 401 : Int32) ≤ Int32.ofNat i) = False := oN_leF (c := 401) (by omega) (by omega)
  have e4 : iN (Int32.ofNat i) 401 = some i := iN_oN (by omega) (by omega)
  simp (decide := true) only [f_X7_kind_32, f_X7_kind_31, f_X7_kind, h4, e1, e3, e4, a1, isO_s, gI_s, gA_s, gL_s, pI_s, pZ_s, pL_s, aI_s, aL_s, aN_s, aQ_s, sI_s, sL_s, cr, LNs, Option.map_some, Option.map_none, Option.bind_some, b2, tr, lt, if_true, if_false, ckZ, X_within, M_in, inR_z, X_refuse, X_tell, X_deny, X_grant, M_refused, M_denied, M_done, M_granted, u2_same, u2_ne, u2_u2, upd_same, upd_ne, aW0, ixR_z, ixR_1, M_isWall, M_isPainter, M_isWork, X_has4, X_has10, X_at, or_false, false_or, or_true, true_or, not_true, not_false_iff, Option.isSome_some, isO_d, gI_d, gA_d, pI_d, ne_eq, not_false_eq_true, u2_hi, u2_hj, u2_dyn, u2_dynj, Nat.reduceAdd, mX_r, mX_rD, mX_rDj, mM_r, mX_u, mX_uM, mX_uD, mX_uDj, mM_u, mM_uX, mM_uD, mM_uDj, u2_dd, u2_d0, u2_0d]
theorem X_value {n la i : Nat} {t : RW} (h : TX t n la I L) (hi : i ≤ la) (h4 : I 40 4 = Int32.ofNat i) : f_X7_value (ad b 40) (lay b F E I L P nx us) = some (L 43 i, (lay b F E I L P nx us)) := by
  obtain ⟨h1, h2, h3, -⟩ := h
  have e1 := oN_neg (w := i) (by omega)
  have e3 : ((Int32.ofNat 401 : Int32) ≤ Int32.ofNat i) = False := oN_leF (c := 401) (by omega) (by omega)
  have e4 : iN (Int32.ofNat i) 401 = some i := iN_oN (by omega) (by omega)
  simp (decide := true) only [f_X7_value_32, f_X7_value_31, f_X7_value, h4, e1, e3, e4, isO_s, gI_s, gA_s, gL_s, pI_s, pZ_s, pL_s, aI_s, aL_s, aN_s, aQ_s, sI_s, sL_s, cr, LNs, Option.map_some, Option.map_none, Option.bind_some, b2, tr, lt, if_true, if_false, ckZ, X_within, M_in, inR_z, X_refuse, X_tell, X_deny, X_grant, M_refused, M_denied, M_done, M_granted, u2_same, u2_ne, u2_u2, upd_same, upd_ne, aW0, ixR_z, ixR_1, M_isWall, M_isPainter, M_isWork, X_has4, X_has10, X_at, or_false, false_or, or_true, true_or, not_true, not_false_iff, Option.isSome_some, isO_d, gI_d, gA_d, pI_d, ne_eq, not_false_eq_true, u2_hi, u2_hj, u2_dyn, u2_dynj, Nat.reduceAdd, mX_r, mX_rD, mX_rDj, mM_r, mX_u, mX_uM, mX_uD, mX_uDj, mM_u, mM_uX, mM_uD, mM_uDj, u2_dd, u2_d0, u2_0d]
theorem X_name {n la i : Nat} {t : RW} (h : TX t n la I L) (hi : i ≤ la) (h4 : I 40 4 = Int32.ofNat i) : f_X7_name (ad b 40) (lay b F E I L P nx us) = some (nmT t n i, (lay b F E I L P nx us)) := by
  obtain ⟨h1, h2, h3, -, -, hn⟩ := h
  obtain ⟨a1, a2, a3⟩ := h3 i hi
  have e1 := oN_neg (w := i) (by omega)
  have e3 : ((Int32.ofNat 401 : Int32) ≤ Int32.ofNat i) = False := oN_leF (c := 401) (by omega) (by omega)
  have e4 : iN (Int32.ofNat i) 401 = some i := iN_oN (by omega) (by omega)
  have hle := kd_le (t := t) (n := n) (k := pl t n i)
  have k2 : (Int32.ofNat (kd t n (pl t n i)) = 2) = (kd t n (pl t n i) = 2) := propext (oN_eq (c := 2) (by omega) (by omega))
  unfold nmT
  by_cases hc : kd t n (pl t n i) = 2
  · have h148 := hn i hi hc
    rw [if_pos hc, ← h148]
    simp (decide := true) only [f_X7_name, f_X7_name_44, f_X7_name_45, h4, e1, e3, e4, a1, k2, hc, isO_s, gI_s, gA_s, gL_s, pI_s, pZ_s, pL_s, aI_s, aL_s, aN_s, aQ_s, sI_s, sL_s, cr, LNs, Option.map_some, Option.map_none, Option.bind_some, b2, tr, lt, if_true, if_false, ckZ, X_within, M_in, inR_z, X_refuse, X_tell, X_deny, X_grant, M_refused, M_denied, M_done, M_granted, u2_same, u2_ne, u2_u2, upd_same, upd_ne, aW0, ixR_z, ixR_1, M_isWall, M_isPainter, M_isWork, X_has4, X_has10, X_at, or_false, false_or, or_true, true_or, not_true, not_false_iff, Option.isSome_some, isO_d, gI_d, gA_d, pI_d, ne_eq, not_false_eq_true, u2_hi, u2_hj, u2_dyn, u2_dynj, Nat.reduceAdd, mX_r, mX_rD, mX_rDj, mM_r, mX_u, mX_uM, mX_uD, mX_uDj, mM_u, mM_uX, mM_uD, mM_uDj, u2_dd, u2_d0, u2_0d]
  · rw [if_neg hc]
    simp (decide := true) only [f_X7_name, f_X7_name_44, f_X7_name_45, h4, e1, e3, e4, a1, k2, hc, isO_s, gI_s, gA_s, gL_s, pI_s, pZ_s, pL_s, aI_s, aL_s, aN_s, aQ_s, sI_s, sL_s, cr, LNs, Option.map_some, Option.map_none, Option.bind_some, b2, tr, lt, if_true, if_false, ckZ, X_within, M_in, inR_z, X_refuse, X_tell, X_deny, X_grant, M_refused, M_denied, M_done, M_granted, u2_same, u2_ne, u2_u2, upd_same, upd_ne, aW0, ixR_z, ixR_1, M_isWall, M_isPainter, M_isWork, X_has4, X_has10, X_at, or_false, false_or, or_true, true_or, not_true, not_false_iff, Option.isSome_some, isO_d, gI_d, gA_d, pI_d, ne_eq, not_false_eq_true, u2_hi, u2_hj, u2_dyn, u2_dynj, Nat.reduceAdd, mX_r, mX_rD, mX_rDj, mM_r, mX_u, mX_uM, mX_uD, mX_uDj, mM_u, mM_uX, mM_uD, mM_uDj, u2_dd, u2_d0, u2_0d]
theorem X_sign {n la i : Nat} {t : RW} (h : TX t n la I L) (hi : i ≤ la) (h4 : I 40 4 = Int32.ofNat i) : f_X7_sign (ad b 40) (lay b F E I L P nx us) = some (sgn t n i, (lay b F E I L P nx us)) := by
  have hkd := X_kind (b := b) (F := F) (E := E) (P := P) (nx := nx) (us := us) h hi h4
  have hvl := X_value (b := b) (F := F) (E := E) (P := P) (nx := nx) (us := us) h hi h4
  have hle := kd_le (t := t) (n := n) (k := pl t n i)
  have h2 : (Int32.ofNat (kd t n (pl t n i)) = 4) = (kd t n (pl t n i) = 4) := propext (oN_eq (c := 4) (by omega) (by omega))
  unfold sgn
  by_cases hc : kd t n (pl t n i) = 4
  · have hv := (h.2.2.1 i hi).2.2 (by omega)
    rw [(kd_4 hc).1] at hv
    rw [if_pos hc]
    simp (decide := true) only [f_X7_sign_17, f_X7_sign, hkd, h2, hc, hvl, hv, i6432, isO_s, gI_s, gA_s, gL_s, pI_s, pZ_s, pL_s, aI_s, aL_s, aN_s, aQ_s, sI_s, sL_s, cr, LNs, Option.map_some, Option.map_none, Option.bind_some, b2, tr, lt, if_true, if_false, ckZ, X_within, M_in, inR_z, X_refuse, X_tell, X_deny, X_grant, M_refused, M_denied, M_done, M_granted, u2_same, u2_ne, u2_u2, upd_same, upd_ne, aW0, ixR_z, ixR_1, M_isWall, M_isPainter, M_isWork, X_has4, X_has10, X_at, or_false, false_or, or_true, true_or, not_true, not_false_iff, Option.isSome_some, isO_d, gI_d, gA_d, pI_d, ne_eq, not_false_eq_true, u2_hi, u2_hj, u2_dyn, u2_dynj, Nat.reduceAdd, mX_r, mX_rD, mX_rDj, mM_r, mX_u, mX_uM, mX_uD, mX_uDj, mM_u, mM_uX, mM_uD, mM_uDj, u2_dd, u2_d0, u2_0d]
  · rw [if_neg hc]
    simp (decide := true) only [f_X7_sign_17, f_X7_sign, hkd, h2, hc, isO_s, gI_s, gA_s, gL_s, pI_s, pZ_s, pL_s, aI_s, aL_s, aN_s, aQ_s, sI_s, sL_s, cr, LNs, Option.map_some, Option.map_none, Option.bind_some, b2, tr, lt, if_true, if_false, ckZ, X_within, M_in, inR_z, X_refuse, X_tell, X_deny, X_grant, M_refused, M_denied, M_done, M_granted, u2_same, u2_ne, u2_u2, upd_same, upd_ne, aW0, ixR_z, ixR_1, M_isWall, M_isPainter, M_isWork, X_has4, X_has10, X_at, or_false, false_or, or_true, true_or, not_true, not_false_iff, Option.isSome_some, isO_d, gI_d, gA_d, pI_d, ne_eq, not_false_eq_true, u2_hi, u2_hj, u2_dyn, u2_dynj, Nat.reduceAdd, mX_r, mX_rD, mX_rDj, mM_r, mX_u, mX_uM, mX_uD, mX_uDj, mM_u, mM_uX, mM_uD, mM_uDj, u2_dd, u2_d0, u2_0d]
theorem X_adv {n la i : Nat} {t : RW} (h : TX t n la I L) (hi : i < la) (h4 : I 40 4 = Int32.ofNat i) : f_X7_advance (ad b 40) (lay b F E I L P nx us) = some (lay b F E (u2 I 40 (upd (I 40) 4 (Int32.ofNat (i + 1)))) L P nx us) := by
  have e := oN_leF hi (by have := h.1; omega)
  simp (decide := true) only [f_X7_advance_21, f_X7_advance, h4, h.2.1, e, oN_succ, isO_s, gI_s, gA_s, gL_s, pI_s, pZ_s, pL_s, aI_s, aL_s, aN_s, aQ_s, sI_s, sL_s, cr, LNs, Option.map_some, Option.map_none, Option.bind_some, b2, tr, lt, if_true, if_false, ckZ, X_within, M_in, inR_z, X_refuse, X_tell, X_deny, X_grant, M_refused, M_denied, M_done, M_granted, u2_same, u2_ne, u2_u2, upd_same, upd_ne, aW0, ixR_z, ixR_1, M_isWall, M_isPainter, M_isWork, X_has4, X_has10, X_at, or_false, false_or, or_true, true_or, not_true, not_false_iff, Option.isSome_some, isO_d, gI_d, gA_d, pI_d, ne_eq, not_false_eq_true, u2_hi, u2_hj, u2_dyn, u2_dynj, Nat.reduceAdd, mX_r, mX_rD, mX_rDj, mM_r, mX_u, mX_uM, mX_uD, mX_uDj, mM_u, mM_uX, mM_uD, mM_uDj, u2_dd, u2_d0, u2_0d]
theorem X_fail {n la i : Nat} {t : RW} (c : Int32) (h : TX t n la I L) (hi : i ≤ la) (h4 : I 40 4 = Int32.ofNat i) : f_X7_fail (ad b 40) c (lay b F E I L P nx us) = some (0, lay b F E (u2 I 40 (upd (upd (I 40) 5 c) 6 (Int32.ofNat (pl t n i)))) L P nx us) := by
  obtain ⟨h1, h2, h3, -⟩ := h
  obtain ⟨a1, a2, a3⟩ := h3 i hi
  have e1 := oN_neg (w := i) (by omega)
  have e3 : ((Int32.ofNat 401 : Int32) ≤ Int32.ofNat i) = False := oN_leF (c := 401) (by omega) (by omega)
  have e4 : iN (Int32.ofNat i) 401 = some i := iN_oN (by omega) (by omega)
  simp (decide := true) only [f_X7_fail_38, f_X7_fail_37, f_X7_fail, h4, e1, e3, e4, a2, isO_s, gI_s, gA_s, gL_s, pI_s, pZ_s, pL_s, aI_s, aL_s, aN_s, aQ_s, sI_s, sL_s, cr, LNs, Option.map_some, Option.map_none, Option.bind_some, b2, tr, lt, if_true, if_false, ckZ, X_within, M_in, inR_z, X_refuse, X_tell, X_deny, X_grant, M_refused, M_denied, M_done, M_granted, u2_same, u2_ne, u2_u2, upd_same, upd_ne, aW0, ixR_z, ixR_1, M_isWall, M_isPainter, M_isWork, X_has4, X_has10, X_at, or_false, false_or, or_true, true_or, not_true, not_false_iff, Option.isSome_some, isO_d, gI_d, gA_d, pI_d, ne_eq, not_false_eq_true, u2_hi, u2_hj, u2_dyn, u2_dynj, Nat.reduceAdd, mX_r, mX_rD, mX_rDj, mM_r, mX_u, mX_uM, mX_uD, mX_uDj, mM_u, mM_uX, mM_uD, mM_uDj, u2_dd, u2_d0, u2_0d]
/-- the class goes on as long as the token is a good one -/
theorem TX_lt {n la i : Nat} {t : RW} (h : TX t n la I L) (hi : i ≤ la) (h0 : kd t n (pl t n i) ≠ 0) (h1 : kd t n (pl t n i) ≠ 1) : i < la := by
  rcases Nat.lt_or_ge i la with h2 | h2
  · exact h2
  · have : i = la := by omega
    subst this
    rcases h.2.2.2.2.1 with h3 | h3 <;> omega
theorem M_srt {n i : Nat} {t : RW} {rg : Int32} (h : TM t n rg (pl t n i) (I 72) (L 72)) : ((I 72 28 = 2) = (kd t n (pl t n i) = 2)) ∧ ((I 72 28 = 3) = (kd t n (pl t n i) = 3)) ∧ ((I 72 28 = 1) = (kd t n (pl t n i) = 0)) ∧ ((I 72 28 = 4) = (kd t n (pl t n i) = 4 ∧ ¬ (rg = 0 ∧ (t (pl t n i) = 44 ∨ t (pl t n i) = 37)))) := by
  obtain ⟨m1, m2, m3, m4, m5, m6⟩ := h
  have hle := kd_le (t := t) (n := n) (k := pl t n i)
  have hc : kd t n (pl t n i) = 0 ∨ kd t n (pl t n i) = 1 ∨ kd t n (pl t n i) = 2 ∨ kd t n (pl t n i) = 3 ∨ kd t n (pl t n i) = 4 := by omega
  rcases hc with hc | hc | hc | hc | hc
  · rw [m2 hc, hc]; simp (decide := true)
  · rw [m3 hc, hc]; simp (decide := true)
  · rw [(m4 hc).1, hc]; simp (decide := true)
  · rw [(m5 hc).1, hc]; simp (decide := true)
  · by_cases hr : rg = 0 ∧ (t (pl t n i) = 44 ∨ t (pl t n i) = 37)
    · rw [(m6 hc).1 hr, hc]; simp (decide := true) [hr]
    · rw [((m6 hc).2 hr).1, hc]; simp (decide := true) [hr]
theorem M_isW {z : ZX} {n i k : Nat} {t : RW} {rg : Int32} (hz : GZ b F z) (hk : k < 30) (h : TM t n rg (pl t n i) (I 72) (L 72)) : f_X15_isWord z (ad b 72) (z.1 k) (lay b F E I L P nx us) = some (if isW t n i k then 1 else 0, (lay b F E I L P nx us)) := by
  have hw := M_wordOf (b := b) (F := F) (E := E) (I := I) (L := L) (P := P) (nx := nx) (us := us) hz hk
  have h2 := (M_srt h).1
  by_cases hc : kd t n (pl t n i) = 2
  · have hv := (h.2.2.2.1 hc).2.1
    by_cases hq : vl t n (pl t n i) = zw k
    · have hq' : (lg_cmp (vl t n (pl t n i)) (zw k) = 0) = True := eq_true ((cmp_eq _ _).mpr hq)
      rw [if_pos (show isW t n i k from ⟨hc, hq⟩)]
      simp (decide := true) only [f_X15_isWord_25, f_X15_isWord_24, f_X15_isWord, h2, hc, hv, hw, hq', isO_s, gI_s, gA_s, gL_s, pI_s, pZ_s, pL_s, aI_s, aL_s, aN_s, aQ_s, sI_s, sL_s, cr, LNs, Option.map_some, Option.map_none, Option.bind_some, b2, tr, lt, if_true, if_false, ckZ, X_within, M_in, inR_z, X_refuse, X_tell, X_deny, X_grant, M_refused, M_denied, M_done, M_granted, u2_same, u2_ne, u2_u2, upd_same, upd_ne, aW0, ixR_z, ixR_1, M_isWall, M_isPainter, M_isWork, X_has4, X_has10, X_at, or_false, false_or, or_true, true_or, not_true, not_false_iff, Option.isSome_some, isO_d, gI_d, gA_d, pI_d, ne_eq, not_false_eq_true, u2_hi, u2_hj, u2_dyn, u2_dynj, Nat.reduceAdd, mX_r, mX_rD, mX_rDj, mM_r, mX_u, mX_uM, mX_uD, mX_uDj, mM_u, mM_uX, mM_uD, mM_uDj, u2_dd, u2_d0, u2_0d]
    · have hq' : (lg_cmp (vl t n (pl t n i)) (zw k) = 0) = False := eq_false (fun q => hq ((cmp_eq _ _).mp q))
      rw [if_neg (show ¬ isW t n i k from fun q => hq q.2)]
      simp (decide := true) only [f_X15_isWord_25, f_X15_isWord_24, f_X15_isWord, h2, hc, hv, hw, hq', isO_s, gI_s, gA_s, gL_s, pI_s, pZ_s, pL_s, aI_s, aL_s, aN_s, aQ_s, sI_s, sL_s, cr, LNs, Option.map_some, Option.map_none, Option.bind_some, b2, tr, lt, if_true, if_false, ckZ, X_within, M_in, inR_z, X_refuse, X_tell, X_deny, X_grant, M_refused, M_denied, M_done, M_granted, u2_same, u2_ne, u2_u2, upd_same, upd_ne, aW0, ixR_z, ixR_1, M_isWall, M_isPainter, M_isWork, X_has4, X_has10, X_at, or_false, false_or, or_true, true_or, not_true, not_false_iff, Option.isSome_some, isO_d, gI_d, gA_d, pI_d, ne_eq, not_false_eq_true, u2_hi, u2_hj, u2_dyn, u2_dynj, Nat.reduceAdd, mX_r, mX_rD, mX_rDj, mM_r, mX_u, mX_uM, mX_uD, mX_uDj, mM_u, mM_uX, mM_uD, mM_uDj, u2_dd, u2_d0, u2_0d]
  · rw [if_neg (show ¬ isW t n i k from fun q => hc q.1)]
    simp (decide := true) only [f_X15_isWord_25, f_X15_isWord_24, f_X15_isWord, h2, hc, isO_s, gI_s, gA_s, gL_s, pI_s, pZ_s, pL_s, aI_s, aL_s, aN_s, aQ_s, sI_s, sL_s, cr, LNs, Option.map_some, Option.map_none, Option.bind_some, b2, tr, lt, if_true, if_false, ckZ, X_within, M_in, inR_z, X_refuse, X_tell, X_deny, X_grant, M_refused, M_denied, M_done, M_granted, u2_same, u2_ne, u2_u2, upd_same, upd_ne, aW0, ixR_z, ixR_1, M_isWall, M_isPainter, M_isWork, X_has4, X_has10, X_at, or_false, false_or, or_true, true_or, not_true, not_false_iff, Option.isSome_some, isO_d, gI_d, gA_d, pI_d, ne_eq, not_false_eq_true, u2_hi, u2_hj, u2_dyn, u2_dynj, Nat.reduceAdd, mX_r, mX_rD, mX_rDj, mM_r, mX_u, mX_uM, mX_uD, mX_uDj, mM_u, mM_uX, mM_uD, mM_uDj, u2_dd, u2_d0, u2_0d]
theorem M_is {n i : Nat} {t : RW} {rg : Int32} (c : Int32) (hc : rg = 0 → c ≠ 44 ∧ c ≠ 37) (h : TM t n rg (pl t n i) (I 72) (L 72)) : f_X15_is (ad b 72) c (lay b F E I L P nx us) = some (if isC t n i c then 1 else 0, (lay b F E I L P nx us)) := by
  have h4 := (M_srt h).2.2.2
  by_cases hk : kd t n (pl t n i) = 4
  · by_cases hr : rg = 0 ∧ (t (pl t n i) = 44 ∨ t (pl t n i) = 37)
    · have hne : ¬ isC t n i c := fun q => by
        obtain ⟨c1, c2⟩ := hc hr.1
        rcases hr.2 with e | e
        · exact c1 (q.2.symm.trans e)
        · exact c2 (q.2.symm.trans e)
      have hf : (I 72 28 = 4) = False := by rw [h4]; exact eq_false (fun q => q.2 hr)
      rw [if_neg hne]
      simp (decide := true) only [f_X15_is_21, f_X15_is_20, f_X15_is, hf, isO_s, gI_s, gA_s, gL_s, pI_s, pZ_s, pL_s, aI_s, aL_s, aN_s, aQ_s, sI_s, sL_s, cr, LNs, Option.map_some, Option.map_none, Option.bind_some, b2, tr, lt, if_true, if_false, ckZ, X_within, M_in, inR_z, X_refuse, X_tell, X_deny, X_grant, M_refused, M_denied, M_done, M_granted, u2_same, u2_ne, u2_u2, upd_same, upd_ne, aW0, ixR_z, ixR_1, M_isWall, M_isPainter, M_isWork, X_has4, X_has10, X_at, or_false, false_or, or_true, true_or, not_true, not_false_iff, Option.isSome_some, isO_d, gI_d, gA_d, pI_d, ne_eq, not_false_eq_true, u2_hi, u2_hj, u2_dyn, u2_dynj, Nat.reduceAdd, mX_r, mX_rD, mX_rDj, mM_r, mX_u, mX_uM, mX_uD, mX_uDj, mM_u, mM_uX, mM_uD, mM_uDj, u2_dd, u2_d0, u2_0d]
    · have ht : (I 72 28 = 4) = True := by rw [h4]; exact eq_true ⟨hk, hr⟩
      have h30 := ((h.2.2.2.2.2 hk).2 hr).2.1
      by_cases hq : t (pl t n i) = c
      · rw [if_pos (show isC t n i c from ⟨hk, hq⟩)]
        simp (decide := true) only [f_X15_is_21, f_X15_is_20, f_X15_is, ht, h30, hq, isO_s, gI_s, gA_s, gL_s, pI_s, pZ_s, pL_s, aI_s, aL_s, aN_s, aQ_s, sI_s, sL_s, cr, LNs, Option.map_some, Option.map_none, Option.bind_some, b2, tr, lt, if_true, if_false, ckZ, X_within, M_in, inR_z, X_refuse, X_tell, X_deny, X_grant, M_refused, M_denied, M_done, M_granted, u2_same, u2_ne, u2_u2, upd_same, upd_ne, aW0, ixR_z, ixR_1, M_isWall, M_isPainter, M_isWork, X_has4, X_has10, X_at, or_false, false_or, or_true, true_or, not_true, not_false_iff, Option.isSome_some, isO_d, gI_d, gA_d, pI_d, ne_eq, not_false_eq_true, u2_hi, u2_hj, u2_dyn, u2_dynj, Nat.reduceAdd, mX_r, mX_rD, mX_rDj, mM_r, mX_u, mX_uM, mX_uD, mX_uDj, mM_u, mM_uX, mM_uD, mM_uDj, u2_dd, u2_d0, u2_0d]
      · rw [if_neg (show ¬ isC t n i c from fun q => hq q.2)]
        simp (decide := true) only [f_X15_is_21, f_X15_is_20, f_X15_is, ht, h30, hq, isO_s, gI_s, gA_s, gL_s, pI_s, pZ_s, pL_s, aI_s, aL_s, aN_s, aQ_s, sI_s, sL_s, cr, LNs, Option.map_some, Option.map_none, Option.bind_some, b2, tr, lt, if_true, if_false, ckZ, X_within, M_in, inR_z, X_refuse, X_tell, X_deny, X_grant, M_refused, M_denied, M_done, M_granted, u2_same, u2_ne, u2_u2, upd_same, upd_ne, aW0, ixR_z, ixR_1, M_isWall, M_isPainter, M_isWork, X_has4, X_has10, X_at, or_false, false_or, or_true, true_or, not_true, not_false_iff, Option.isSome_some, isO_d, gI_d, gA_d, pI_d, ne_eq, not_false_eq_true, u2_hi, u2_hj, u2_dyn, u2_dynj, Nat.reduceAdd, mX_r, mX_rD, mX_rDj, mM_r, mX_u, mX_uM, mX_uD, mX_uDj, mM_u, mM_uX, mM_uD, mM_uDj, u2_dd, u2_d0, u2_0d]
  · have hf : (I 72 28 = 4) = False := by rw [h4]; exact eq_false (fun q => hk q.1)
    rw [if_neg (show ¬ isC t n i c from fun q => hk q.1)]
    simp (decide := true) only [f_X15_is_21, f_X15_is_20, f_X15_is, hf, isO_s, gI_s, gA_s, gL_s, pI_s, pZ_s, pL_s, aI_s, aL_s, aN_s, aQ_s, sI_s, sL_s, cr, LNs, Option.map_some, Option.map_none, Option.bind_some, b2, tr, lt, if_true, if_false, ckZ, X_within, M_in, inR_z, X_refuse, X_tell, X_deny, X_grant, M_refused, M_denied, M_done, M_granted, u2_same, u2_ne, u2_u2, upd_same, upd_ne, aW0, ixR_z, ixR_1, M_isWall, M_isPainter, M_isWork, X_has4, X_has10, X_at, or_false, false_or, or_true, true_or, not_true, not_false_iff, Option.isSome_some, isO_d, gI_d, gA_d, pI_d, ne_eq, not_false_eq_true, u2_hi, u2_hj, u2_dyn, u2_dynj, Nat.reduceAdd, mX_r, mX_rD, mX_rDj, mM_r, mX_u, mX_uM, mX_uD, mX_uDj, mM_u, mM_uX, mM_uD, mM_uDj, u2_dd, u2_d0, u2_0d]
theorem M_nx {n i : Nat} {t : RW} {rg : Int32} (hn : n ≤ 400) (hB : BY t n) (h26 : I 72 26 = Int32.ofNat n) (ht : I 91 = t) (h36 : I 72 36 = rg) (h : TM t n rg (pl t n i) (I 72) (L 72)) (h0 : kd t n (pl t n i) ≠ 0) (h1 : kd t n (pl t n i) ≠ 1) (hr : ¬ cm t n i rg) : ∃ r l, f_X15_next (ad b 72) (lay b F E I L P nx us) = some (lay b F E (u2 I 72 r) (u2 L 72 l) P nx us) ∧ F72 (I 72) r ∧ (∀ j, j ≠ 37 → l j = L 72 j) ∧ TM t n rg (pl t n (i + 1)) r l := by
  have hle := kd_le (t := t) (n := n) (k := pl t n i)
  have h27 : I 72 27 = Int32.ofNat (en t n (pl t n i)) := by
    have hc : kd t n (pl t n i) = 2 ∨ kd t n (pl t n i) = 3 ∨ kd t n (pl t n i) = 4 := by omega
    rcases hc with hc | hc | hc
    · exact (h.2.2.2.1 hc).2.2.2
    · exact (h.2.2.2.2.1 hc).2.2
    · exact ((h.2.2.2.2.2 hc).2 (fun q => hr ⟨hc, q⟩)).2.2
  exact M_next hn hB (ps_le (i + 1)) h26 ht h36 h27
theorem M_stop {n i : Nat} {t : RW} {rg : Int32} (c : Int32) (h : TM t n rg (pl t n i) (I 72) (L 72)) : f_X15_stop (ad b 72) c (lay b F E I L P nx us) = some (some (ad b 90), lay b F E (u2 I 90 (upd (upd (I 90) 6 c) 7 (Int32.ofNat (pl t n i)))) L P nx us) := by
  simp (decide := true) only [f_X15_stop, h.1, isO_s, gI_s, gA_s, gL_s, pI_s, pZ_s, pL_s, aI_s, aL_s, aN_s, aQ_s, sI_s, sL_s, cr, LNs, Option.map_some, Option.map_none, Option.bind_some, b2, tr, lt, if_true, if_false, ckZ, X_within, M_in, inR_z, X_refuse, X_tell, X_deny, X_grant, M_refused, M_denied, M_done, M_granted, u2_same, u2_ne, u2_u2, upd_same, upd_ne, aW0, ixR_z, ixR_1, M_isWall, M_isPainter, M_isWork, X_has4, X_has10, X_at, or_false, false_or, or_true, true_or, not_true, not_false_iff, Option.isSome_some, isO_d, gI_d, gA_d, pI_d, ne_eq, not_false_eq_true, u2_hi, u2_hj, u2_dyn, u2_dynj, Nat.reduceAdd, mX_r, mX_rD, mX_rDj, mM_r, mX_u, mX_uM, mX_uD, mX_uDj, mM_u, mM_uX, mM_uD, mM_uDj, u2_dd, u2_d0, u2_0d]
end TOK6
