/-! ===== round: the loops and the call ===== -/
/-- the row of cleanings behind the cleaning of wall g -/
def clR (xw xc : RW) (g td : Int32) (i n : Nat) : RW := fun k => if (i ≤ k ∧ k < n) ∧ xw k = g ∧ xc k = -1 then td else xc k
def opF (xw xc : RW) (g : Int32) : RW := fun k => if xw k = g ∧ xc k = -1 then 1 else 0
theorem clR_0 {xw xc : RW} {g td : Int32} {n : Nat} : clR xw xc g td n n = xc := by
  funext k
  unfold clR
  rw [if_neg (by omega)]
theorem clR_s {xw xc : RW} {g td : Int32} {i n : Nat} (h : ¬ (xw i = g ∧ xc i = -1)) : clR xw xc g td (i + 1) n = clR xw xc g td i n := by
  funext k
  unfold clR
  by_cases hz : k = i
  · subst hz
    rw [if_neg (by omega), if_neg (fun q => h q.2)]
  · by_cases hc : (i + 1 ≤ k ∧ k < n) ∧ xw k = g ∧ xc k = -1
    · rw [if_pos hc, if_pos ⟨by omega, hc.2⟩]
    · rw [if_neg hc, if_neg (fun q => hc ⟨by omega, q.2⟩)]
theorem clR_u {xw xc : RW} {g td : Int32} {i n : Nat} (hi : i < n) (h : xw i = g ∧ xc i = -1) : clR xw (upd xc i td) g td (i + 1) n = clR xw xc g td i n := by
  funext k
  unfold clR
  by_cases hz : k = i
  · subst hz
    rw [if_neg (by omega), if_pos ⟨by omega, h⟩, upd_same]
  · rw [upd_ne hz]
    by_cases hc : (i + 1 ≤ k ∧ k < n) ∧ xw k = g ∧ xc k = -1
    · rw [if_pos hc, if_pos ⟨by omega, hc.2⟩]
    · rw [if_neg hc, if_neg (fun q => hc ⟨by omega, q.2⟩)]
theorem opF_u {xw xc : RW} {g td : Int32} {i m : Nat} : sm (opF xw (upd xc i td) g) (i + 1) m = sm (opF xw xc g) (i + 1) m := by
  refine sm_congr _ _ ?_
  intro k h1 h2
  unfold opF
  rw [upd_ne (show k ≠ i by omega)]
section RND3
variable {b : Nat} {F : Nat → Option AE} {D E : Nat → Option KD} {I : Nat → Nat → Int32} {L : Nat → Nat → Int64} {P : Nat → Nat → Option Nat} {nx us : Nat}
theorem X_cleanL {ng : Nat} (h100 : ng ≤ 100) {td g fr st tu : Int32} {k11 : Nat → Int32 → Int32 → Int32 → Int32 → Int32 → AH → Option (Int32 × AH)} : ∀ (m i : Nat), i + m = ng → ∀ (I : Nat → Nat → Int32) (n : Int32) (fu : Nat), m < fu → I 33 1 = Int32.ofNat ng → f_X6_goRound_80 k11 fu (ad b 33) td n fr st tu g (Int32.ofNat i) (lay b F E I L P nx us) = k11 (ad b 33) td (n + sm (opF (I 34) (I 36) g) i m) fr st (tu + 1) (lay b F E (u2 I 36 (clR (I 34) (I 36) g td i ng)) L P nx us) := by
  intro m
  induction m with
  | zero =>
    intro i hi I n fu hfu hn
    have hi' : i = ng := by omega
    subst hi'
    obtain ⟨fu, rfl⟩ : ∃ z, fu = z + 1 := ⟨fu - 1, by omega⟩
    rw [clR_0, u2_id, sm_zero]
    simp (decide := true) only [f_X6_goRound_80, hn, Int32.le_refl, isO_s, gI_s, gA_s, gL_s, pI_s, pZ_s, pL_s, aI_s, aL_s, aN_s, aQ_s, sI_s, sL_s, cr, LNs, Option.map_some, Option.map_none, Option.bind_some, b2, tr, lt, if_true, if_false, ckZ, X_within, M_in, inR_z, X_refuse, X_tell, X_deny, X_grant, M_refused, M_denied, M_done, M_granted, u2_same, u2_ne, u2_u2, upd_same, upd_ne, aW0, ixR_z, ixR_1, M_isWall, M_isPainter, M_isWork, X_has4, X_has10, X_at, or_false, false_or, or_true, true_or, not_true, not_false_iff, Option.isSome_some, isO_d, gI_d, gA_d, pI_d, ne_eq, not_false_eq_true, u2_hi, u2_hj, u2_dyn, u2_dynj, Nat.reduceAdd, mX_r, mX_rD, mX_rDj, mM_r, mX_u, mX_uM, mX_uD, mX_uDj, mM_u, mM_uX, mM_uD, mM_uDj, u2_dd, u2_d0, u2_0d]
  | succ m ih =>
    intro i hi I n fu hfu hn
    obtain ⟨fu, rfl⟩ : ∃ z, fu = z + 1 := ⟨fu - 1, by omega⟩
    have hik : i < ng := by omega
    have e1 := oN_neg (w := i) (by omega)
    have e2 := oN_leF hik (by omega)
    have e3 : iN (Int32.ofNat i) 100 = some i := iN_oN (by omega) (by omega)
    have h100' : Int32.ofNat ng ≤ 100 := oN_leL h100 (by decide)
    by_cases hc : I 34 i = g ∧ I 36 i = -1
    · have := ih (i + 1) (by omega) (u2 I 36 (upd (I 36) i td)) (n + 1) fu (by omega) (by simp (decide := true) only [u2_same, u2_ne, u2_u2, upd_same, upd_ne, mE, u2_dyn, dyn_u2, dyn_hi, u2_hi, u2_hj, u2_dynj, u2_dd, u2_d0, u2_0d]; exact hn)
      simp (decide := true) only [u2_same, u2_ne, u2_u2, ne_eq] at this
      rw [clR_u hik hc, opF_u] at this
      rw [← sm_step, show opF (I 34) (I 36) g i = 1 from if_pos hc, ← this]
      simp (decide := true) only [f_X6_goRound_80, f_X6_goRound_114, f_X6_cleanTag_18, f_X6_cleanTag, X_isTag, h100', hn, e1, e2, e3, hc.1, hc.2, oN_succ, isO_s, gI_s, gA_s, gL_s, pI_s, pZ_s, pL_s, aI_s, aL_s, aN_s, aQ_s, sI_s, sL_s, cr, LNs, Option.map_some, Option.map_none, Option.bind_some, b2, tr, lt, if_true, if_false, ckZ, X_within, M_in, inR_z, X_refuse, X_tell, X_deny, X_grant, M_refused, M_denied, M_done, M_granted, u2_same, u2_ne, u2_u2, upd_same, upd_ne, aW0, ixR_z, ixR_1, M_isWall, M_isPainter, M_isWork, X_has4, X_has10, X_at, or_false, false_or, or_true, true_or, not_true, not_false_iff, Option.isSome_some, isO_d, gI_d, gA_d, pI_d, ne_eq, not_false_eq_true, u2_hi, u2_hj, u2_dyn, u2_dynj, Nat.reduceAdd, mX_r, mX_rD, mX_rDj, mM_r, mX_u, mX_uM, mX_uD, mX_uDj, mM_u, mM_uX, mM_uD, mM_uDj, u2_dd, u2_d0, u2_0d]
    · have := ih (i + 1) (by omega) I n fu (by omega) hn
      rw [clR_s hc] at this
      rw [← sm_step, show opF (I 34) (I 36) g i = 0 from if_neg hc, Int32.add_zero, ← this]
      by_cases c1 : I 34 i = g
      · have c2 : ¬ I 36 i = -1 := fun q => hc ⟨c1, q⟩
        simp (decide := true) only [f_X6_goRound_80, f_X6_goRound_114, f_X6_cleanTag_18, f_X6_cleanTag, X_isTag, h100', hn, e1, e2, e3, c1, c2, oN_succ, isO_s, gI_s, gA_s, gL_s, pI_s, pZ_s, pL_s, aI_s, aL_s, aN_s, aQ_s, sI_s, sL_s, cr, LNs, Option.map_some, Option.map_none, Option.bind_some, b2, tr, lt, if_true, if_false, ckZ, X_within, M_in, inR_z, X_refuse, X_tell, X_deny, X_grant, M_refused, M_denied, M_done, M_granted, u2_same, u2_ne, u2_u2, upd_same, upd_ne, aW0, ixR_z, ixR_1, M_isWall, M_isPainter, M_isWork, X_has4, X_has10, X_at, or_false, false_or, or_true, true_or, not_true, not_false_iff, Option.isSome_some, isO_d, gI_d, gA_d, pI_d, ne_eq, not_false_eq_true, u2_hi, u2_hj, u2_dyn, u2_dynj, Nat.reduceAdd, mX_r, mX_rD, mX_rDj, mM_r, mX_u, mX_uM, mX_uD, mX_uDj, mM_u, mM_uX, mM_uD, mM_uDj, u2_dd, u2_d0, u2_0d]
      · simp (decide := true) only [f_X6_goRound_80, f_X6_goRound_114, hn, e2, e3, c1, oN_succ, isO_s, gI_s, gA_s, gL_s, pI_s, pZ_s, pL_s, aI_s, aL_s, aN_s, aQ_s, sI_s, sL_s, cr, LNs, Option.map_some, Option.map_none, Option.bind_some, b2, tr, lt, if_true, if_false, ckZ, X_within, M_in, inR_z, X_refuse, X_tell, X_deny, X_grant, M_refused, M_denied, M_done, M_granted, u2_same, u2_ne, u2_u2, upd_same, upd_ne, aW0, ixR_z, ixR_1, M_isWall, M_isPainter, M_isWork, X_has4, X_has10, X_at, or_false, false_or, or_true, true_or, not_true, not_false_iff, Option.isSome_some, isO_d, gI_d, gA_d, pI_d, ne_eq, not_false_eq_true, u2_hi, u2_hj, u2_dyn, u2_dynj, Nat.reduceAdd, mX_r, mX_rD, mX_rDj, mM_r, mX_u, mX_uM, mX_uD, mX_uDj, mM_u, mM_uX, mM_uD, mM_uDj, u2_dd, u2_d0, u2_0d]
theorem M_cleanL {ng : Nat} (h100 : ng ≤ 100) {g re n ma : Int32} {k49 : Nat → Int32 → Int32 → Int32 → Int32 → AH → Option (Int32 × AH)} : ∀ (m i : Nat), i + m = ng → ∀ (I : Nat → Nat → Int32) (fu : Nat), m < fu → I 72 95 = Int32.ofNat ng → f_X15_round_139 k49 fu (ad b 72) re n g ma (Int32.ofNat i) (lay b F E I L P nx us) = b2 (f_X15_nextWall (ad b 72) g (lay b F E (u2 I 141 (clR (I 139) (I 141) g (I 72 5) i ng)) L P nx us)) fun x2 h3 => k49 (ad b 72) g re (n + ma) x2 h3 := by
  intro m
  induction m with
  | zero =>
    intro i hi I fu hfu hn
    have hi' : i = ng := by omega
    subst hi'
    obtain ⟨fu, rfl⟩ : ∃ z, fu = z + 1 := ⟨fu - 1, by omega⟩
    rw [clR_0, u2_id]
    simp (decide := true) only [f_X15_round_139, hn, Int32.le_refl, isO_s, gI_s, gA_s, gL_s, pI_s, pZ_s, pL_s, aI_s, aL_s, aN_s, aQ_s, sI_s, sL_s, cr, LNs, Option.map_some, Option.map_none, Option.bind_some, b2, tr, lt, if_true, if_false, ckZ, X_within, M_in, inR_z, X_refuse, X_tell, X_deny, X_grant, M_refused, M_denied, M_done, M_granted, u2_same, u2_ne, u2_u2, upd_same, upd_ne, aW0, ixR_z, ixR_1, M_isWall, M_isPainter, M_isWork, X_has4, X_has10, X_at, or_false, false_or, or_true, true_or, not_true, not_false_iff, Option.isSome_some, isO_d, gI_d, gA_d, pI_d, ne_eq, not_false_eq_true, u2_hi, u2_hj, u2_dyn, u2_dynj, Nat.reduceAdd, mX_r, mX_rD, mX_rDj, mM_r, mX_u, mX_uM, mX_uD, mX_uDj, mM_u, mM_uX, mM_uD, mM_uDj, u2_dd, u2_d0, u2_0d]
  | succ m ih =>
    intro i hi I fu hfu hn
    obtain ⟨fu, rfl⟩ : ∃ z, fu = z + 1 := ⟨fu - 1, by omega⟩
    have hik : i < ng := by omega
    have e2 := oN_leF hik (by omega)
    have e3 : iN (Int32.ofNat i) 100 = some i := iN_oN (by omega) (by omega)
    by_cases hc : I 139 i = g ∧ I 141 i = -1
    · have := ih (i + 1) (by omega) (u2 I 141 (upd (I 141) i (I 72 5))) fu (by omega) (by simp (decide := true) only [u2_same, u2_ne, u2_u2, upd_same, upd_ne, mE, u2_dyn, dyn_u2, dyn_hi, u2_hi, u2_hj, u2_dynj, u2_dd, u2_d0, u2_0d]; exact hn)
      simp (decide := true) only [u2_same, u2_ne, u2_u2, ne_eq] at this
      rw [clR_u hik hc] at this
      rw [← this]
      simp (decide := true) only [f_X15_round_139, f_X15_round_182, hn, e2, e3, hc.1, hc.2, oN_succ, isO_s, gI_s, gA_s, gL_s, pI_s, pZ_s, pL_s, aI_s, aL_s, aN_s, aQ_s, sI_s, sL_s, cr, LNs, Option.map_some, Option.map_none, Option.bind_some, b2, tr, lt, if_true, if_false, ckZ, X_within, M_in, inR_z, X_refuse, X_tell, X_deny, X_grant, M_refused, M_denied, M_done, M_granted, u2_same, u2_ne, u2_u2, upd_same, upd_ne, aW0, ixR_z, ixR_1, M_isWall, M_isPainter, M_isWork, X_has4, X_has10, X_at, or_false, false_or, or_true, true_or, not_true, not_false_iff, Option.isSome_some, isO_d, gI_d, gA_d, pI_d, ne_eq, not_false_eq_true, u2_hi, u2_hj, u2_dyn, u2_dynj, Nat.reduceAdd, mX_r, mX_rD, mX_rDj, mM_r, mX_u, mX_uM, mX_uD, mX_uDj, mM_u, mM_uX, mM_uD, mM_uDj, u2_dd, u2_d0, u2_0d]
    · have := ih (i + 1) (by omega) I fu (by omega) hn
      rw [clR_s hc] at this
      rw [← this]
      by_cases c1 : I 139 i = g
      · have c2 : ¬ I 141 i = -1 := fun q => hc ⟨c1, q⟩
        simp (decide := true) only [f_X15_round_139, f_X15_round_182, hn, e2, e3, c1, c2, oN_succ, isO_s, gI_s, gA_s, gL_s, pI_s, pZ_s, pL_s, aI_s, aL_s, aN_s, aQ_s, sI_s, sL_s, cr, LNs, Option.map_some, Option.map_none, Option.bind_some, b2, tr, lt, if_true, if_false, ckZ, X_within, M_in, inR_z, X_refuse, X_tell, X_deny, X_grant, M_refused, M_denied, M_done, M_granted, u2_same, u2_ne, u2_u2, upd_same, upd_ne, aW0, ixR_z, ixR_1, M_isWall, M_isPainter, M_isWork, X_has4, X_has10, X_at, or_false, false_or, or_true, true_or, not_true, not_false_iff, Option.isSome_some, isO_d, gI_d, gA_d, pI_d, ne_eq, not_false_eq_true, u2_hi, u2_hj, u2_dyn, u2_dynj, Nat.reduceAdd, mX_r, mX_rD, mX_rDj, mM_r, mX_u, mX_uM, mX_uD, mX_uDj, mM_u, mM_uX, mM_uD, mM_uDj, u2_dd, u2_d0, u2_0d]
      · simp (decide := true) only [f_X15_round_139, f_X15_round_182, hn, e2, e3, c1, oN_succ, isO_s, gI_s, gA_s, gL_s, pI_s, pZ_s, pL_s, aI_s, aL_s, aN_s, aQ_s, sI_s, sL_s, cr, LNs, Option.map_some, Option.map_none, Option.bind_some, b2, tr, lt, if_true, if_false, ckZ, X_within, M_in, inR_z, X_refuse, X_tell, X_deny, X_grant, M_refused, M_denied, M_done, M_granted, u2_same, u2_ne, u2_u2, upd_same, upd_ne, aW0, ixR_z, ixR_1, M_isWall, M_isPainter, M_isWork, X_has4, X_has10, X_at, or_false, false_or, or_true, true_or, not_true, not_false_iff, Option.isSome_some, isO_d, gI_d, gA_d, pI_d, ne_eq, not_false_eq_true, u2_hi, u2_hj, u2_dyn, u2_dynj, Nat.reduceAdd, mX_r, mX_rD, mX_rDj, mM_r, mX_u, mX_uM, mX_uD, mX_uDj, mM_u, mM_uX, mM_uD, mM_uDj, u2_dd, u2_d0, u2_0d]
theorem X_openTags {ng : Nat} (g : Int32) (h100 : ng ≤ 100) (hn : I 33 1 = Int32.ofNat ng) : f_X6_openTags (ad b 33) g (lay b F E I L P nx us) = some (sm (opF (I 34) (I 36) g) 0 ng, (lay b F E I L P nx us)) := by
  simp (decide := true) only [f_X6_openTags_35, f_X6_openTags, isO_s, gI_s, gA_s, gL_s, pI_s, pZ_s, pL_s, aI_s, aL_s, aN_s, aQ_s, sI_s, sL_s, cr, LNs, Option.map_some, Option.map_none, Option.bind_some, b2, tr, lt, if_true, if_false, ckZ, X_within, M_in, inR_z, X_refuse, X_tell, X_deny, X_grant, M_refused, M_denied, M_done, M_granted, u2_same, u2_ne, u2_u2, upd_same, upd_ne, aW0, ixR_z, ixR_1, M_isWall, M_isPainter, M_isWork, X_has4, X_has10, X_at, or_false, false_or, or_true, true_or, not_true, not_false_iff, Option.isSome_some, isO_d, gI_d, gA_d, pI_d, ne_eq, not_false_eq_true, u2_hi, u2_hj, u2_dyn, u2_dynj, Nat.reduceAdd, mX_r, mX_rD, mX_rDj, mM_r, mX_u, mX_uM, mX_uD, mX_uDj, mM_u, mM_uX, mM_uD, mM_uDj, u2_dd, u2_d0, u2_0d]
  refine lp_sum0 (T := fun n a k => f_X6_openTags_4 n (ad b 33) g a k (lay b F E I L P nx us)) (R := fun a => some (a, (lay b F E I L P nx us))) (f := opF (I 34) (I 36) g) (N := ng) (by omega) ?_ ?_
  · intro n a
    simp (decide := true) only [f_X6_openTags_4, hn, Int32.le_refl, isO_s, gI_s, gA_s, gL_s, pI_s, pZ_s, pL_s, aI_s, aL_s, aN_s, aQ_s, sI_s, sL_s, cr, LNs, Option.map_some, Option.map_none, Option.bind_some, b2, tr, lt, if_true, if_false, ckZ, X_within, M_in, inR_z, X_refuse, X_tell, X_deny, X_grant, M_refused, M_denied, M_done, M_granted, u2_same, u2_ne, u2_u2, upd_same, upd_ne, aW0, ixR_z, ixR_1, M_isWall, M_isPainter, M_isWork, X_has4, X_has10, X_at, or_false, false_or, or_true, true_or, not_true, not_false_iff, Option.isSome_some, isO_d, gI_d, gA_d, pI_d, ne_eq, not_false_eq_true, u2_hi, u2_hj, u2_dyn, u2_dynj, Nat.reduceAdd, mX_r, mX_rD, mX_rDj, mM_r, mX_u, mX_uM, mX_uD, mX_uDj, mM_u, mM_uX, mM_uD, mM_uDj, u2_dd, u2_d0, u2_0d]
  · intro n a k hk
    have e2 := oN_leF hk (by omega)
    have e3 : iN (Int32.ofNat k) 100 = some k := iN_oN (by omega) (by omega)
    show f_X6_openTags_4 (n + 1) (ad b 33) g a (Int32.ofNat k) (lay b F E I L P nx us) = _
    simp (decide := true) only [f_X6_openTags_4, f_X6_openTags_35, hn, e2, e3, oN_succ, opF, isO_s, gI_s, gA_s, gL_s, pI_s, pZ_s, pL_s, aI_s, aL_s, aN_s, aQ_s, sI_s, sL_s, cr, LNs, Option.map_some, Option.map_none, Option.bind_some, b2, tr, lt, if_true, if_false, ckZ, X_within, M_in, inR_z, X_refuse, X_tell, X_deny, X_grant, M_refused, M_denied, M_done, M_granted, u2_same, u2_ne, u2_u2, upd_same, upd_ne, aW0, ixR_z, ixR_1, M_isWall, M_isPainter, M_isWork, X_has4, X_has10, X_at, or_false, false_or, or_true, true_or, not_true, not_false_iff, Option.isSome_some, isO_d, gI_d, gA_d, pI_d, ne_eq, not_false_eq_true, u2_hi, u2_hj, u2_dyn, u2_dynj, Nat.reduceAdd, mX_r, mX_rD, mX_rDj, mM_r, mX_u, mX_uM, mX_uD, mX_uDj, mM_u, mM_uX, mM_uD, mM_uDj, u2_dd, u2_d0, u2_0d]
    by_cases c1 : I 34 k = g
    · by_cases c2 : I 36 k = -1
      · simp only [c1, c2, and_self, if_true]
      · simp only [c1, c2, and_false, if_true, if_false, Int32.add_zero]
    · simp only [c1, false_and, if_false, Int32.add_zero]
theorem M_many {ng : Nat} {g st re n : Int32} {k49 : Nat → Int32 → Int32 → Int32 → Int32 → AH → Option (Int32 × AH)} (h100 : ng ≤ 100) (hn : I 72 95 = Int32.ofNat ng) : f_X15_round_61 k49 FU (ad b 72) st re n g 0 0 (lay b F E I L P nx us) = b2 (f_X15_apart (ad b 72) st g (lay b F E I L P nx us)) fun x2 h3 => if 0 ≤ re - (x2 + 10 * sm (opF (I 139) (I 141) g) 0 ng) then f_X15_round_139 k49 FU (ad b 72) (re - (x2 + 10 * sm (opF (I 139) (I 141) g) 0 ng)) n g (sm (opF (I 139) (I 141) g) 0 ng) 0 h3 else b2 (f_X15_done (ad b 72) n h3) fun x5 h6 => some (x5, h6) := by
  refine lp_sum0 (T := fun f a k => f_X15_round_61 k49 f (ad b 72) st re n g a k (lay b F E I L P nx us)) (R := fun a => b2 (f_X15_apart (ad b 72) st g (lay b F E I L P nx us)) fun x2 h3 => if 0 ≤ re - (x2 + 10 * a) then f_X15_round_139 k49 FU (ad b 72) (re - (x2 + 10 * a)) n g a 0 h3 else b2 (f_X15_done (ad b 72) n h3) fun x5 h6 => some (x5, h6)) (f := opF (I 139) (I 141) g) (N := ng) (by omega) ?_ ?_
  · intro f a
    simp (decide := true) only [f_X15_round_61, hn, Int32.le_refl, isO_s, gI_s, gA_s, gL_s, pI_s, pZ_s, pL_s, aI_s, aL_s, aN_s, aQ_s, sI_s, sL_s, cr, LNs, Option.map_some, Option.map_none, Option.bind_some, b2, tr, lt, if_true, if_false, ckZ, X_within, M_in, inR_z, X_refuse, X_tell, X_deny, X_grant, M_refused, M_denied, M_granted, u2_same, u2_ne, u2_u2, upd_same, upd_ne, aW0, ixR_z, ixR_1, M_isWall, M_isPainter, M_isWork, X_has4, X_has10, X_at, or_false, false_or, or_true, true_or, not_true, not_false_iff, Option.isSome_some, isO_d, gI_d, gA_d, pI_d, ne_eq, not_false_eq_true, u2_hi, u2_hj, u2_dyn, u2_dynj, Nat.reduceAdd, mX_r, mX_rD, mX_rDj, mM_r, mX_u, mX_uM, mX_uD, mX_uDj, mM_u, mM_uX, mM_uD, mM_uDj, u2_dd, u2_d0, u2_0d]
  · intro f a k hk
    have e2 := oN_leF hk (by omega)
    have e3 : iN (Int32.ofNat k) 100 = some k := iN_oN (by omega) (by omega)
    show f_X15_round_61 k49 (f + 1) (ad b 72) st re n g a (Int32.ofNat k) (lay b F E I L P nx us) = _
    simp (decide := true) only [f_X15_round_61, f_X15_round_99, f_X15_round_100, hn, e2, e3, oN_succ, opF, isO_s, gI_s, gA_s, gL_s, pI_s, pZ_s, pL_s, aI_s, aL_s, aN_s, aQ_s, sI_s, sL_s, cr, LNs, Option.map_some, Option.map_none, Option.bind_some, b2, tr, lt, if_true, if_false, ckZ, X_within, M_in, inR_z, X_refuse, X_tell, X_deny, X_grant, M_refused, M_denied, M_granted, u2_same, u2_ne, u2_u2, upd_same, upd_ne, aW0, ixR_z, ixR_1, M_isWall, M_isPainter, M_isWork, X_has4, X_has10, X_at, or_false, false_or, or_true, true_or, not_true, not_false_iff, Option.isSome_some, isO_d, gI_d, gA_d, pI_d, ne_eq, not_false_eq_true, u2_hi, u2_hj, u2_dyn, u2_dynj, Nat.reduceAdd, mX_r, mX_rD, mX_rDj, mM_r, mX_u, mX_uM, mX_uD, mX_uDj, mM_u, mM_uX, mM_uD, mM_uDj, u2_dd, u2_d0, u2_0d]
    by_cases c1 : I 139 k = g
    · by_cases c2 : I 141 k = -1
      · simp only [c1, c2, and_self, if_true]
      · simp only [c1, c2, and_false, if_true, if_false, Int32.add_zero]
    · simp only [c1, false_and, if_false, Int32.add_zero]
/-- what a round needs -/
def RQ (nw ng td : Nat) (I : Nat → Nat → Int32) : Prop := Cn nw 16 (I 1 1) (I 72 4) ∧ Cn ng 100 (I 33 1) (I 72 95) ∧ Cn td 3649 (I 13 14) (I 72 5) ∧ GWay (I 4) (I 89) ∧ GTag ng nw td (I 34) (I 35) (I 36) (I 139) (I 140) (I 141)
def RF (I I2 : Nat → Nat → Int32) : Prop := ∀ c, c ≠ 36 → c ≠ 141 → I2 c = I c
theorem rounds {nw ng td : Nat} {q wd hg ow : Nat → Nat} (hA : WA nw q wd hg ow E (P 2)) : ∀ (m tu : Nat), tu + m = 16 → ∀ (I : Nat → Nat → Int32) (s fr : Nat), s < nw → fr ≤ 600 → RQ nw ng td I → (∃ l : List Nat, l.length ≤ m ∧ ∀ k, k < ng → I 141 k = -1 → toN (I 139 k) ∈ l) →
    ∃ (v : Int32) (I2 : Nat → Nat → Int32), RQ nw ng td I2 ∧ RF I I2 ∧
    (∀ (J : Nat → Nat → Int32) (fu : Nat) (n : Int32), m < fu → f_X6_goRound_11 fu (ad b 33) (Int32.ofNat td) n (Int32.ofNat fr) (Int32.ofNat s) (Int32.ofNat tu) (lay b F E (mX J I) L P nx us) = some (n + v, lay b F E (mX J I2) L P nx us)) ∧
    (∀ (J : Nat → Nat → Int32) (fu : Nat) (n g : Int32), m < fu → UrgW ng nw s (I 139) (I 140) (I 141) (I 89) g → f_X15_round_49 fu (ad b 72) (Int32.ofNat s) (Int32.ofNat fr) n g (lay b F E (mM J I) L P nx us) = b2 (f_X15_done (ad b 72) (n + v) (lay b F E (mM J I2) L P nx us)) fun x1 h2 => some (x1, h2)) := by
  intro m
  induction m with
  | zero =>
    intro tu htu I s fr hs hfr hQ hl
    obtain ⟨l, hl1, hl2⟩ := hl
    have hnil : l = [] := List.eq_nil_of_length_eq_zero (by omega)
    subst hnil
    obtain ⟨hnw, hng, htd, hW, hT⟩ := hQ
    refine ⟨0, I, ⟨hnw, hng, htd, hW, hT⟩, fun _ _ _ => rfl, ?_, ?_⟩
    · intro J fu n hfu
      obtain ⟨fu, rfl⟩ : ∃ z, fu = z + 1 := ⟨fu - 1, by omega⟩
      have : tu = 16 := by omega
      subst this
      simp (decide := true) only [f_X6_goRound_11, Int32.add_zero, isO_s, gI_s, gA_s, gL_s, pI_s, pZ_s, pL_s, aI_s, aL_s, aN_s, aQ_s, sI_s, sL_s, cr, LNs, Option.map_some, Option.map_none, Option.bind_some, b2, tr, lt, if_true, if_false, ckZ, X_within, M_in, inR_z, X_refuse, X_tell, X_deny, X_grant, M_refused, M_denied, M_done, M_granted, u2_same, u2_ne, u2_u2, upd_same, upd_ne, aW0, ixR_z, ixR_1, M_isWall, M_isPainter, M_isWork, X_has4, X_has10, X_at, or_false, false_or, or_true, true_or, not_true, not_false_iff, Option.isSome_some, isO_d, gI_d, gA_d, pI_d, ne_eq, not_false_eq_true, u2_hi, u2_hj, u2_dyn, u2_dynj, Nat.reduceAdd, mX_r, mX_rD, mX_rDj, mM_r, mX_u, mX_uM, mX_uD, mX_uDj, mM_u, mM_uX, mM_uD, mM_uDj, u2_dd, u2_d0, u2_0d]
    · intro J fu n g hfu hg
      obtain ⟨fu, rfl⟩ : ∃ z, fu = z + 1 := ⟨fu - 1, by omega⟩
      have hno : Urg ng s (I 139) (I 140) (I 141) (I 89) (-1) := Or.inl ⟨rfl, fun k hk ho => by have := hl2 k hk ho; simp at this⟩
      have := Urg_eq hW hT hnw.1 hs hno hg
      subst this
      simp (decide := true) only [f_X15_round_49, Int32.add_zero, isO_s, gI_s, gA_s, gL_s, pI_s, pZ_s, pL_s, aI_s, aL_s, aN_s, aQ_s, sI_s, sL_s, cr, LNs, Option.map_some, Option.map_none, Option.bind_some, b2, tr, lt, if_true, if_false, ckZ, X_within, M_in, inR_z, X_refuse, X_tell, X_deny, X_grant, M_refused, M_denied, M_granted, u2_same, u2_ne, u2_u2, upd_same, upd_ne, aW0, ixR_z, ixR_1, M_isWall, M_isPainter, M_isWork, X_has4, X_has10, X_at, or_false, false_or, or_true, true_or, not_true, not_false_iff, Option.isSome_some, isO_d, gI_d, gA_d, pI_d, ne_eq, not_false_eq_true, u2_hi, u2_hj, u2_dyn, u2_dynj, Nat.reduceAdd, mX_r, mX_rD, mX_rDj, mM_r, mX_u, mX_uM, mX_uD, mX_uDj, mM_u, mM_uX, mM_uD, mM_uDj, u2_dd, u2_d0, u2_0d]
  | succ m ih =>
    intro tu htu I s fr hs hfr hQ hl
    obtain ⟨l, hl1, hl2⟩ := hl
    have hQ0 := hQ
    obtain ⟨hnw, hng, htd, hW, hT⟩ := hQ
    have h16 := hnw.1
    have h100 := hng.1
    have t3649 := htd.1
    have etu : ((16 : Int32) ≤ Int32.ofNat tu) = False := oN_leF (c := 16) (by omega) (by omega)
    have mM72 : ∀ J : Nat → Nat → Int32, mM J I 72 = I 72 := fun J => mM_r (by decide)
    -- the goal of both sides
    obtain ⟨g, -, ug⟩ := M_nextWall (b := b) (F := F) (E := E) (L := L) (P := P) (nx := nx) (us := us) (I := I) hnw.2.2 h16 hng.2.2 h100 hW hT hs
    have hX : ∀ J : Nat → Nat → Int32, f_X6_mostUrgent (ad b 33) (Int32.ofNat s) (lay b F E (mX J I) L P nx us) = some (g, lay b F E (mX J I) L P nx us) := by
      intro J
      obtain ⟨f, z1, z2⟩ := X_urgent (b := b) (F := F) (E := E) (L := L) (P := P) (nx := nx) (us := us) (I := mX J I) (m89 := I 89) (m139 := I 139) (m140 := I 140) (m141 := I 141) (td := td) (by simp (decide := true) only [isO_s, gI_s, gA_s, gL_s, pI_s, pZ_s, pL_s, aI_s, aL_s, aN_s, aQ_s, sI_s, sL_s, cr, LNs, Option.map_some, Option.map_none, Option.bind_some, b2, tr, lt, if_true, if_false, ckZ, X_within, M_in, inR_z, X_refuse, X_tell, X_deny, X_grant, M_refused, M_denied, M_done, M_granted, u2_same, u2_ne, u2_u2, upd_same, upd_ne, aW0, ixR_z, ixR_1, M_isWall, M_isPainter, M_isWork, X_has4, X_has10, X_at, or_false, false_or, or_true, true_or, not_true, not_false_iff, Option.isSome_some, isO_d, gI_d, gA_d, pI_d, ne_eq, not_false_eq_true, u2_hi, u2_hj, u2_dyn, u2_dynj, Nat.reduceAdd, mX_r, mX_rD, mX_rDj, mM_r, mX_u, mX_uM, mX_uD, mX_uDj, mM_u, mM_uX, mM_uD, mM_uDj, u2_dd, u2_d0, u2_0d]; exact hnw.2.1) h16 hA (by simp (decide := true) only [isO_s, gI_s, gA_s, gL_s, pI_s, pZ_s, pL_s, aI_s, aL_s, aN_s, aQ_s, sI_s, sL_s, cr, LNs, Option.map_some, Option.map_none, Option.bind_some, b2, tr, lt, if_true, if_false, ckZ, X_within, M_in, inR_z, X_refuse, X_tell, X_deny, X_grant, M_refused, M_denied, M_done, M_granted, u2_same, u2_ne, u2_u2, upd_same, upd_ne, aW0, ixR_z, ixR_1, M_isWall, M_isPainter, M_isWork, X_has4, X_has10, X_at, or_false, false_or, or_true, true_or, not_true, not_false_iff, Option.isSome_some, isO_d, gI_d, gA_d, pI_d, ne_eq, not_false_eq_true, u2_hi, u2_hj, u2_dyn, u2_dynj, Nat.reduceAdd, mX_r, mX_rD, mX_rDj, mM_r, mX_u, mX_uM, mX_uD, mX_uDj, mM_u, mM_uX, mM_uD, mM_uDj, u2_dd, u2_d0, u2_0d]; exact hW) (by simp (decide := true) only [isO_s, gI_s, gA_s, gL_s, pI_s, pZ_s, pL_s, aI_s, aL_s, aN_s, aQ_s, sI_s, sL_s, cr, LNs, Option.map_some, Option.map_none, Option.bind_some, b2, tr, lt, if_true, if_false, ckZ, X_within, M_in, inR_z, X_refuse, X_tell, X_deny, X_grant, M_refused, M_denied, M_done, M_granted, u2_same, u2_ne, u2_u2, upd_same, upd_ne, aW0, ixR_z, ixR_1, M_isWall, M_isPainter, M_isWork, X_has4, X_has10, X_at, or_false, false_or, or_true, true_or, not_true, not_false_iff, Option.isSome_some, isO_d, gI_d, gA_d, pI_d, ne_eq, not_false_eq_true, u2_hi, u2_hj, u2_dyn, u2_dynj, Nat.reduceAdd, mX_r, mX_rD, mX_rDj, mM_r, mX_u, mX_uM, mX_uD, mX_uDj, mM_u, mM_uX, mM_uD, mM_uDj, u2_dd, u2_d0, u2_0d]; exact hng.2.1) h100 (by simp (decide := true) only [isO_s, gI_s, gA_s, gL_s, pI_s, pZ_s, pL_s, aI_s, aL_s, aN_s, aQ_s, sI_s, sL_s, cr, LNs, Option.map_some, Option.map_none, Option.bind_some, b2, tr, lt, if_true, if_false, ckZ, X_within, M_in, inR_z, X_refuse, X_tell, X_deny, X_grant, M_refused, M_denied, M_done, M_granted, u2_same, u2_ne, u2_u2, upd_same, upd_ne, aW0, ixR_z, ixR_1, M_isWall, M_isPainter, M_isWork, X_has4, X_has10, X_at, or_false, false_or, or_true, true_or, not_true, not_false_iff, Option.isSome_some, isO_d, gI_d, gA_d, pI_d, ne_eq, not_false_eq_true, u2_hi, u2_hj, u2_dyn, u2_dynj, Nat.reduceAdd, mX_r, mX_rD, mX_rDj, mM_r, mX_u, mX_uM, mX_uD, mX_uDj, mM_u, mM_uX, mM_uD, mM_uDj, u2_dd, u2_d0, u2_0d]; exact hT) hs ng 0 (by omega) (-1) 0 FU (by unfold FU; omega) (Or.inl ⟨rfl, fun k hk => by omega⟩)
      have := Urg_eq hW hT h16 hs z2 ug
      subst this
      simp (decide := true) only [f_X6_mostUrgent_117, f_X6_mostUrgent_106, f_X6_mostUrgent, isO_s, gI_s, gA_s, gL_s, pI_s, pZ_s, pL_s, aI_s, aL_s, aN_s, aQ_s, sI_s, sL_s, cr, LNs, Option.map_some, Option.map_none, Option.bind_some, b2, tr, lt, if_true, if_false, ckZ, X_within, M_in, inR_z, X_refuse, X_tell, X_deny, X_grant, M_refused, M_denied, M_done, M_granted, u2_same, u2_ne, u2_u2, upd_same, upd_ne, aW0, ixR_z, ixR_1, M_isWall, M_isPainter, M_isWork, X_has4, X_has10, X_at, or_false, false_or, or_true, true_or, not_true, not_false_iff, Option.isSome_some, isO_d, gI_d, gA_d, pI_d, ne_eq, not_false_eq_true, u2_hi, u2_hj, u2_dyn, u2_dynj, Nat.reduceAdd, mX_r, mX_rD, mX_rDj, mM_r, mX_u, mX_uM, mX_uD, mX_uDj, mM_u, mM_uX, mM_uD, mM_uDj, u2_dd, u2_d0, u2_0d]
      exact z1
    have hM : ∀ (J : Nat → Nat → Int32) (g' : Int32), UrgW ng nw s (I 139) (I 140) (I 141) (I 89) g' → g' = g := by
      intro J g' hg'
      obtain ⟨f, z1, z2⟩ := X_urgent (b := b) (F := F) (E := E) (L := L) (P := P) (nx := nx) (us := us) (I := I) (m89 := I 89) (m139 := I 139) (m140 := I 140) (m141 := I 141) (td := td) hnw.2.1 h16 hA hW hng.2.1 h100 hT hs ng 0 (by omega) (-1) 0 FU (by unfold FU; omega) (Or.inl ⟨rfl, fun k hk => by omega⟩)
      rw [← Urg_eq hW hT h16 hs z2 hg', ← Urg_eq hW hT h16 hs z2 ug]
    rcases ug with ⟨rfl, hno⟩ | ⟨g0, c1, c2, rfl, c4⟩
    · -- nothing is left
      refine ⟨0, I, hQ0, fun _ _ _ => rfl, ?_, ?_⟩
      · intro J fu n hfu
        obtain ⟨fu, rfl⟩ : ∃ z, fu = z + 1 := ⟨fu - 1, by omega⟩
        simp (decide := true) only [f_X6_goRound_11, etu, hX J, Int32.add_zero, isO_s, gI_s, gA_s, gL_s, pI_s, pZ_s, pL_s, aI_s, aL_s, aN_s, aQ_s, sI_s, sL_s, cr, LNs, Option.map_some, Option.map_none, Option.bind_some, b2, tr, lt, if_true, if_false, ckZ, X_within, M_in, inR_z, X_refuse, X_tell, X_deny, X_grant, M_refused, M_denied, M_done, M_granted, u2_same, u2_ne, u2_u2, upd_same, upd_ne, aW0, ixR_z, ixR_1, M_isWall, M_isPainter, M_isWork, X_has4, X_has10, X_at, or_false, false_or, or_true, true_or, not_true, not_false_iff, Option.isSome_some, isO_d, gI_d, gA_d, pI_d, ne_eq, not_false_eq_true, u2_hi, u2_hj, u2_dyn, u2_dynj, Nat.reduceAdd, mX_r, mX_rD, mX_rDj, mM_r, mX_u, mX_uM, mX_uD, mX_uDj, mM_u, mM_uX, mM_uD, mM_uDj, u2_dd, u2_d0, u2_0d]
      · intro J fu n g' hfu hg'
        obtain ⟨fu, rfl⟩ : ∃ z, fu = z + 1 := ⟨fu - 1, by omega⟩
        have := hM J g' hg'
        subst this
        simp (decide := true) only [f_X15_round_49, Int32.add_zero, isO_s, gI_s, gA_s, gL_s, pI_s, pZ_s, pL_s, aI_s, aL_s, aN_s, aQ_s, sI_s, sL_s, cr, LNs, Option.map_some, Option.map_none, Option.bind_some, b2, tr, lt, if_true, if_false, ckZ, X_within, M_in, inR_z, X_refuse, X_tell, X_deny, X_grant, M_refused, M_denied, M_granted, u2_same, u2_ne, u2_u2, upd_same, upd_ne, aW0, ixR_z, ixR_1, M_isWall, M_isPainter, M_isWork, X_has4, X_has10, X_at, or_false, false_or, or_true, true_or, not_true, not_false_iff, Option.isSome_some, isO_d, gI_d, gA_d, pI_d, ne_eq, not_false_eq_true, u2_hi, u2_hj, u2_dyn, u2_dynj, Nat.reduceAdd, mX_r, mX_rD, mX_rDj, mM_r, mX_u, mX_uM, mX_uD, mX_uDj, mM_u, mM_uX, mM_uD, mM_uDj, u2_dd, u2_d0, u2_0d]
    · have hm1 : ¬ Int32.ofNat g0 = -1 := oN_m1 (by omega)
      obtain ⟨c, hc1, hc2⟩ := sm01 (f := opF (I 139) (I 141) (Int32.ofNat g0)) (fun k => by unfold opF; split; exact Or.inr rfl; exact Or.inl rfl) ng 0
      have hop : sm (opF (I 34) (I 36) (Int32.ofNat g0)) 0 ng = sm (opF (I 139) (I 141) (Int32.ofNat g0)) 0 ng := by
        refine sm_congr _ _ ?_
        intro k _ hk
        obtain ⟨g1, -, g3, -⟩ := hT k (by omega)
        unfold opF
        rw [g1, g3]
      have hd := dN_le hW (show s < 16 by omega) (show g0 < 16 by omega)
      have htk : Int32.ofNat (dN (I 89) s g0) + 10 * Int32.ofNat c = Int32.ofNat (dN (I 89) s g0 + 10 * c) := by
        rw [show (10 : Int32) = Int32.ofNat 10 from rfl, oN_mul, oN_add]
      have hwX : ∀ J : Nat → Nat → Int32, f_X9_way (ad b 1) (Int32.ofNat s) (Int32.ofNat g0) (lay b F E (mX J I) L P nx us) = some (Int32.ofNat (dN (I 89) s g0), lay b F E (mX J I) L P nx us) := fun J => X_way (I := mX J I) (by simp (decide := true) only [isO_s, gI_s, gA_s, gL_s, pI_s, pZ_s, pL_s, aI_s, aL_s, aN_s, aQ_s, sI_s, sL_s, cr, LNs, Option.map_some, Option.map_none, Option.bind_some, b2, tr, lt, if_true, if_false, ckZ, X_within, M_in, inR_z, X_refuse, X_tell, X_deny, X_grant, M_refused, M_denied, M_done, M_granted, u2_same, u2_ne, u2_u2, upd_same, upd_ne, aW0, ixR_z, ixR_1, M_isWall, M_isPainter, M_isWork, X_has4, X_has10, X_at, or_false, false_or, or_true, true_or, not_true, not_false_iff, Option.isSome_some, isO_d, gI_d, gA_d, pI_d, ne_eq, not_false_eq_true, u2_hi, u2_hj, u2_dyn, u2_dynj, Nat.reduceAdd, mX_r, mX_rD, mX_rDj, mM_r, mX_u, mX_uM, mX_uD, mX_uDj, mM_u, mM_uX, mM_uD, mM_uDj, u2_dd, u2_d0, u2_0d]; exact hnw.2.1) h16 hA (by simp (decide := true) only [isO_s, gI_s, gA_s, gL_s, pI_s, pZ_s, pL_s, aI_s, aL_s, aN_s, aQ_s, sI_s, sL_s, cr, LNs, Option.map_some, Option.map_none, Option.bind_some, b2, tr, lt, if_true, if_false, ckZ, X_within, M_in, inR_z, X_refuse, X_tell, X_deny, X_grant, M_refused, M_denied, M_done, M_granted, u2_same, u2_ne, u2_u2, upd_same, upd_ne, aW0, ixR_z, ixR_1, M_isWall, M_isPainter, M_isWork, X_has4, X_has10, X_at, or_false, false_or, or_true, true_or, not_true, not_false_iff, Option.isSome_some, isO_d, gI_d, gA_d, pI_d, ne_eq, not_false_eq_true, u2_hi, u2_hj, u2_dyn, u2_dynj, Nat.reduceAdd, mX_r, mX_rD, mX_rDj, mM_r, mX_u, mX_uM, mX_uD, mX_uDj, mM_u, mM_uX, mM_uD, mM_uDj, u2_dd, u2_d0, u2_0d]; exact hW) hs c1
      have hwM : ∀ J : Nat → Nat → Int32, f_X15_apart (ad b 72) (Int32.ofNat s) (Int32.ofNat g0) (lay b F E (mM J I) L P nx us) = some (Int32.ofNat (dN (I 89) s g0), lay b F E (mM J I) L P nx us) := by
        intro J
        have := M_apart (b := b) (F := F) (E := E) (L := L) (P := P) (nx := nx) (us := us) (I := mM J I) (x4 := I 4) (s := s) (w := g0) (by simp (decide := true) only [isO_s, gI_s, gA_s, gL_s, pI_s, pZ_s, pL_s, aI_s, aL_s, aN_s, aQ_s, sI_s, sL_s, cr, LNs, Option.map_some, Option.map_none, Option.bind_some, b2, tr, lt, if_true, if_false, ckZ, X_within, M_in, inR_z, X_refuse, X_tell, X_deny, X_grant, M_refused, M_denied, M_done, M_granted, u2_same, u2_ne, u2_u2, upd_same, upd_ne, aW0, ixR_z, ixR_1, M_isWall, M_isPainter, M_isWork, X_has4, X_has10, X_at, or_false, false_or, or_true, true_or, not_true, not_false_iff, Option.isSome_some, isO_d, gI_d, gA_d, pI_d, ne_eq, not_false_eq_true, u2_hi, u2_hj, u2_dyn, u2_dynj, Nat.reduceAdd, mX_r, mX_rD, mX_rDj, mM_r, mX_u, mX_uM, mX_uD, mX_uDj, mM_u, mM_uX, mM_uD, mM_uDj, u2_dd, u2_d0, u2_0d]; exact hW) (by omega) (by omega)
        rw [mM_r (by decide)] at this
        exact this
      have hoX : ∀ J : Nat → Nat → Int32, f_X6_openTags (ad b 33) (Int32.ofNat g0) (lay b F E (mX J I) L P nx us) = some (Int32.ofNat c, lay b F E (mX J I) L P nx us) := by
        intro J
        have := X_openTags (b := b) (F := F) (E := E) (L := L) (P := P) (nx := nx) (us := us) (I := mX J I) (Int32.ofNat g0) h100 (by simp (decide := true) only [isO_s, gI_s, gA_s, gL_s, pI_s, pZ_s, pL_s, aI_s, aL_s, aN_s, aQ_s, sI_s, sL_s, cr, LNs, Option.map_some, Option.map_none, Option.bind_some, b2, tr, lt, if_true, if_false, ckZ, X_within, M_in, inR_z, X_refuse, X_tell, X_deny, X_grant, M_refused, M_denied, M_done, M_granted, u2_same, u2_ne, u2_u2, upd_same, upd_ne, aW0, ixR_z, ixR_1, M_isWall, M_isPainter, M_isWork, X_has4, X_has10, X_at, or_false, false_or, or_true, true_or, not_true, not_false_iff, Option.isSome_some, isO_d, gI_d, gA_d, pI_d, ne_eq, not_false_eq_true, u2_hi, u2_hj, u2_dyn, u2_dynj, Nat.reduceAdd, mX_r, mX_rD, mX_rDj, mM_r, mX_u, mX_uM, mX_uD, mX_uDj, mM_u, mM_uX, mM_uD, mM_uDj, u2_dd, u2_d0, u2_0d]; exact hng.2.1)
        rw [mX_r (by decide), mX_r (by decide), hop, hc2] at this
        exact this
      by_cases hfit : dN (I 89) s g0 + 10 * c ≤ fr
      · -- the crew goes there
        let I1 : Nat → Nat → Int32 := u2 (u2 I 36 (clR (I 34) (I 36) (Int32.ofNat g0) (Int32.ofNat td) 0 ng)) 141 (clR (I 139) (I 141) (Int32.ofNat g0) (Int32.ofNat td) 0 ng)
        have hQ1 : RQ nw ng td I1 := by
          unfold RQ
          simp (decide := true) only [I1, u2_same, u2_ne, u2_u2, upd_same, upd_ne, mE, u2_dyn, dyn_u2, dyn_hi, u2_hi, u2_hj, u2_dynj, u2_dd, u2_d0, u2_0d]
          refine ⟨hnw, hng, htd, hW, ?_⟩
          intro k hk
          obtain ⟨g1, g2, g3, g4, g5, g6⟩ := hT k hk
          unfold clR
          rw [g1, g3]
          refine ⟨rfl, g2, rfl, g4, g5, ?_⟩
          split
          · exact Or.inr ⟨td, Nat.le_refl _, rfl⟩
          · exact g6
        have hl1' : ∃ l : List Nat, l.length ≤ m ∧ ∀ k, k < ng → I1 141 k = -1 → toN (I1 139 k) ∈ l := by
          refine ⟨l.filter (fun x => x != g0), ?_, ?_⟩
          · have hmem : g0 ∈ l := by
              rcases (lbF_spec (m139 := I 139) (m140 := I 140) (m141 := I 141) (w := g0) ng 0 1000000).2.2 with h | ⟨k, -, k2, k3, k4, -⟩
              · exact absurd h c2
              · have := hl2 k (by omega) k4
                rw [(toN_o k3 (by omega)).1] at this
                exact this
            have : (l.filter (fun x => x != g0)).length < l.length := by
              rw [List.length_filter_lt_length_iff_exists]
              exact ⟨g0, hmem, by simp⟩
            omega
          · intro k hk ho
            have r139 : I1 139 = I 139 := by simp (decide := true) only [I1, u2_same, u2_ne, u2_u2, upd_same, upd_ne, mE, u2_dyn, dyn_u2, dyn_hi, u2_hi, u2_hj, u2_dynj, u2_dd, u2_d0, u2_0d]
            have r141 : I1 141 = clR (I 139) (I 141) (Int32.ofNat g0) (Int32.ofNat td) 0 ng := by simp (decide := true) only [I1, u2_same, u2_ne, u2_u2, upd_same, upd_ne, mE, u2_dyn, dyn_u2, dyn_hi, u2_hi, u2_hj, u2_dynj, u2_dd, u2_d0, u2_0d]
            rw [r139]
            rw [r141] at ho
            unfold clR at ho
            obtain ⟨n1, n2, -⟩ := hT.n h16 hk
            by_cases hcc : (0 ≤ k ∧ k < ng) ∧ I 139 k = Int32.ofNat g0 ∧ I 141 k = -1
            · rw [if_pos hcc] at ho
              exact absurd ho (oN_m1 (by omega))
            · rw [if_neg hcc] at ho
              rw [List.mem_filter]
              refine ⟨hl2 k hk ho, ?_⟩
              simp
              intro hz
              exact hcc ⟨⟨by omega, hk⟩, by rw [n2, hz], ho⟩
        obtain ⟨v, I2, z1, z2, z3, z4⟩ := ih (tu + 1) (by omega) I1 g0 (fr - (dN (I 89) s g0 + 10 * c)) c1 (by omega) hQ1 hl1'
        refine ⟨Int32.ofNat c + v, I2, z1, ?_, ?_, ?_⟩
        · intro x h1 h2
          rw [z2 x h1 h2]
          show u2 (u2 I 36 _) 141 _ x = _
          rw [u2_ne h2, u2_ne h1]
        · intro J fu n hfu
          obtain ⟨fu, rfl⟩ : ∃ z, fu = z + 1 := ⟨fu - 1, by omega⟩
          have hcl := X_cleanL (b := b) (F := F) (E := E) (L := L) (P := P) (nx := nx) (us := us) (td := Int32.ofNat td) (g := Int32.ofNat g0) (fr := Int32.ofNat (fr - (dN (I 89) s g0 + 10 * c))) (st := Int32.ofNat g0) (tu := Int32.ofNat tu) (k11 := f_X6_goRound_11 fu) h100 ng 0 (by omega) (mX J I) n FU (by unfold FU; omega) (by simp (decide := true) only [isO_s, gI_s, gA_s, gL_s, pI_s, pZ_s, pL_s, aI_s, aL_s, aN_s, aQ_s, sI_s, sL_s, cr, LNs, Option.map_some, Option.map_none, Option.bind_some, b2, tr, lt, if_true, if_false, ckZ, X_within, M_in, inR_z, X_refuse, X_tell, X_deny, X_grant, M_refused, M_denied, M_done, M_granted, u2_same, u2_ne, u2_u2, upd_same, upd_ne, aW0, ixR_z, ixR_1, M_isWall, M_isPainter, M_isWork, X_has4, X_has10, X_at, or_false, false_or, or_true, true_or, not_true, not_false_iff, Option.isSome_some, isO_d, gI_d, gA_d, pI_d, ne_eq, not_false_eq_true, u2_hi, u2_hj, u2_dyn, u2_dynj, Nat.reduceAdd, mX_r, mX_rD, mX_rDj, mM_r, mX_u, mX_uM, mX_uD, mX_uDj, mM_u, mM_uX, mM_uD, mM_uDj, u2_dd, u2_d0, u2_0d]; exact hng.2.1)
          have hI1 : u2 (mX J I) 36 (clR (I 34) (I 36) (Int32.ofNat g0) (Int32.ofNat td) 0 ng) = mX J I1 := by simp (decide := true) only [I1, isO_s, gI_s, gA_s, gL_s, pI_s, pZ_s, pL_s, aI_s, aL_s, aN_s, aQ_s, sI_s, sL_s, cr, LNs, Option.map_some, Option.map_none, Option.bind_some, b2, tr, lt, if_true, if_false, ckZ, X_within, M_in, inR_z, X_refuse, X_tell, X_deny, X_grant, M_refused, M_denied, M_done, M_granted, u2_same, u2_ne, u2_u2, upd_same, upd_ne, aW0, ixR_z, ixR_1, M_isWall, M_isPainter, M_isWork, X_has4, X_has10, X_at, or_false, false_or, or_true, true_or, not_true, not_false_iff, Option.isSome_some, isO_d, gI_d, gA_d, pI_d, ne_eq, not_false_eq_true, u2_hi, u2_hj, u2_dyn, u2_dynj, Nat.reduceAdd, mX_r, mX_rD, mX_rDj, mM_r, mX_u, mX_uM, mX_uD, mX_uDj, mM_u, mM_uX, mM_uD, mM_uDj, u2_dd, u2_d0, u2_0d]
          rw [mX_r (by decide), mX_r (by decide), hop, hc2, hI1, oN_succ, z3 J fu _ (by omega), Int32.add_assoc] at hcl
          have hcl' : f_X6_goRound_80 (f_X6_goRound_11 fu) FU (ad b 33) (Int32.ofNat td) n (Int32.ofNat (fr - (dN (I 89) s g0 + 10 * c))) (Int32.ofNat g0) (Int32.ofNat tu) (Int32.ofNat g0) 0 (lay b F E (mX J I) L P nx us) = _ := hcl
          have ef : (Int32.ofNat (dN (I 89) s g0 + 10 * c) ≤ Int32.ofNat fr) = True := eq_true (oN_leL hfit (by omega))
          simp (decide := true) only [f_X6_goRound_11, etu, hX J, hm1, hwX J, hoX J, htk, ef, oN_sub hfit, hcl', isO_s, gI_s, gA_s, gL_s, pI_s, pZ_s, pL_s, aI_s, aL_s, aN_s, aQ_s, sI_s, sL_s, cr, LNs, Option.map_some, Option.map_none, Option.bind_some, b2, tr, lt, if_true, if_false, ckZ, X_within, M_in, inR_z, X_refuse, X_tell, X_deny, X_grant, M_refused, M_denied, M_done, M_granted, u2_same, u2_ne, u2_u2, upd_same, upd_ne, aW0, ixR_z, ixR_1, M_isWall, M_isPainter, M_isWork, X_has4, X_has10, X_at, or_false, false_or, or_true, true_or, not_true, not_false_iff, Option.isSome_some, isO_d, gI_d, gA_d, pI_d, ne_eq, not_false_eq_true, u2_hi, u2_hj, u2_dyn, u2_dynj, Nat.reduceAdd, mX_r, mX_rD, mX_rDj, mM_r, mX_u, mX_uM, mX_uD, mX_uDj, mM_u, mM_uX, mM_uD, mM_uDj, u2_dd, u2_d0, u2_0d]
        · intro J fu n g' hfu hg'
          obtain ⟨fu, rfl⟩ : ∃ z, fu = z + 1 := ⟨fu - 1, by omega⟩
          have := hM J g' hg'
          subst this
          have hmn := M_many (b := b) (F := F) (E := E) (L := L) (P := P) (nx := nx) (us := us) (I := mM J I) (g := Int32.ofNat g0) (st := Int32.ofNat s) (re := Int32.ofNat fr) (n := n) (k49 := f_X15_round_49 fu) h100 (by simp (decide := true) only [isO_s, gI_s, gA_s, gL_s, pI_s, pZ_s, pL_s, aI_s, aL_s, aN_s, aQ_s, sI_s, sL_s, cr, LNs, Option.map_some, Option.map_none, Option.bind_some, b2, tr, lt, if_true, if_false, ckZ, X_within, M_in, inR_z, X_refuse, X_tell, X_deny, X_grant, M_refused, M_denied, M_done, M_granted, u2_same, u2_ne, u2_u2, upd_same, upd_ne, aW0, ixR_z, ixR_1, M_isWall, M_isPainter, M_isWork, X_has4, X_has10, X_at, or_false, false_or, or_true, true_or, not_true, not_false_iff, Option.isSome_some, isO_d, gI_d, gA_d, pI_d, ne_eq, not_false_eq_true, u2_hi, u2_hj, u2_dyn, u2_dynj, Nat.reduceAdd, mX_r, mX_rD, mX_rDj, mM_r, mX_u, mX_uM, mX_uD, mX_uDj, mM_u, mM_uX, mM_uD, mM_uDj, u2_dd, u2_d0, u2_0d]; exact hng.2.2)
          rw [mM_r (by decide), mM_r (by decide), hc2] at hmn
          have hcl := M_cleanL (b := b) (F := F) (E := E) (L := L) (P := P) (nx := nx) (us := us) (g := Int32.ofNat g0) (re := Int32.ofNat (fr - (dN (I 89) s g0 + 10 * c))) (n := n) (ma := Int32.ofNat c) (k49 := f_X15_round_49 fu) h100 ng 0 (by omega) (mM J I) FU (by unfold FU; omega) (by simp (decide := true) only [isO_s, gI_s, gA_s, gL_s, pI_s, pZ_s, pL_s, aI_s, aL_s, aN_s, aQ_s, sI_s, sL_s, cr, LNs, Option.map_some, Option.map_none, Option.bind_some, b2, tr, lt, if_true, if_false, ckZ, X_within, M_in, inR_z, X_refuse, X_tell, X_deny, X_grant, M_refused, M_denied, M_done, M_granted, u2_same, u2_ne, u2_u2, upd_same, upd_ne, aW0, ixR_z, ixR_1, M_isWall, M_isPainter, M_isWork, X_has4, X_has10, X_at, or_false, false_or, or_true, true_or, not_true, not_false_iff, Option.isSome_some, isO_d, gI_d, gA_d, pI_d, ne_eq, not_false_eq_true, u2_hi, u2_hj, u2_dyn, u2_dynj, Nat.reduceAdd, mX_r, mX_rD, mX_rDj, mM_r, mX_u, mX_uM, mX_uD, mX_uDj, mM_u, mM_uX, mM_uD, mM_uDj, u2_dd, u2_d0, u2_0d]; exact hng.2.2)
          have hI1 : u2 (mM J I) 141 (clR (I 139) (I 141) (Int32.ofNat g0) (Int32.ofNat td) 0 ng) = mM J I1 := by simp (decide := true) only [I1, isO_s, gI_s, gA_s, gL_s, pI_s, pZ_s, pL_s, aI_s, aL_s, aN_s, aQ_s, sI_s, sL_s, cr, LNs, Option.map_some, Option.map_none, Option.bind_some, b2, tr, lt, if_true, if_false, ckZ, X_within, M_in, inR_z, X_refuse, X_tell, X_deny, X_grant, M_refused, M_denied, M_done, M_granted, u2_same, u2_ne, u2_u2, upd_same, upd_ne, aW0, ixR_z, ixR_1, M_isWall, M_isPainter, M_isWork, X_has4, X_has10, X_at, or_false, false_or, or_true, true_or, not_true, not_false_iff, Option.isSome_some, isO_d, gI_d, gA_d, pI_d, ne_eq, not_false_eq_true, u2_hi, u2_hj, u2_dyn, u2_dynj, Nat.reduceAdd, mX_r, mX_rD, mX_rDj, mM_r, mX_u, mX_uM, mX_uD, mX_uDj, mM_u, mM_uX, mM_uD, mM_uDj, u2_dd, u2_d0, u2_0d]
          rw [mM_r (by decide), mM_r (by decide), mM_r (by decide), htd.2.2, hI1] at hcl
          have hcl' : f_X15_round_139 (f_X15_round_49 fu) FU (ad b 72) (Int32.ofNat (fr - (dN (I 89) s g0 + 10 * c))) n (Int32.ofNat g0) (Int32.ofNat c) 0 (lay b F E (mM J I) L P nx us) = _ := hcl
          obtain ⟨hnw1, hng1, htd1, hW1, hT1⟩ := hQ1
          obtain ⟨g2, y1, y2⟩ := M_nextWall (b := b) (F := F) (E := E) (L := L) (P := P) (nx := nx) (us := us) (I := mM J I1) (x4 := I1 4) (x34 := I1 34) (x35 := I1 35) (x36 := I1 36) (td := td) (s := g0) (nw := nw) (ng := ng) (by rw [mM_r (by decide)]; exact hnw1.2.2) h16 (by rw [mM_r (by decide)]; exact hng1.2.2) h100 (by rw [mM_r (by decide)]; exact hW1) (by rw [mM_r (by decide), mM_r (by decide), mM_r (by decide)]; exact hT1) c1
          rw [mM_r (by decide), mM_r (by decide), mM_r (by decide), mM_r (by decide)] at y2
          have z4 := z4 J fu (n + Int32.ofNat c) g2 (by omega) y2
          have e0 : (0 : Int32) ≤ Int32.ofNat (fr - (dN (I 89) s g0 + 10 * c)) := (oN_le (a := 0) (by decide) (by omega)).mpr (by omega)
          simp (decide := true) only [f_X15_round_49, hm1, hmn, hwM J, htk, oN_sub hfit, e0, hcl', y1, isO_s, gI_s, gA_s, gL_s, pI_s, pZ_s, pL_s, aI_s, aL_s, aN_s, aQ_s, sI_s, sL_s, cr, LNs, Option.map_some, Option.map_none, Option.bind_some, b2, tr, lt, if_true, if_false, ckZ, X_within, M_in, inR_z, X_refuse, X_tell, X_deny, X_grant, M_refused, M_denied, M_granted, u2_same, u2_ne, u2_u2, upd_same, upd_ne, aW0, ixR_z, ixR_1, M_isWall, M_isPainter, M_isWork, X_has4, X_has10, X_at, or_false, false_or, or_true, true_or, not_true, not_false_iff, Option.isSome_some, isO_d, gI_d, gA_d, pI_d, ne_eq, not_false_eq_true, u2_hi, u2_hj, u2_dyn, u2_dynj, Nat.reduceAdd, mX_r, mX_rD, mX_rDj, mM_r, mX_u, mX_uM, mX_uD, mX_uDj, mM_u, mM_uX, mM_uD, mM_uDj, u2_dd, u2_d0, u2_0d]
          rw [z4, Int32.add_assoc]
          rfl
      · -- it doesn't fit
        refine ⟨0, I, hQ0, fun _ _ _ => rfl, ?_, ?_⟩
        · intro J fu n hfu
          obtain ⟨fu, rfl⟩ : ∃ z, fu = z + 1 := ⟨fu - 1, by omega⟩
          have ef := oN_leF (show fr < dN (I 89) s g0 + 10 * c by omega) (by omega)
          simp (decide := true) only [f_X6_goRound_11, etu, hX J, hm1, hwX J, hoX J, htk, ef, Int32.add_zero, isO_s, gI_s, gA_s, gL_s, pI_s, pZ_s, pL_s, aI_s, aL_s, aN_s, aQ_s, sI_s, sL_s, cr, LNs, Option.map_some, Option.map_none, Option.bind_some, b2, tr, lt, if_true, if_false, ckZ, X_within, M_in, inR_z, X_refuse, X_tell, X_deny, X_grant, M_refused, M_denied, M_done, M_granted, u2_same, u2_ne, u2_u2, upd_same, upd_ne, aW0, ixR_z, ixR_1, M_isWall, M_isPainter, M_isWork, X_has4, X_has10, X_at, or_false, false_or, or_true, true_or, not_true, not_false_iff, Option.isSome_some, isO_d, gI_d, gA_d, pI_d, ne_eq, not_false_eq_true, u2_hi, u2_hj, u2_dyn, u2_dynj, Nat.reduceAdd, mX_r, mX_rD, mX_rDj, mM_r, mX_u, mX_uM, mX_uD, mX_uDj, mM_u, mM_uX, mM_uD, mM_uDj, u2_dd, u2_d0, u2_0d]
        · intro J fu n g' hfu hg'
          obtain ⟨fu, rfl⟩ : ∃ z, fu = z + 1 := ⟨fu - 1, by omega⟩
          have := hM J g' hg'
          subst this
          have hmn := M_many (b := b) (F := F) (E := E) (L := L) (P := P) (nx := nx) (us := us) (I := mM J I) (g := Int32.ofNat g0) (st := Int32.ofNat s) (re := Int32.ofNat fr) (n := n) (k49 := f_X15_round_49 fu) h100 (by simp (decide := true) only [isO_s, gI_s, gA_s, gL_s, pI_s, pZ_s, pL_s, aI_s, aL_s, aN_s, aQ_s, sI_s, sL_s, cr, LNs, Option.map_some, Option.map_none, Option.bind_some, b2, tr, lt, if_true, if_false, ckZ, X_within, M_in, inR_z, X_refuse, X_tell, X_deny, X_grant, M_refused, M_denied, M_done, M_granted, u2_same, u2_ne, u2_u2, upd_same, upd_ne, aW0, ixR_z, ixR_1, M_isWall, M_isPainter, M_isWork, X_has4, X_has10, X_at, or_false, false_or, or_true, true_or, not_true, not_false_iff, Option.isSome_some, isO_d, gI_d, gA_d, pI_d, ne_eq, not_false_eq_true, u2_hi, u2_hj, u2_dyn, u2_dynj, Nat.reduceAdd, mX_r, mX_rD, mX_rDj, mM_r, mX_u, mX_uM, mX_uD, mX_uDj, mM_u, mM_uX, mM_uD, mM_uDj, u2_dd, u2_d0, u2_0d]; exact hng.2.2)
          rw [mM_r (by decide), mM_r (by decide), hc2] at hmn
          have e0 : ¬ (0 : Int32) ≤ Int32.ofNat fr - Int32.ofNat (dN (I 89) s g0 + 10 * c) := by
            rw [Int32.le_iff_toInt_le, Int32.toInt_sub, oN_toInt (by omega), oN_toInt (by omega), show (0 : Int32).toInt = 0 from rfl, Int.bmod_eq_of_le (by omega) (by omega)]
            omega
          simp (decide := true) only [f_X15_round_49, hm1, hmn, hwM J, htk, e0, Int32.add_zero, isO_s, gI_s, gA_s, gL_s, pI_s, pZ_s, pL_s, aI_s, aL_s, aN_s, aQ_s, sI_s, sL_s, cr, LNs, Option.map_some, Option.map_none, Option.bind_some, b2, tr, lt, if_true, if_false, ckZ, X_within, M_in, inR_z, X_refuse, X_tell, X_deny, X_grant, M_refused, M_denied, M_granted, u2_same, u2_ne, u2_u2, upd_same, upd_ne, aW0, ixR_z, ixR_1, M_isWall, M_isPainter, M_isWork, X_has4, X_has10, X_at, or_false, false_or, or_true, true_or, not_true, not_false_iff, Option.isSome_some, isO_d, gI_d, gA_d, pI_d, ne_eq, not_false_eq_true, u2_hi, u2_hj, u2_dyn, u2_dynj, Nat.reduceAdd, mX_r, mX_rD, mX_rDj, mM_r, mX_u, mX_uM, mX_uD, mX_uDj, mM_u, mM_uX, mM_uD, mM_uDj, u2_dd, u2_d0, u2_0d]
theorem call_round (p : Int32) {nw ng td : Nat} {q wd hg ow : Nat → Nat} (hT : GTI I) (hA : WA nw q wd hg ow E (P 2)) (hQ : RQ nw ng td I) : RunS b F E L P nx us (f_X11_round (ad b 0) p) (f_X15_round (ad b 72) p) I (fun I2 => GTag ng nw td (I2 34) (I2 35) (I2 36) (I2 139) (I2 140) (I2 141) ∧ Fr I I2 [(0, 16), (72, 0), (72, 1), (72, 2)] [36, 141]) := by
  have hQ0 := hQ
  obtain ⟨hnw, hng, htd, hW, hTg⟩ := hQ
  by_cases hp : (p < 0 ∨ 600 < p)
  · exact Or.inl ⟨2, by decide, -1, u2 I 0 (upd (I 0) 16 2), by (simp (decide := true) only [f_X11_round, hp, isO_s, gI_s, gA_s, gL_s, pI_s, pZ_s, pL_s, aI_s, aL_s, aN_s, aQ_s, sI_s, sL_s, cr, LNs, Option.map_some, Option.map_none, Option.bind_some, b2, tr, lt, if_true, if_false, ckZ, X_within, M_in, inR_z, X_refuse, X_tell, X_deny, X_grant, M_refused, M_denied, M_done, M_granted, u2_same, u2_ne, u2_u2, upd_same, upd_ne, aW0, ixR_z, ixR_1, M_isWall, M_isPainter, M_isWork, X_has4, X_has10, X_at, or_false, false_or, or_true, true_or, not_true, not_false_iff, Option.isSome_some, isO_d, gI_d, gA_d, pI_d, ne_eq, not_false_eq_true, u2_hi, u2_hj, u2_dyn, u2_dynj, Nat.reduceAdd, mX_r, mX_rD, mX_rDj, mM_r, mX_u, mX_uM, mX_uD, mX_uDj, mM_u, mM_uX, mM_uD, mM_uDj, u2_dd, u2_d0, u2_0d]; try exact rfl), by (simp (decide := true) only [f_X15_round_182, f_X15_round_100, f_X15_round_99, f_X15_round, hp, isO_s, gI_s, gA_s, gL_s, pI_s, pZ_s, pL_s, aI_s, aL_s, aN_s, aQ_s, sI_s, sL_s, cr, LNs, Option.map_some, Option.map_none, Option.bind_some, b2, tr, lt, if_true, if_false, ckZ, X_within, M_in, inR_z, X_refuse, X_tell, X_deny, X_grant, M_refused, M_denied, M_done, M_granted, u2_same, u2_ne, u2_u2, upd_same, upd_ne, aW0, ixR_z, ixR_1, M_isWall, M_isPainter, M_isWork, X_has4, X_has10, X_at, or_false, false_or, or_true, true_or, not_true, not_false_iff, Option.isSome_some, isO_d, gI_d, gA_d, pI_d, ne_eq, not_false_eq_true, u2_hi, u2_hj, u2_dyn, u2_dynj, Nat.reduceAdd, mX_r, mX_rD, mX_rDj, mM_r, mX_u, mX_uM, mX_uD, mX_uDj, mM_u, mM_uX, mM_uD, mM_uDj, u2_dd, u2_d0, u2_0d]; try exact rfl)⟩
  by_cases h0 : nw = 0
  · subst h0
    have e1 : I 1 1 = 0 := hnw.2.1
    have e2 : I 72 4 = 0 := hnw.2.2
    exact Or.inl ⟨1, by decide, -1, u2 I 0 (upd (I 0) 16 1), by (simp (decide := true) only [f_X11_round, hp, e1, isO_s, gI_s, gA_s, gL_s, pI_s, pZ_s, pL_s, aI_s, aL_s, aN_s, aQ_s, sI_s, sL_s, cr, LNs, Option.map_some, Option.map_none, Option.bind_some, b2, tr, lt, if_true, if_false, ckZ, X_within, M_in, inR_z, X_refuse, X_tell, X_deny, X_grant, M_refused, M_denied, M_done, M_granted, u2_same, u2_ne, u2_u2, upd_same, upd_ne, aW0, ixR_z, ixR_1, M_isWall, M_isPainter, M_isWork, X_has4, X_has10, X_at, or_false, false_or, or_true, true_or, not_true, not_false_iff, Option.isSome_some, isO_d, gI_d, gA_d, pI_d, ne_eq, not_false_eq_true, u2_hi, u2_hj, u2_dyn, u2_dynj, Nat.reduceAdd, mX_r, mX_rD, mX_rDj, mM_r, mX_u, mX_uM, mX_uD, mX_uDj, mM_u, mM_uX, mM_uD, mM_uDj, u2_dd, u2_d0, u2_0d]; try exact rfl), by (simp (decide := true) only [f_X15_round_182, f_X15_round_100, f_X15_round_99, f_X15_round, hp, e2, isO_s, gI_s, gA_s, gL_s, pI_s, pZ_s, pL_s, aI_s, aL_s, aN_s, aQ_s, sI_s, sL_s, cr, LNs, Option.map_some, Option.map_none, Option.bind_some, b2, tr, lt, if_true, if_false, ckZ, X_within, M_in, inR_z, X_refuse, X_tell, X_deny, X_grant, M_refused, M_denied, M_done, M_granted, u2_same, u2_ne, u2_u2, upd_same, upd_ne, aW0, ixR_z, ixR_1, M_isWall, M_isPainter, M_isWork, X_has4, X_has10, X_at, or_false, false_or, or_true, true_or, not_true, not_false_iff, Option.isSome_some, isO_d, gI_d, gA_d, pI_d, ne_eq, not_false_eq_true, u2_hi, u2_hj, u2_dyn, u2_dynj, Nat.reduceAdd, mX_r, mX_rD, mX_rDj, mM_r, mX_u, mX_uM, mX_uD, mX_uDj, mM_u, mM_uX, mM_uD, mM_uDj, u2_dd, u2_d0, u2_0d]; try exact rfl)⟩
  have h16 := hnw.1
  have z1' : ¬ Int32.ofNat nw = 0 := fun q => h0 ((oN_eq (c := 0) (by omega) (by omega)).mp q)
  obtain ⟨fr, hfr, rfl⟩ := lo_of (n := 600) hp (by decide)
  let I0 : Nat → Nat → Int32 := u2 I 72 (upd (I 72) 0 0)
  have hQ1 : RQ nw ng td I0 := by
    unfold RQ
    simp (decide := true) only [I0, u2_same, u2_ne, u2_u2, upd_same, upd_ne, mE, u2_dyn, dyn_u2, dyn_hi, u2_hi, u2_hj, u2_dynj, u2_dd, u2_d0, u2_0d]
    exact hQ0
  obtain ⟨v, I2, y1, y2, y3, y4⟩ := rounds (b := b) (F := F) (E := E) (L := L) (P := P) (nx := nx) (us := us) hA 16 0 (by omega) I0 0 fr (by omega) hfr hQ1 ⟨List.range nw, by simp; exact h16, fun k hk _ => by
    have r : I0 139 = I 139 := by simp (decide := true) only [I0, u2_same, u2_ne, u2_u2, upd_same, upd_ne, mE, u2_dyn, dyn_u2, dyn_hi, u2_hi, u2_hj, u2_dynj, u2_dd, u2_d0, u2_0d]
    rw [r, List.mem_range]
    exact (hTg.n h16 hk).1⟩
  have y3 := y3 I FU 0 (by unfold FU; omega)
  rw [Int32.zero_add] at y3
  have hx : mX I I0 = I := by
    show mX I (u2 I 72 _) = I
    rw [mX_uM (by decide), mX_id]
  rw [hx] at y3
  have y3' : f_X6_goRound_11 FU (ad b 33) (Int32.ofNat td) 0 (Int32.ofNat fr) 0 0 (lay b F E I L P nx us) = _ := y3
  obtain ⟨hnw1, hng1, htd1, hW1, hT1⟩ := hQ1
  obtain ⟨g, u1, u2'⟩ := M_nextWall (b := b) (F := F) (E := E) (L := L) (P := P) (nx := nx) (us := us) (I := mM (u2 (mX I I2) 0 (upd (I2 0) 16 0)) I0) (x4 := I0 4) (x34 := I0 34) (x35 := I0 35) (x36 := I0 36) (td := td) (s := 0) (nw := nw) (ng := ng) (by rw [mM_r (by decide)]; exact hnw1.2.2) h16 (by rw [mM_r (by decide)]; exact hng1.2.2) hng.1 (by rw [mM_r (by decide)]; exact hW1) (by rw [mM_r (by decide), mM_r (by decide), mM_r (by decide)]; exact hT1) (by omega)
  rw [mM_r (by decide), mM_r (by decide), mM_r (by decide), mM_r (by decide)] at u2'
  have y4 := y4 (u2 (mX I I2) 0 (upd (I2 0) 16 0)) FU 0 g (by unfold FU; omega) u2'
  have hm : mM (u2 (mX I I2) 0 (upd (I2 0) 16 0)) I0 = u2 (u2 (mX I I2) 0 (upd (I2 0) 16 0)) 72 (upd (I 72) 0 0) := mix_m
  rw [hm, mix_2, Int32.zero_add] at y4
  rw [hm] at u1
  have y4' : f_X15_round_49 FU (ad b 72) 0 (Int32.ofNat fr) 0 g _ = _ := y4
  have u1' : f_X15_nextWall (ad b 72) 0 _ = _ := u1
  have r0 : I2 0 = I 0 := by rw [y2 0 (by decide) (by decide)]; simp (decide := true) only [I0, u2_same, u2_ne, u2_u2, upd_same, upd_ne, mE, u2_dyn, dyn_u2, dyn_hi, u2_hi, u2_hj, u2_dynj, u2_dd, u2_d0, u2_0d]
  have r72 : I2 72 = upd (I 72) 0 0 := by rw [y2 72 (by decide) (by decide)]; simp (decide := true) only [I0, u2_same, u2_ne, u2_u2, upd_same, upd_ne, mE, u2_dyn, dyn_u2, dyn_hi, u2_hi, u2_hj, u2_dynj, u2_dd, u2_d0, u2_0d]
  have hmx : mX I I2 72 = I 72 := if_pos (by decide)
  refine Or.inr ⟨u2 (u2 I2 0 (upd (I2 0) 16 0)) 72 (mE (I2 72) 0), ⟨v, u2 (mX I I2) 0 (upd (I2 0) 16 0), ?_, ?_⟩, ?_, ?_, ?_⟩
  · simp (decide := true) only [f_X11_round, f_X6_goRound_114, f_X6_goRound, hp, hnw.2.1, z1', htd.2.1, y3', isO_s, gI_s, gA_s, gL_s, pI_s, pZ_s, pL_s, aI_s, aL_s, aN_s, aQ_s, sI_s, sL_s, cr, LNs, Option.map_some, Option.map_none, Option.bind_some, b2, tr, lt, if_true, if_false, ckZ, X_within, M_in, inR_z, X_refuse, X_tell, X_deny, X_grant, M_refused, M_denied, M_done, M_granted, u2_same, u2_ne, u2_u2, upd_same, upd_ne, aW0, ixR_z, ixR_1, M_isWall, M_isPainter, M_isWork, X_has4, X_has10, X_at, or_false, false_or, or_true, true_or, not_true, not_false_iff, Option.isSome_some, isO_d, gI_d, gA_d, pI_d, ne_eq, not_false_eq_true, u2_hi, u2_hj, u2_dyn, u2_dynj, Nat.reduceAdd, mX_r, mX_rD, mX_rDj, mM_r, mX_u, mX_uM, mX_uD, mX_uDj, mM_u, mM_uX, mM_uD, mM_uDj, u2_dd, u2_d0, u2_0d]
  · simp (decide := true) only [f_X15_round_182, f_X15_round_100, f_X15_round_99, f_X15_round, hp, hmx, hnw.2.2, z1', u1', y4', isO_s, gI_s, gA_s, gL_s, pI_s, pZ_s, pL_s, aI_s, aL_s, aN_s, aQ_s, sI_s, sL_s, cr, LNs, Option.map_some, Option.map_none, Option.bind_some, b2, tr, lt, if_true, if_false, ckZ, X_within, M_in, inR_z, X_refuse, X_tell, X_deny, X_grant, M_refused, M_denied, M_done, M_granted, u2_same, u2_ne, u2_u2, upd_same, upd_ne, aW0, ixR_z, ixR_1, M_isWall, M_isPainter, M_isWork, X_has4, X_has10, X_at, or_false, false_or, or_true, true_or, not_true, not_false_iff, Option.isSome_some, isO_d, gI_d, gA_d, pI_d, ne_eq, not_false_eq_true, u2_hi, u2_hj, u2_dyn, u2_dynj, Nat.reduceAdd, mX_r, mX_rD, mX_rDj, mM_r, mX_u, mX_uM, mX_uD, mX_uDj, mM_u, mM_uX, mM_uD, mM_uDj, u2_dd, u2_d0, u2_0d]
  · simp (decide := true) only [GTI, u2_same, u2_ne, u2_u2, upd_same, upd_ne, mE, u2_dyn, dyn_u2, dyn_hi, u2_hi, u2_hj, u2_dynj, u2_dd, u2_d0, u2_0d]
    rw [r0, r72]
    simp (decide := true) only [u2_same, u2_ne, u2_u2, upd_same, upd_ne, mE, u2_dyn, dyn_u2, dyn_hi, u2_hi, u2_hj, u2_dynj, u2_dd, u2_d0, u2_0d]
    exact GT_end hT (by decide)
  · simp (decide := true) only [u2_same, u2_ne, u2_u2, upd_same, upd_ne, mE, u2_dyn, dyn_u2, dyn_hi, u2_hi, u2_hj, u2_dynj, u2_dd, u2_d0, u2_0d]
    exact y1.2.2.2.2
  · intro c k k1 k2
    simp at k1 k2
    by_cases q0 : c = 0
    · subst q0
      simp (decide := true) only [u2_same, u2_ne, u2_u2, upd_same, upd_ne, mE, u2_dyn, dyn_u2, dyn_hi, u2_hi, u2_hj, u2_dynj, u2_dd, u2_d0, u2_0d]
      rw [r0]
      exact upd_ne (by omega)
    · by_cases q1 : c = 72
      · subst q1
        simp (decide := true) only [u2_same, u2_ne, u2_u2, upd_same, upd_ne, mE, u2_dyn, dyn_u2, dyn_hi, u2_hi, u2_hj, u2_dynj, u2_dd, u2_d0, u2_0d]
        rw [r72]
        unfold upd
        rw [if_neg (by omega), if_neg (by omega), if_neg (by omega)]
      · rw [u2_ne q1, u2_ne q0, y2 c (by omega) (by omega)]
        show u2 I 72 _ c k = _
        rw [u2_ne q1]
end RND3
