/-! ===== give: a like work outside, the reference ===== -/
def LWm (nw nk np : Nat) (m82 m124 : RW) : Prop := ∀ j, j < nw → m82 j = -1 ∨ ∃ k p, k < nk ∧ p < np ∧ m82 j = Int32.ofNat k ∧ m124 k = Int32.ofNat p
section GIV7
variable {b : Nat} {F : Nat → Option AE} {D E : Nat → Option KD} {I : Nat → Nat → Int32} {L : Nat → Nat → Int64} {P : Nat → Nat → Option Nat} {nx us : Nat}
theorem M_out0 {nw p0 at0 : Nat} (hn : I 72 4 = Int32.ofNat nw) (h16 : nw ≤ 16) : ∀ (m i : Nat), i + m = nw → ∀ fu, m < fu → f_X15_mayHave_117 fu (ad b 72) (Int32.ofNat p0) (Int32.ofNat at0) 0 (Int32.ofNat i) (lay b F E I L P nx us) = some (0, (lay b F E I L P nx us)) := by
  intro m
  induction m with
  | zero =>
    intro i hi fu hf
    obtain ⟨fu, rfl⟩ : ∃ f, fu = f + 1 := ⟨fu - 1, by omega⟩
    have : i = nw := by omega
    subst this
    simp (decide := true) only [f_X15_mayHave_117, hn, Int32.le_refl, isO_s, gI_s, gA_s, gL_s, pI_s, pZ_s, pL_s, aI_s, aL_s, aN_s, aQ_s, sI_s, sL_s, cr, LNs, Option.map_some, Option.map_none, Option.bind_some, b2, tr, lt, if_true, if_false, ckZ, X_within, M_in, inR_z, X_refuse, X_tell, X_deny, X_grant, M_refused, M_denied, M_done, M_granted, u2_same, u2_ne, u2_u2, upd_same, upd_ne, aW0, ixR_z, ixR_1, M_isWall, M_isPainter, M_isWork, X_has4, X_has10, X_at, or_false, false_or, or_true, true_or, not_true, not_false_iff, Option.isSome_some, isO_d, gI_d, gA_d, pI_d, ne_eq, not_false_eq_true, u2_hi, u2_hj, u2_dyn, u2_dynj, Nat.reduceAdd, mX_r, mX_rD, mX_rDj, mM_r, mX_u, mX_uM, mX_uD, mX_uDj, mM_u, mM_uX, mM_uD, mM_uDj, u2_dd, u2_d0, u2_0d]
  | succ m ih =>
    intro i hi fu hf
    obtain ⟨fu, rfl⟩ : ∃ f, fu = f + 1 := ⟨fu - 1, by omega⟩
    have e2 := oN_leF (show i < nw by omega) (by omega)
    have ih' := ih (i + 1) (by omega) fu (by omega)
    simp (decide := true) only [f_X15_mayHave_117, f_X15_mayHave_200, f_X15_mayHave_201, hn, e2, oN_succ, ih', isO_s, gI_s, gA_s, gL_s, pI_s, pZ_s, pL_s, aI_s, aL_s, aN_s, aQ_s, sI_s, sL_s, cr, LNs, Option.map_some, Option.map_none, Option.bind_some, b2, tr, lt, if_true, if_false, ckZ, X_within, M_in, inR_z, X_refuse, X_tell, X_deny, X_grant, M_refused, M_denied, M_done, M_granted, u2_same, u2_ne, u2_u2, upd_same, upd_ne, aW0, ixR_z, ixR_1, M_isWall, M_isPainter, M_isWork, X_has4, X_has10, X_at, or_false, false_or, or_true, true_or, not_true, not_false_iff, Option.isSome_some, isO_d, gI_d, gA_d, pI_d, ne_eq, not_false_eq_true, u2_hi, u2_hj, u2_dyn, u2_dynj, Nat.reduceAdd, mX_r, mX_rD, mX_rDj, mM_r, mX_u, mX_uM, mX_uD, mX_uDj, mM_u, mM_uX, mM_uD, mM_uDj, u2_dd, u2_d0, u2_0d]
theorem M_out {s nw nk np n p0 at0 : Nat} {ak : Nat → Nat} (hn : I 72 4 = Int32.ofNat nw) (h16 : nw ≤ 16) (hk4 : nk ≤ 40) (hp1 : np ≤ 10) (hn6 : n ≤ 6) (hnn : I 72 72 = Int32.ofNat n) (hK : AK s nw n ak) (hak : ∀ k, k < n → I 118 k = Int32.ofNat (ak k)) (hL : LWm nw nk np (I 82) (I 124)) (hp0 : p0 < np) (hat : at0 < n) : ∀ (m i : Nat), i + m = nw → ∀ fu, m < fu → ((∃ j, i ≤ j ∧ j < nw ∧ likeAt s nk np (I 82) (I 85) (I 111) (I 124) (ak at0) (I 111 p0) j) → f_X15_mayHave_117 fu (ad b 72) (Int32.ofNat p0) (Int32.ofNat at0) 1 (Int32.ofNat i) (lay b F E I L P nx us) = some (0, (lay b F E I L P nx us))) ∧ ((¬ ∃ j, i ≤ j ∧ j < nw ∧ likeAt s nk np (I 82) (I 85) (I 111) (I 124) (ak at0) (I 111 p0) j) → f_X15_mayHave_117 fu (ad b 72) (Int32.ofNat p0) (Int32.ofNat at0) 1 (Int32.ofNat i) (lay b F E I L P nx us) = some (1, (lay b F E I L P nx us))) := by
  have e6 : iN (Int32.ofNat at0) 6 = some at0 := iN_oN (by omega) (by omega)
  have e10 : iN (Int32.ofNat p0) 10 = some p0 := iN_oN (by omega) (by omega)
  have hwa := (hK.1 at0 hat).1
  intro m
  induction m with
  | zero =>
    intro i hi fu hf
    obtain ⟨fu, rfl⟩ : ∃ f, fu = f + 1 := ⟨fu - 1, by omega⟩
    have : i = nw := by omega
    subst this
    refine ⟨fun ⟨k, h1, h2, _⟩ => absurd h1 (by omega), fun _ => ?_⟩
    simp (decide := true) only [f_X15_mayHave_117, hn, Int32.le_refl, isO_s, gI_s, gA_s, gL_s, pI_s, pZ_s, pL_s, aI_s, aL_s, aN_s, aQ_s, sI_s, sL_s, cr, LNs, Option.map_some, Option.map_none, Option.bind_some, b2, tr, lt, if_true, if_false, ckZ, X_within, M_in, inR_z, X_refuse, X_tell, X_deny, X_grant, M_refused, M_denied, M_done, M_granted, u2_same, u2_ne, u2_u2, upd_same, upd_ne, aW0, ixR_z, ixR_1, M_isWall, M_isPainter, M_isWork, X_has4, X_has10, X_at, or_false, false_or, or_true, true_or, not_true, not_false_iff, Option.isSome_some, isO_d, gI_d, gA_d, pI_d, ne_eq, not_false_eq_true, u2_hi, u2_hj, u2_dyn, u2_dynj, Nat.reduceAdd, mX_r, mX_rD, mX_rDj, mM_r, mX_u, mX_uM, mX_uD, mX_uDj, mM_u, mM_uX, mM_uD, mM_uDj, u2_dd, u2_d0, u2_0d]
  | succ m ih =>
    intro i hi fu hf
    obtain ⟨fu, rfl⟩ : ∃ f, fu = f + 1 := ⟨fu - 1, by omega⟩
    have hin : i < nw := by omega
    have e2 := oN_leF hin (by omega)
    have e3 : iN (Int32.ofNat i) 16 = some i := iN_oN (by omega) (by omega)
    have e4 : iN (Int32.ofNat (16 * ak at0 + i)) 256 = some (16 * ak at0 + i) := iN_oN (by omega) (by omega)
    have ham := M_among (b := b) (F := F) (E := E) (L := L) (P := P) (nx := nx) (us := us) (I := I) h16 hn6 hnn hin hK hak
    obtain ⟨i1, i2⟩ := ih (i + 1) (by omega) fu (by omega)
    have fin : f_X15_mayHave_117 (fu + 1) (ad b 72) (Int32.ofNat p0) (Int32.ofNat at0) 1 (Int32.ofNat i) (lay b F E I L P nx us) = f_X15_mayHave_117 fu (ad b 72) (Int32.ofNat p0) (Int32.ofNat at0) 1 (Int32.ofNat (i + 1)) (lay b F E I L P nx us) → ¬ likeAt s nk np (I 82) (I 85) (I 111) (I 124) (ak at0) (I 111 p0) i → ((∃ j, i ≤ j ∧ j < nw ∧ likeAt s nk np (I 82) (I 85) (I 111) (I 124) (ak at0) (I 111 p0) j) → f_X15_mayHave_117 (fu + 1) (ad b 72) (Int32.ofNat p0) (Int32.ofNat at0) 1 (Int32.ofNat i) (lay b F E I L P nx us) = some (0, (lay b F E I L P nx us))) ∧ ((¬ ∃ j, i ≤ j ∧ j < nw ∧ likeAt s nk np (I 82) (I 85) (I 111) (I 124) (ak at0) (I 111 p0) j) → f_X15_mayHave_117 (fu + 1) (ad b 72) (Int32.ofNat p0) (Int32.ofNat at0) 1 (Int32.ofNat i) (lay b F E I L P nx us) = some (1, (lay b F E I L P nx us))) := by
      intro e hnot
      rw [e]
      refine ⟨?_, ?_⟩
      · rintro ⟨j, j1, j2, j3⟩
        have : j ≠ i := fun q => hnot (q ▸ j3)
        exact i1 ⟨j, by omega, j2, j3⟩
      · intro hq
        exact i2 fun ⟨j, j1, j2, j3⟩ => hq ⟨j, by omega, j2, j3⟩
    by_cases hm : I 85 (16 * ak at0 + i) = 0
    · refine fin ?_ (fun q => q.2.1 hm)
      simp (decide := true) only [f_X15_mayHave_117, f_X15_mayHave_196, f_X15_mayHave_200, f_X15_mayHave_201, hn, e2, e3, e4, e6, hak at0 hat, ix16, hm, oN_succ, isO_s, gI_s, gA_s, gL_s, pI_s, pZ_s, pL_s, aI_s, aL_s, aN_s, aQ_s, sI_s, sL_s, cr, LNs, Option.map_some, Option.map_none, Option.bind_some, b2, tr, lt, if_true, if_false, ckZ, X_within, M_in, inR_z, X_refuse, X_tell, X_deny, X_grant, M_refused, M_denied, M_done, M_granted, u2_same, u2_ne, u2_u2, upd_same, upd_ne, aW0, ixR_z, ixR_1, M_isWall, M_isPainter, M_isWork, X_has4, X_has10, X_at, or_false, false_or, or_true, true_or, not_true, not_false_iff, Option.isSome_some, isO_d, gI_d, gA_d, pI_d, ne_eq, not_false_eq_true, u2_hi, u2_hj, u2_dyn, u2_dynj, Nat.reduceAdd, mX_r, mX_rD, mX_rDj, mM_r, mX_u, mX_uM, mX_uD, mX_uDj, mM_u, mM_uX, mM_uD, mM_uDj, u2_dd, u2_d0, u2_0d]
    rcases hL i hin with l3 | ⟨k, p, k1, p1, l1, l2⟩
    · refine fin ?_ ?_
      · simp (decide := true) only [f_X15_mayHave_117, f_X15_mayHave_196, f_X15_mayHave_200, f_X15_mayHave_201, hn, e2, e3, e4, e6, hak at0 hat, ix16, hm, l3, oN_succ, isO_s, gI_s, gA_s, gL_s, pI_s, pZ_s, pL_s, aI_s, aL_s, aN_s, aQ_s, sI_s, sL_s, cr, LNs, Option.map_some, Option.map_none, Option.bind_some, b2, tr, lt, if_true, if_false, ckZ, X_within, M_in, inR_z, X_refuse, X_tell, X_deny, X_grant, M_refused, M_denied, M_done, M_granted, u2_same, u2_ne, u2_u2, upd_same, upd_ne, aW0, ixR_z, ixR_1, M_isWall, M_isPainter, M_isWork, X_has4, X_has10, X_at, or_false, false_or, or_true, true_or, not_true, not_false_iff, Option.isSome_some, isO_d, gI_d, gA_d, pI_d, ne_eq, not_false_eq_true, u2_hi, u2_hj, u2_dyn, u2_dynj, Nat.reduceAdd, mX_r, mX_rD, mX_rDj, mM_r, mX_u, mX_uM, mX_uD, mX_uDj, mM_u, mM_uX, mM_uD, mM_uDj, u2_dd, u2_d0, u2_0d]
      · rintro ⟨-, -, k, p, k1, -, l4, -⟩
        exact (oN_m12 k (by omega)).2 (l4.symm.trans l3)
    have n2 := (oN_m12 k (by omega)).2
    have a3 : iN (Int32.ofNat k) 40 = some k := iN_oN (by omega) (by omega)
    have a6 : iN (Int32.ofNat p) 10 = some p := iN_oN (by omega) (by omega)
    by_cases hb : s.testBit i = true
    · rw [if_pos hb] at ham
      refine fin ?_ (fun q => by have := q.1; rw [hb] at this; cases this)
      simp (decide := true) only [f_X15_mayHave_117, f_X15_mayHave_196, f_X15_mayHave_200, f_X15_mayHave_201, hn, e2, e3, e4, e6, hak at0 hat, ix16, hm, l1, n2, ham, oN_succ, isO_s, gI_s, gA_s, gL_s, pI_s, pZ_s, pL_s, aI_s, aL_s, aN_s, aQ_s, sI_s, sL_s, cr, LNs, Option.map_some, Option.map_none, Option.bind_some, b2, tr, lt, if_true, if_false, ckZ, X_within, M_in, inR_z, X_refuse, X_tell, X_deny, X_grant, M_refused, M_denied, M_done, M_granted, u2_same, u2_ne, u2_u2, upd_same, upd_ne, aW0, ixR_z, ixR_1, M_isWall, M_isPainter, M_isWork, X_has4, X_has10, X_at, or_false, false_or, or_true, true_or, not_true, not_false_iff, Option.isSome_some, isO_d, gI_d, gA_d, pI_d, ne_eq, not_false_eq_true, u2_hi, u2_hj, u2_dyn, u2_dynj, Nat.reduceAdd, mX_r, mX_rD, mX_rDj, mM_r, mX_u, mX_uM, mX_uD, mX_uDj, mM_u, mM_uX, mM_uD, mM_uDj, u2_dd, u2_d0, u2_0d]
    · rw [if_neg hb] at ham
      have hb' : s.testBit i = false := by revert hb; cases s.testBit i <;> decide
      by_cases hst : I 111 p = I 111 p0
      · have hrun : f_X15_mayHave_117 (fu + 1) (ad b 72) (Int32.ofNat p0) (Int32.ofNat at0) 1 (Int32.ofNat i) (lay b F E I L P nx us) = some (0, (lay b F E I L P nx us)) := by
          have h0 := M_out0 (b := b) (F := F) (E := E) (L := L) (P := P) (nx := nx) (us := us) (I := I) (p0 := p0) (at0 := at0) hn h16 m (i + 1) (by omega) fu (by omega)
          simp (decide := true) only [f_X15_mayHave_117, f_X15_mayHave_196, f_X15_mayHave_200, f_X15_mayHave_201, hn, e2, e3, e4, e6, e10, hak at0 hat, ix16, hm, l1, l2, n2, a3, a6, ham, hst, oN_succ, h0, isO_s, gI_s, gA_s, gL_s, pI_s, pZ_s, pL_s, aI_s, aL_s, aN_s, aQ_s, sI_s, sL_s, cr, LNs, Option.map_some, Option.map_none, Option.bind_some, b2, tr, lt, if_true, if_false, ckZ, X_within, M_in, inR_z, X_refuse, X_tell, X_deny, X_grant, M_refused, M_denied, M_done, M_granted, u2_same, u2_ne, u2_u2, upd_same, upd_ne, aW0, ixR_z, ixR_1, M_isWall, M_isPainter, M_isWork, X_has4, X_has10, X_at, or_false, false_or, or_true, true_or, not_true, not_false_iff, Option.isSome_some, isO_d, gI_d, gA_d, pI_d, ne_eq, not_false_eq_true, u2_hi, u2_hj, u2_dyn, u2_dynj, Nat.reduceAdd, mX_r, mX_rD, mX_rDj, mM_r, mX_u, mX_uM, mX_uD, mX_uDj, mM_u, mM_uX, mM_uD, mM_uDj, u2_dd, u2_d0, u2_0d]
        exact ⟨fun _ => hrun, fun hq => absurd ⟨i, Nat.le_refl _, hin, hb', hm, k, p, k1, p1, l1, l2, hst⟩ hq⟩
      · refine fin ?_ ?_
        · simp (decide := true) only [f_X15_mayHave_117, f_X15_mayHave_196, f_X15_mayHave_200, f_X15_mayHave_201, hn, e2, e3, e4, e6, e10, hak at0 hat, ix16, hm, l1, l2, n2, a3, a6, ham, hst, oN_succ, isO_s, gI_s, gA_s, gL_s, pI_s, pZ_s, pL_s, aI_s, aL_s, aN_s, aQ_s, sI_s, sL_s, cr, LNs, Option.map_some, Option.map_none, Option.bind_some, b2, tr, lt, if_true, if_false, ckZ, X_within, M_in, inR_z, X_refuse, X_tell, X_deny, X_grant, M_refused, M_denied, M_done, M_granted, u2_same, u2_ne, u2_u2, upd_same, upd_ne, aW0, ixR_z, ixR_1, M_isWall, M_isPainter, M_isWork, X_has4, X_has10, X_at, or_false, false_or, or_true, true_or, not_true, not_false_iff, Option.isSome_some, isO_d, gI_d, gA_d, pI_d, ne_eq, not_false_eq_true, u2_hi, u2_hj, u2_dyn, u2_dynj, Nat.reduceAdd, mX_r, mX_rD, mX_rDj, mM_r, mX_u, mX_uM, mX_uD, mX_uDj, mM_u, mM_uX, mM_uD, mM_uDj, u2_dd, u2_d0, u2_0d]
        · rintro ⟨-, -, k', p', k1', p1', l1', l2', hst'⟩
          have ek : k' = k := (oN_eq (by omega) (by omega)).mp (l1'.symm.trans l1)
          subst ek
          have ep : p' = p := (oN_eq (by omega) (by omega)).mp (l2'.symm.trans l2)
          subst ep
          exact hst hst'
end GIV7
