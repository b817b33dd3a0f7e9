/-! ===== gets, the call ===== -/
theorem ix8 {r : Nat} : Int32.ofNat r * 8 = Int32.ofNat (8 * r) := by rw [show (8 : Int32) = Int32.ofNat 8 from rfl, oN_mul, Nat.mul_comm]
theorem in_pred {p : Int32} {n : Nat} (hn : n < 2147483648) : (p < 0 ∨ Int32.ofNat n - 1 < p) ↔ (p < 0 ∨ Int32.ofNat n ≤ p) := by
  by_cases h0 : p < 0
  · exact ⟨fun _ => Or.inl h0, fun _ => Or.inl h0⟩
  obtain ⟨w, hw, rfl⟩ := nn_oN h0
  have e1 : (Int32.ofNat n ≤ Int32.ofNat w) ↔ n ≤ w := oN_le hn hw
  rw [e1]
  cases n with
  | zero =>
    refine ⟨fun _ => Or.inr (Nat.zero_le _), fun _ => Or.inr ?_⟩
    rw [Int32.lt_iff_toInt_lt, oN_toInt hw]
    have : (Int32.ofNat 0 - 1).toInt = -1 := by decide
    omega
  | succ n =>
    rw [oN_pred]
    constructor
    · rintro (h | h)
      · exact absurd h h0
      · rw [Int32.lt_iff_toInt_lt, oN_toInt hw, oN_toInt (by omega)] at h
        exact Or.inr (by omega)
    · rintro (h | h)
      · exact absurd h h0
      · refine Or.inr ?_
        rw [Int32.lt_iff_toInt_lt, oN_toInt hw, oN_toInt (by omega)]
        omega
section GETC
variable {b : Nat} {F : Nat → Option AE} {D E : Nat → Option KD} {I : Nat → Nat → Int32} {L : Nat → Nat → Int64} {P : Nat → Nat → Option Nat} {nx us : Nat}
theorem call_gets (p f w : Int32) {nr : Nat} {rc : Nat → Nat} (hn : Cn nr 8 (I 54 1) (I 72 103)) (hG : GRt nr rc E (P 144) I) : ∃ x : Int32, x ≠ 4 ∧ Run b F E L P nx us (f_X11_gets (ad b 0) p f w) (f_X15_gets (ad b 72) p f w) I (rf I x) := by
  obtain ⟨h1, h2, h3⟩ := hn
  rcases ixc p (n := nr) (by omega) with h | ⟨r, hr, rfl⟩
  · have h4 := (in_pred (p := p) (n := nr) (by omega)).mpr h
    refine ⟨1, by decide, -1, u2 I 0 (upd (I 0) 16 1), by (simp (decide := true) only [f_X11_gets_43, f_X11_gets, h2, h4, isO_s, gI_s, gA_s, gL_s, pI_s, pZ_s, pL_s, aI_s, aL_s, aN_s, aQ_s, sI_s, sL_s, cr, LNs, Option.map_some, Option.map_none, Option.bind_some, b2, tr, lt, if_true, if_false, ckZ, X_within, M_in, inR_z, X_refuse, X_tell, X_deny, X_grant, M_refused, M_denied, M_done, M_granted, u2_same, u2_ne, u2_u2, upd_same, upd_ne, aW0, ixR_z, ixR_1, M_isWall, M_isPainter, M_isWork, X_has4, X_has10, X_at, or_false, false_or, or_true, true_or, not_true, not_false_iff, Option.isSome_some, isO_d, gI_d, gA_d, pI_d, ne_eq, not_false_eq_true, u2_hi, u2_hj, u2_dyn, u2_dynj, Nat.reduceAdd, mX_r, mX_rD, mX_rDj, mM_r, mX_u, mX_uM, mX_uD, mX_uDj, mM_u, mM_uX, mM_uD, mM_uDj, u2_dd, u2_d0, u2_0d]; try exact rfl), ?_⟩
    by_cases h5 : p < 0
    · (simp (decide := true) only [f_X15_gets, f_X15_gets_17, h5, isO_s, gI_s, gA_s, gL_s, pI_s, pZ_s, pL_s, aI_s, aL_s, aN_s, aQ_s, sI_s, sL_s, cr, LNs, Option.map_some, Option.map_none, Option.bind_some, b2, tr, lt, if_true, if_false, ckZ, X_within, M_in, inR_z, X_refuse, X_tell, X_deny, X_grant, M_refused, M_denied, M_done, M_granted, u2_same, u2_ne, u2_u2, upd_same, upd_ne, aW0, ixR_z, ixR_1, M_isWall, M_isPainter, M_isWork, X_has4, X_has10, X_at, or_false, false_or, or_true, true_or, not_true, not_false_iff, Option.isSome_some, isO_d, gI_d, gA_d, pI_d, ne_eq, not_false_eq_true, u2_hi, u2_hj, u2_dyn, u2_dynj, Nat.reduceAdd, mX_r, mX_rD, mX_rDj, mM_r, mX_u, mX_uM, mX_uD, mX_uDj, mM_u, mM_uX, mM_uD, mM_uDj, u2_dd, u2_d0, u2_0d]; try exact rfl)
    · have h6 := h.resolve_left h5
      (simp (decide := true) only [f_X15_gets, f_X15_gets_17, h5, h3, Int32.not_lt.mpr h6, isO_s, gI_s, gA_s, gL_s, pI_s, pZ_s, pL_s, aI_s, aL_s, aN_s, aQ_s, sI_s, sL_s, cr, LNs, Option.map_some, Option.map_none, Option.bind_some, b2, tr, lt, if_true, if_false, ckZ, X_within, M_in, inR_z, X_refuse, X_tell, X_deny, X_grant, M_refused, M_denied, M_done, M_granted, u2_same, u2_ne, u2_u2, upd_same, upd_ne, aW0, ixR_z, ixR_1, M_isWall, M_isPainter, M_isWork, X_has4, X_has10, X_at, or_false, false_or, or_true, true_or, not_true, not_false_iff, Option.isSome_some, isO_d, gI_d, gA_d, pI_d, ne_eq, not_false_eq_true, u2_hi, u2_hj, u2_dyn, u2_dynj, Nat.reduceAdd, mX_r, mX_rD, mX_rDj, mM_r, mX_u, mX_uM, mX_uD, mX_uDj, mM_u, mM_uX, mM_uD, mM_uDj, u2_dd, u2_d0, u2_0d]; try exact rfl)
  have e1 := oN_neg (w := r) (by omega)
  have e4 := oN_ltT hr (by omega)
  have hin : ¬ (Int32.ofNat r < 0 ∨ Int32.ofNat nr - 1 < Int32.ofNat r) := by
    rw [in_pred (by omega), e1, oN_leF hr (by omega)]
    exact fun q => q.elim (fun q => q) (fun q => q)
  have hin0 : (Int32.ofNat nr - 1 < Int32.ofNat r) = False := eq_false fun q => hin (Or.inr q)
  by_cases hf : (f < 0 ∨ 1000000 < f)
  · exact ⟨2, by decide, -1, u2 I 0 (upd (I 0) 16 2), by (simp (decide := true) only [f_X11_gets_43, f_X11_gets, h2, e1, hin0, hf, isO_s, gI_s, gA_s, gL_s, pI_s, pZ_s, pL_s, aI_s, aL_s, aN_s, aQ_s, sI_s, sL_s, cr, LNs, Option.map_some, Option.map_none, Option.bind_some, b2, tr, lt, if_true, if_false, ckZ, X_within, M_in, inR_z, X_refuse, X_tell, X_deny, X_grant, M_refused, M_denied, M_done, M_granted, u2_same, u2_ne, u2_u2, upd_same, upd_ne, aW0, ixR_z, ixR_1, M_isWall, M_isPainter, M_isWork, X_has4, X_has10, X_at, or_false, false_or, or_true, true_or, not_true, not_false_iff, Option.isSome_some, isO_d, gI_d, gA_d, pI_d, ne_eq, not_false_eq_true, u2_hi, u2_hj, u2_dyn, u2_dynj, Nat.reduceAdd, mX_r, mX_rD, mX_rDj, mM_r, mX_u, mX_uM, mX_uD, mX_uDj, mM_u, mM_uX, mM_uD, mM_uDj, u2_dd, u2_d0, u2_0d]; try exact rfl), by (simp (decide := true) only [f_X15_gets, f_X15_gets_17, f_X15_gets_42, h3, e1, e4, hf, isO_s, gI_s, gA_s, gL_s, pI_s, pZ_s, pL_s, aI_s, aL_s, aN_s, aQ_s, sI_s, sL_s, cr, LNs, Option.map_some, Option.map_none, Option.bind_some, b2, tr, lt, if_true, if_false, ckZ, X_within, M_in, inR_z, X_refuse, X_tell, X_deny, X_grant, M_refused, M_denied, M_done, M_granted, u2_same, u2_ne, u2_u2, upd_same, upd_ne, aW0, ixR_z, ixR_1, M_isWall, M_isPainter, M_isWork, X_has4, X_has10, X_at, or_false, false_or, or_true, true_or, not_true, not_false_iff, Option.isSome_some, isO_d, gI_d, gA_d, pI_d, ne_eq, not_false_eq_true, u2_hi, u2_hj, u2_dyn, u2_dynj, Nat.reduceAdd, mX_r, mX_rD, mX_rDj, mM_r, mX_u, mX_uM, mX_uD, mX_uDj, mM_u, mM_uX, mM_uD, mM_uDj, u2_dd, u2_d0, u2_0d]; try exact rfl)⟩
  by_cases hw : (w < 0 ∨ 3 < w)
  · exact ⟨2, by decide, -1, u2 I 0 (upd (I 0) 16 2), by (simp (decide := true) only [f_X11_gets_43, f_X11_gets, h2, e1, hin0, hf, hw, isO_s, gI_s, gA_s, gL_s, pI_s, pZ_s, pL_s, aI_s, aL_s, aN_s, aQ_s, sI_s, sL_s, cr, LNs, Option.map_some, Option.map_none, Option.bind_some, b2, tr, lt, if_true, if_false, ckZ, X_within, M_in, inR_z, X_refuse, X_tell, X_deny, X_grant, M_refused, M_denied, M_done, M_granted, u2_same, u2_ne, u2_u2, upd_same, upd_ne, aW0, ixR_z, ixR_1, M_isWall, M_isPainter, M_isWork, X_has4, X_has10, X_at, or_false, false_or, or_true, true_or, not_true, not_false_iff, Option.isSome_some, isO_d, gI_d, gA_d, pI_d, ne_eq, not_false_eq_true, u2_hi, u2_hj, u2_dyn, u2_dynj, Nat.reduceAdd, mX_r, mX_rD, mX_rDj, mM_r, mX_u, mX_uM, mX_uD, mX_uDj, mM_u, mM_uX, mM_uD, mM_uDj, u2_dd, u2_d0, u2_0d]; try exact rfl), by (simp (decide := true) only [f_X15_gets, f_X15_gets_17, f_X15_gets_42, h3, e1, e4, hf, hw, isO_s, gI_s, gA_s, gL_s, pI_s, pZ_s, pL_s, aI_s, aL_s, aN_s, aQ_s, sI_s, sL_s, cr, LNs, Option.map_some, Option.map_none, Option.bind_some, b2, tr, lt, if_true, if_false, ckZ, X_within, M_in, inR_z, X_refuse, X_tell, X_deny, X_grant, M_refused, M_denied, M_done, M_granted, u2_same, u2_ne, u2_u2, upd_same, upd_ne, aW0, ixR_z, ixR_1, M_isWall, M_isPainter, M_isWork, X_has4, X_has10, X_at, or_false, false_or, or_true, true_or, not_true, not_false_iff, Option.isSome_some, isO_d, gI_d, gA_d, pI_d, ne_eq, not_false_eq_true, u2_hi, u2_hj, u2_dyn, u2_dynj, Nat.reduceAdd, mX_r, mX_rD, mX_rDj, mM_r, mX_u, mX_uM, mX_uD, mX_uDj, mM_u, mM_uX, mM_uD, mM_uDj, u2_dd, u2_d0, u2_0d]; try exact rfl)⟩
  obtain ⟨g1, g2, k0, k1, k2, nl, hnl, g3, g4, g5⟩ := hG r hr
  have e5 := oN_leF hr (by omega)
  have e6 : (Int32.ofNat r ≤ 8) = True := eq_true (oN_leL (n := r) (m := 8) (show r ≤ 8 by omega) (by decide))
  have e7 : iN (Int32.ofNat r) 9 = some r := iN_oN (by omega) (by omega)
  have e8 : iN (Int32.ofNat r) 8 = some r := iN_oN (by omega) (by omega)
  have hx := X_g1 (b := b) (F := F) (E := E) (L := L) (P := P) (nx := nx) (us := us) (I := I) (W := I (rc r + 1)) (S := I (rc r + 2)) (fee := f) (who := w) (r := r) (nl := nl) (by omega) hnl (fun l hl => (g5 l hl).1) (fun l hl => (g5 l hl).2) nl 0 (by omega) FU (by unfold FU; omega) f 0 0
  rw [Nat.add_zero] at hx
  have em : mnI (Int32.ofNat (8 * r + nl)) (Int32.ofNat 72) = Int32.ofNat (8 * r + nl) := by
    unfold mnI
    rw [if_neg]
    intro q
    rw [Int32.lt_iff_toInt_lt, oN_toInt (by omega), oN_toInt (by omega)] at q
    omega
  refine ⟨0, by decide, gtE (I (rc r + 1)) (I (rc r + 2)) w nl (gt1 (I (rc r + 1)) (I (rc r + 2)) f w nl 0 f 0 0), u2 I 0 (upd (I 0) 16 0), ?_, ?_⟩
  · simp (decide := true) only [f_X11_gets_43, f_X11_gets, f_X5_shareOf_231, f_X5_shareOf_225, f_X5_shareOf_170, f_X5_shareOf_141, f_X5_shareOf_120, f_X5_shareOf_92, f_X5_shareOf_18, f_X5_shareOf, h2, e1, hin0, hf, hw, e5, e6, e7, g3, ix8, oN_add, isO_s, gI_s, gA_s, gL_s, pI_s, pZ_s, pL_s, aI_s, aL_s, aN_s, aQ_s, sI_s, sL_s, cr, LNs, Option.map_some, Option.map_none, Option.bind_some, b2, tr, lt, if_true, if_false, ckZ, X_within, M_in, inR_z, X_refuse, X_tell, X_deny, X_grant, M_refused, M_denied, M_done, M_granted, u2_same, u2_ne, u2_u2, upd_same, upd_ne, aW0, ixR_z, ixR_1, M_isWall, M_isPainter, M_isWork, X_has4, X_has10, X_at, or_false, false_or, or_true, true_or, not_true, not_false_iff, Option.isSome_some, isO_d, gI_d, gA_d, pI_d, ne_eq, not_false_eq_true, u2_hi, u2_hj, u2_dyn, u2_dynj, Nat.reduceAdd, mX_r, mX_rD, mX_rDj, mM_r, mX_u, mX_uM, mX_uD, mX_uDj, mM_u, mM_uX, mM_uD, mM_uDj, u2_dd, u2_d0, u2_0d]
    have em' : mnI (Int32.ofNat (8 * r + nl)) 72 = Int32.ofNat (8 * r + nl) := em
    simp (decide := true) only [em, em', hx, isO_s, gI_s, gA_s, gL_s, pI_s, pZ_s, pL_s, aI_s, aL_s, aN_s, aQ_s, sI_s, sL_s, cr, LNs, Option.map_some, Option.map_none, Option.bind_some, b2, tr, lt, if_true, if_false, ckZ, X_within, M_in, inR_z, X_refuse, X_tell, X_deny, X_grant, M_refused, M_denied, M_done, M_granted, u2_same, u2_ne, u2_u2, upd_same, upd_ne, aW0, ixR_z, ixR_1, M_isWall, M_isPainter, M_isWork, X_has4, X_has10, X_at, or_false, false_or, or_true, true_or, not_true, not_false_iff, Option.isSome_some, isO_d, gI_d, gA_d, pI_d, ne_eq, not_false_eq_true, u2_hi, u2_hj, u2_dyn, u2_dynj, Nat.reduceAdd, mX_r, mX_rD, mX_rDj, mM_r, mX_u, mX_uM, mX_uD, mX_uDj, mM_u, mM_uX, mM_uD, mM_uDj, u2_dd, u2_d0, u2_0d]
  · have q0 : rc r ≠ 0 := by omega
    have q1 : rc r ≠ 72 := by omega
    have q2 : rc r + 1 ≠ 0 := by omega
    have q3 : rc r + 1 ≠ 72 := by omega
    have q4 : rc r + 2 ≠ 0 := by omega
    have q5 : rc r + 2 ≠ 72 := by omega
    have hm := M_g1 (b := b) (F := F) (E := E) (L := L) (P := P) (nx := nx) (us := us) (I := u2 (u2 I 0 (upd (I 0) 16 0)) 72 (upd (I 72) 0 0)) (fee := f) (who := w) (c := rc r) (nl := nl) k0 k1 k2 (by rw [u2_ne q1, u2_ne q0]; exact g4) hnl nl 0 (by omega) FU (by unfold FU; omega) f 0 0
    rw [u2_ne q3, u2_ne q2, u2_ne q5, u2_ne q4, u2_u2, u2_same] at hm
    have hm' := hm
    simp (decide := true) only [f_X15_gets, f_X15_gets_17, f_X15_gets_42, h3, e1, e4, hf, hw, e8, g1, isO_s, gI_s, gA_s, gL_s, pI_s, pZ_s, pL_s, aI_s, aL_s, aN_s, aQ_s, sI_s, sL_s, cr, LNs, Option.map_some, Option.map_none, Option.bind_some, b2, tr, lt, if_true, if_false, ckZ, X_within, M_in, inR_z, X_refuse, X_tell, X_deny, X_grant, M_refused, M_denied, M_done, M_granted, u2_same, u2_ne, u2_u2, upd_same, upd_ne, aW0, ixR_z, ixR_1, M_isWall, M_isPainter, M_isWork, X_has4, X_has10, X_at, or_false, false_or, or_true, true_or, not_true, not_false_iff, Option.isSome_some, isO_d, gI_d, gA_d, pI_d, ne_eq, not_false_eq_true, u2_hi, u2_hj, u2_dyn, u2_dynj, Nat.reduceAdd, mX_r, mX_rD, mX_rDj, mM_r, mX_u, mX_uM, mX_uD, mX_uDj, mM_u, mM_uX, mM_uD, mM_uDj, u2_dd, u2_d0, u2_0d]
    exact hm'
end GETC
