/-! ===== give: one hope reckoned ===== -/
theorem oN_or (a c : Nat) : Int32.ofNat a ||| Int32.ofNat c = Int32.ofNat (a ||| c) := by
  rw [← Int32.toBitVec_inj, Int32.toBitVec_or]
  exact BitVec.ofNat_or.symm
/-- the most to hope for at place at0 with the painters u used: by the painters from the i-th on -/
def hmF (W : RW) (H : Nat → Int32) (u : Nat) : Nat → Nat → Int32 → Int32
  | 0, _, acc => acc
  | m + 1, i, acc => hmF W H u m (i + 1) (if u.testBit i = false ∧ ¬ W i ≤ 0 then mxI acc (W i + H (u ||| 2 ^ i)) else acc)
section GIVD
variable {b : Nat} {F : Nat → Option AE} {D E : Nat → Option KD} {I : Nat → Nat → Int32} {L : Nat → Nat → Int64} {P : Nat → Nat → Option Nat} {nx us : Nat}
theorem X_hm {np n at0 u hc len : Nat} {k50 : Nat → Int32 → Int32 → AH → Option AH} {k57 : Nat → Int32 → Int32 → Int32 → AH → Option AH} (hp : I 5 0 = Int32.ofNat np) (hp1 : np ≤ 10) (hn6 : n ≤ 6) (hP : P 26 7 = some hc) (hK : kdf E hc = some (.inl (0, len))) (hlen : (n + 1) * 2 ^ np ≤ len) (hl2 : len ≤ 100000) (hat : at0 < n) (hu : u < 2 ^ np) : ∀ (m i : Nat), i + m = np → ∀ (fu : Nat) (acc : Int32), m < fu → f_X3_reckonHopes_77 k50 k57 fu (ad b 26) (Int32.ofNat (2 ^ np)) (Int32.ofNat at0) (Int32.ofNat u) acc (Int32.ofNat i) (lay b F E I L P nx us) = k57 (ad b 26) (Int32.ofNat (2 ^ np)) (Int32.ofNat at0) (Int32.ofNat (u + 1)) (lay b F E (u2 I hc (upd (I hc) (at0 * 2 ^ np + u) (hmF (fun p => I 28 (10 * at0 + p)) (fun v => I hc ((at0 + 1) * 2 ^ np + v)) u m i acc))) L P nx us) := by
  have gA7 : gA 3 (lay b F E I L P nx us) (ad b 26) 7 = some (ad b hc) := by rw [gA_sP (by decide) (by decide) (by decide), hP]; rfl
  obtain ⟨e1, e2⟩ := shl_at np (by omega) at0 (by omega)
  have hx : at0 * 2 ^ np + u < len := by
    have h1 : (at0 + 1) * 2 ^ np ≤ (n + 1) * 2 ^ np := Nat.mul_le_mul_right _ (by omega)
    rw [Nat.succ_mul] at h1
    omega
  have e6 : iN (Int32.ofNat (at0 * 2 ^ np + u)) len = some (at0 * 2 ^ np + u) := iN_oN hx (by omega)
  intro m
  induction m with
  | zero =>
    intro i hi fu acc hf
    obtain ⟨fu, rfl⟩ : ∃ f, fu = f + 1 := ⟨fu - 1, by omega⟩
    have : i = np := by omega
    subst this
    simp (decide := true) only [f_X3_reckonHopes_77, hp, Int32.le_refl, gA7, sI_d hK (by decide), oN_mul, oN_add, e6, oN_succ, isO_s, gI_s, gA_s, gL_s, pI_s, pZ_s, pL_s, aI_s, aL_s, aN_s, aQ_s, sI_s, sL_s, cr, LNs, Option.map_some, Option.map_none, Option.bind_some, b2, tr, lt, if_true, if_false, ckZ, X_within, M_in, inR_z, X_refuse, X_tell, X_deny, X_grant, M_refused, M_denied, M_done, M_granted, u2_same, u2_ne, u2_u2, upd_same, upd_ne, aW0, ixR_z, ixR_1, M_isWall, M_isPainter, M_isWork, X_has4, X_has10, X_at, or_false, false_or, or_true, true_or, not_true, not_false_iff, Option.isSome_some, isO_d, gI_d, gA_d, pI_d, ne_eq, not_false_eq_true, u2_hi, u2_hj, u2_dyn, u2_dynj, Nat.reduceAdd, mX_r, mX_rD, mX_rDj, mM_r, mX_u, mX_uM, mX_uD, mX_uDj, mM_u, mM_uX, mM_uD, mM_uDj, u2_dd, u2_d0, u2_0d]
    rfl
  | succ m ih =>
    intro i hi fu acc hf
    obtain ⟨fu, rfl⟩ : ∃ f, fu = f + 1 := ⟨fu - 1, by omega⟩
    have hin : i < np := by omega
    have e3 := oN_leF hin (by omega)
    have e4 : iN (Int32.ofNat (10 * at0 + i)) 60 = some (10 * at0 + i) := iN_oN (by omega) (by omega)
    have t0 := tb0 (s := u) (k := i) (by omega) (by omega)
    have hor : Int32.ofNat u ||| (1 : Int32) <<< (Int32.ofNat i &&& 31) = Int32.ofNat (u ||| 2 ^ i) := by rw [(sh_16 i (by omega)).1, oN_or]
    have hlt : u ||| 2 ^ i < 2 ^ np := Nat.or_lt_two_pow hu (Nat.pow_lt_pow_right (by omega) hin)
    have hh := X_hope (b := b) (F := F) (E := E) (L := L) (P := P) (nx := nx) (us := us) (I := I) (at0 := at0 + 1) (u := u ||| 2 ^ i) hp hp1 hn6 hP hK hlen hl2 (by omega) hlt
    have ih' := ih (i + 1) (by omega) fu
    unfold hmF
    by_cases hb : u.testBit i = false
    · by_cases hw : I 28 (10 * at0 + i) ≤ 0
      · have hc' : ¬ (u.testBit i = false ∧ ¬ I 28 (10 * at0 + i) ≤ 0) := fun q => q.2 hw
        rw [if_neg hc', ← ih' acc (by omega)]
        simp (decide := true) only [f_X3_reckonHopes_77, f_X3_reckonHopes_142, hp, e3, ix10, e4, t0, hb, hw, oN_succ, isO_s, gI_s, gA_s, gL_s, pI_s, pZ_s, pL_s, aI_s, aL_s, aN_s, aQ_s, sI_s, sL_s, cr, LNs, Option.map_some, Option.map_none, Option.bind_some, b2, tr, lt, if_true, if_false, ckZ, X_within, M_in, inR_z, X_refuse, X_tell, X_deny, X_grant, M_refused, M_denied, M_done, M_granted, u2_same, u2_ne, u2_u2, upd_same, upd_ne, aW0, ixR_z, ixR_1, M_isWall, M_isPainter, M_isWork, X_has4, X_has10, X_at, or_false, false_or, or_true, true_or, not_true, not_false_iff, Option.isSome_some, isO_d, gI_d, gA_d, pI_d, ne_eq, not_false_eq_true, u2_hi, u2_hj, u2_dyn, u2_dynj, Nat.reduceAdd, mX_r, mX_rD, mX_rDj, mM_r, mX_u, mX_uM, mX_uD, mX_uDj, mM_u, mM_uX, mM_uD, mM_uDj, u2_dd, u2_d0, u2_0d]
      · have hc' : u.testBit i = false ∧ ¬ I 28 (10 * at0 + i) ≤ 0 := ⟨hb, hw⟩
        rw [if_pos hc', ← ih' _ (by omega)]
        simp (decide := true) only [f_X3_reckonHopes_77, f_X3_reckonHopes_142, hp, e3, ix10, e4, t0, hb, hw, hor, oN_succ, hh, isO_s, gI_s, gA_s, gL_s, pI_s, pZ_s, pL_s, aI_s, aL_s, aN_s, aQ_s, sI_s, sL_s, cr, LNs, Option.map_some, Option.map_none, Option.bind_some, b2, tr, lt, if_true, if_false, ckZ, X_within, M_in, inR_z, X_refuse, X_tell, X_deny, X_grant, M_refused, M_denied, M_done, M_granted, u2_same, u2_ne, u2_u2, upd_same, upd_ne, aW0, ixR_z, ixR_1, M_isWall, M_isPainter, M_isWork, X_has4, X_has10, X_at, or_false, false_or, or_true, true_or, not_true, not_false_iff, Option.isSome_some, isO_d, gI_d, gA_d, pI_d, ne_eq, not_false_eq_true, u2_hi, u2_hj, u2_dyn, u2_dynj, Nat.reduceAdd, mX_r, mX_rD, mX_rDj, mM_r, mX_u, mX_uM, mX_uD, mX_uDj, mM_u, mM_uX, mM_uD, mM_uDj, u2_dd, u2_d0, u2_0d]
    · have hc' : ¬ (u.testBit i = false ∧ ¬ I 28 (10 * at0 + i) ≤ 0) := fun q => hb q.1
      rw [if_neg hc', ← ih' acc (by omega)]
      simp (decide := true) only [f_X3_reckonHopes_77, f_X3_reckonHopes_142, hp, e3, ix10, e4, t0, hb, oN_succ, isO_s, gI_s, gA_s, gL_s, pI_s, pZ_s, pL_s, aI_s, aL_s, aN_s, aQ_s, sI_s, sL_s, cr, LNs, Option.map_some, Option.map_none, Option.bind_some, b2, tr, lt, if_true, if_false, ckZ, X_within, M_in, inR_z, X_refuse, X_tell, X_deny, X_grant, M_refused, M_denied, M_done, M_granted, u2_same, u2_ne, u2_u2, upd_same, upd_ne, aW0, ixR_z, ixR_1, M_isWall, M_isPainter, M_isWork, X_has4, X_has10, X_at, or_false, false_or, or_true, true_or, not_true, not_false_iff, Option.isSome_some, isO_d, gI_d, gA_d, pI_d, ne_eq, not_false_eq_true, u2_hi, u2_hj, u2_dyn, u2_dynj, Nat.reduceAdd, mX_r, mX_rD, mX_rDj, mM_r, mX_u, mX_uM, mX_uD, mX_uDj, mM_u, mM_uX, mM_uD, mM_uDj, u2_dd, u2_d0, u2_0d]
end GIVD
