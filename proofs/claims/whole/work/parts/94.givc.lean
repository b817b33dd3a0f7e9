/-! ===== give: the hopes ===== -/
theorem shl_at : ∀ n, n < 11 → ∀ a, a < 8 → Int32.ofNat a <<< (Int32.ofNat n &&& 31) = Int32.ofNat (a * 2 ^ n) ∧ 2 ^ n ≤ 1024 := by decide +kernel
section GIVC
variable {b : Nat} {F : Nat → Option AE} {D E : Nat → Option KD} {I : Nat → Nat → Int32} {L : Nat → Nat → Int64} {P : Nat → Nat → Option Nat} {nx us : Nat}
theorem X_hope {np n at0 u hc len : Nat} (hp : I 5 0 = Int32.ofNat np) (hp1 : np ≤ 10) (hn6 : n ≤ 6) (hP : P 26 7 = some hc) (hK : kdf E hc = some (.inl (0, len))) (hlen : (n + 1) * 2 ^ np ≤ len) (hl2 : len ≤ 100000) (hat : at0 ≤ n) (hu : u < 2 ^ np) : f_X3_hopeFrom (ad b 26) (Int32.ofNat at0) (Int32.ofNat u) (lay b F E I L P nx us) = some (I hc (at0 * 2 ^ np + u), (lay b F E I L P nx us)) := by
  have gA7 : gA 3 (lay b F E I L P nx us) (ad b 26) 7 = some (ad b hc) := by rw [gA_sP (by decide) (by decide) (by decide), hP]; rfl
  obtain ⟨e1, e2⟩ := shl_at np (by omega) at0 (by omega)
  have hx : at0 * 2 ^ np + u < len := by
    have h1 : (at0 + 1) * 2 ^ np ≤ (n + 1) * 2 ^ np := Nat.mul_le_mul_right _ (by omega)
    rw [Nat.succ_mul] at h1
    omega
  have e3 : Int32.ofNat at0 <<< (Int32.ofNat np &&& 31) + Int32.ofNat u = Int32.ofNat (at0 * 2 ^ np + u) := by rw [e1, oN_add]
  have e4 := oN_neg (w := at0 * 2 ^ np + u) (by omega)
  have e5 := oN_leF hx (by omega)
  have e6 : iN (Int32.ofNat (at0 * 2 ^ np + u)) len = some (at0 * 2 ^ np + u) := iN_oN hx (by omega)
  simp (decide := true) only [f_X3_hopeFrom_35, f_X3_hopeFrom_34, f_X3_hopeFrom, hp, gA7, aN_d hK, aI_d hK (by decide), e3, e4, e5, e6, isO_s, gI_s, gA_s, gL_s, pI_s, pZ_s, pL_s, aI_s, aL_s, aN_s, aQ_s, sI_s, sL_s, cr, LNs, Option.map_some, Option.map_none, Option.bind_some, b2, tr, lt, if_true, if_false, ckZ, X_within, M_in, inR_z, X_refuse, X_tell, X_deny, X_grant, M_refused, M_denied, M_done, M_granted, u2_same, u2_ne, u2_u2, upd_same, upd_ne, aW0, ixR_z, ixR_1, M_isWall, M_isPainter, M_isWork, X_has4, X_has10, X_at, or_false, false_or, or_true, true_or, not_true, not_false_iff, Option.isSome_some, isO_d, gI_d, gA_d, pI_d, ne_eq, not_false_eq_true, u2_hi, u2_hj, u2_dyn, u2_dynj, Nat.reduceAdd, mX_r, mX_rD, mX_rDj, mM_r, mX_u, mX_uM, mX_uD, mX_uDj, mM_u, mM_uX, mM_uD, mM_uDj, u2_dd, u2_d0, u2_0d]
end GIVC
