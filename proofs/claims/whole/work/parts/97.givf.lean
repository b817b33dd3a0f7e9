/-! ===== give: the hopes of a place ===== -/
def h5R (W : RW) (np at0 u m : Nat) (H : Nat → Int32) (r : RW) : RW := fun x => if at0 * 2 ^ np + u ≤ x ∧ x < at0 * 2 ^ np + u + m then hmF W H (x - at0 * 2 ^ np) np 0 (H (x - at0 * 2 ^ np)) else r x
theorem h5R_0 {W : RW} {np at0 u : Nat} {H : Nat → Int32} {r : RW} : h5R W np at0 u 0 H r = r := by
  funext k
  unfold h5R
  rw [if_neg (by omega)]
theorem h5R_s {W : RW} {np at0 u m : Nat} {H : Nat → Int32} {r : RW} : h5R W np at0 (u + 1) m H (upd r (at0 * 2 ^ np + u) (hmF W H u np 0 (H u))) = h5R W np at0 u (m + 1) H r := by
  funext k
  unfold h5R upd
  generalize at0 * 2 ^ np = z
  by_cases h : k = z + u
  · subst h
    rw [if_neg (by omega), if_pos rfl, if_pos (by omega), show z + u - z = u by omega]
  · by_cases h2 : z + (u + 1) ≤ k ∧ k < z + (u + 1) + m
    · rw [if_pos h2, if_pos (by omega)]
    · rw [if_neg h2, if_neg h, if_neg (by omega)]
section GIVF
variable {b : Nat} {F : Nat → Option AE} {D E : Nat → Option KD} {I : Nat → Nat → Int32} {L : Nat → Nat → Int64} {P : Nat → Nat → Option Nat} {nx us : Nat}
theorem X_h57 {np n at0 hc len : Nat} {k50 : Nat → Int32 → Int32 → AH → Option AH} {H : Nat → Int32} (hp : I 5 0 = Int32.ofNat np) (hp1 : np ≤ 10) (hn6 : n ≤ 6) (hP : P 26 7 = some hc) (hK : kdf E hc = some (.inl (0, len))) (hlen : (n + 1) * 2 ^ np ≤ len) (hl2 : len ≤ 100000) (hat : at0 < n) (hc5 : hc ≠ 5) (hc28 : hc ≠ 28) : ∀ (m u : Nat), u + m = 2 ^ np → ∀ (fu : Nat) (r : RW), m < fu → (∀ v, r ((at0 + 1) * 2 ^ np + v) = H v) → f_X3_reckonHopes_57 k50 fu (ad b 26) (Int32.ofNat (2 ^ np)) (Int32.ofNat at0) (Int32.ofNat u) (lay b F E (u2 I hc r) L P nx us) = k50 (ad b 26) (Int32.ofNat (2 ^ np)) (Int32.ofNat at0 + (-1)) (lay b F E (u2 I hc (h5R (fun p => I 28 (10 * at0 + p)) np at0 u m H r)) L P nx us) := by
  have e2 := (shl_at np (by omega) at0 (by omega)).2
  intro m
  induction m with
  | zero =>
    intro u hu fu r hf hH
    obtain ⟨fu, rfl⟩ : ∃ f, fu = f + 1 := ⟨fu - 1, by omega⟩
    have : u = 2 ^ np := by omega
    subst this
    rw [h5R_0]
    simp (decide := true) only [f_X3_reckonHopes_57, Int32.le_refl, isO_s, gI_s, gA_s, gL_s, pI_s, pZ_s, pL_s, aI_s, aL_s, aN_s, aQ_s, sI_s, sL_s, cr, LNs, Option.map_some, Option.map_none, Option.bind_some, b2, tr, lt, if_true, if_false, ckZ, X_within, M_in, inR_z, X_refuse, X_tell, X_deny, X_grant, M_refused, M_denied, M_done, M_granted, u2_same, u2_ne, u2_u2, upd_same, upd_ne, aW0, ixR_z, ixR_1, M_isWall, M_isPainter, M_isWork, X_has4, X_has10, X_at, or_false, false_or, or_true, true_or, not_true, not_false_iff, Option.isSome_some, isO_d, gI_d, gA_d, pI_d, ne_eq, not_false_eq_true, u2_hi, u2_hj, u2_dyn, u2_dynj, Nat.reduceAdd, mX_r, mX_rD, mX_rDj, mM_r, mX_u, mX_uM, mX_uD, mX_uDj, mM_u, mM_uX, mM_uD, mM_uDj, u2_dd, u2_d0, u2_0d]
  | succ m ih =>
    intro u hu fu r hf hH
    obtain ⟨fu, rfl⟩ : ∃ f, fu = f + 1 := ⟨fu - 1, by omega⟩
    have e3 := oN_leF (show u < 2 ^ np by omega) (by omega)
    have hp' : u2 I hc r 5 0 = Int32.ofNat np := by rw [u2_ne (fun q => hc5 q.symm)]; exact hp
    have hh := X_hope (b := b) (F := F) (E := E) (L := L) (P := P) (nx := nx) (us := us) (I := u2 I hc r) (at0 := at0 + 1) (u := u) hp' hp1 hn6 hP hK hlen hl2 (by omega) (by omega)
    have hm := X_hm (b := b) (F := F) (E := E) (L := L) (P := P) (nx := nx) (us := us) (I := u2 I hc r) (at0 := at0) (u := u) (k50 := k50) (k57 := f_X3_reckonHopes_57 k50 fu) hp' hp1 hn6 hP hK hlen hl2 hat (by omega) np 0 (by omega) FU (H u) (by unfold FU; omega)
    have hHf : (fun v => r ((at0 + 1) * 2 ^ np + v)) = H := funext hH
    rw [u2_same, u2_ne (fun q => hc28 q.symm), u2_u2, hHf] at hm
    rw [u2_same, hH u] at hh
    have ih' := ih (u + 1) (by omega) fu (upd r (at0 * 2 ^ np + u) (hmF (fun p => I 28 (10 * at0 + p)) H u np 0 (H u))) (by omega) (fun v => by rw [upd_ne (by rw [Nat.succ_mul]; omega)]; exact hH v)
    rw [h5R_s] at ih'
    simp (decide := true) only [f_X3_reckonHopes_57, e3, oN_succ, hh, isO_s, gI_s, gA_s, gL_s, pI_s, pZ_s, pL_s, aI_s, aL_s, aN_s, aQ_s, sI_s, sL_s, cr, LNs, Option.map_some, Option.map_none, Option.bind_some, b2, tr, lt, if_true, if_false, ckZ, X_within, M_in, inR_z, X_refuse, X_tell, X_deny, X_grant, M_refused, M_denied, M_done, M_granted, u2_same, u2_ne, u2_u2, upd_same, upd_ne, aW0, ixR_z, ixR_1, M_isWall, M_isPainter, M_isWork, X_has4, X_has10, X_at, or_false, false_or, or_true, true_or, not_true, not_false_iff, Option.isSome_some, isO_d, gI_d, gA_d, pI_d, ne_eq, not_false_eq_true, u2_hi, u2_hj, u2_dyn, u2_dynj, Nat.reduceAdd, mX_r, mX_rD, mX_rDj, mM_r, mX_u, mX_uM, mX_uD, mX_uDj, mM_u, mM_uX, mM_uD, mM_uDj, u2_dd, u2_d0, u2_0d]
    exact hm.trans ih'
end GIVF
