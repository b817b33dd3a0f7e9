/-! ===== wall: the call ===== -/
section WALLD
variable {b : Nat} {F : Nat → Option AE} {D E : Nat → Option KD} {I : Nat → Nat → Int32} {L : Nat → Nat → Int64} {P : Nat → Nat → Option Nat} {nx us : Nat}
theorem call_wall (x y s o : Int32) {nw nk nt a : Nat} {q wd hg ow : Nat → Nat} (hT : GTI I) (hnw : Cn nw 16 (I 1 1) (I 72 4)) (hA : WA nw q wd hg ow E (P 2)) (hW : WALL nw nk nt q wd hg I) (hWk : ∀ k, k < nk → ∃ w, w < nw ∧ I 123 k = Int32.ofNat w) (hnx : nx = 149 + a) (hO : ∀ c, a ≤ c → ow c = 0) (r1 : a + 5 + 149 ≤ 601024) (r2 : us + 15 + 4 * 192 ≤ 7293034) :
    (∃ t : Int32, t ≠ 4 ∧ Run b F E L P nx us (f_X11_wall (ad b 0) x y s o) (f_X15_wall (ad b 72) x y s o) I (rf I t)) ∨
    ∃ E2 I2 L2 P2 us2 q2 wd2 hg2 ow2, RunG b F (f_X11_wall (ad b 0) x y s o) (f_X15_wall (ad b 72) x y s o) E I L P nx us E2 I2 L2 P2 (149 + (a + 5)) us2 ∧ us2 ≤ us + 783 ∧ GTI I2 ∧ Cn (nw + 1) 16 (I2 1 1) (I2 72 4) ∧ WA (nw + 1) q2 wd2 hg2 ow2 E2 (P2 2) ∧ WALL (nw + 1) nk nt q2 wd2 hg2 I2 ∧ (∀ c, c < 149 + a → E2 c = E c ∧ L2 c = L c) ∧ (∀ c, c < 149 + a → c ≠ 2 → P2 c = P c) ∧ (∀ c, c < a → ow2 c = ow c ∧ dyn I2 c = dyn I c) ∧ (∀ c, a + 5 ≤ c → ow2 c = 0) ∧ (∀ c k, c < 149 → [(0, 16), (1, 1), (72, 0), (72, 1), (72, 2), (72, 4)].contains (c, k) = false → [73, 74, 75, 76, 77, 78, 80, 81, 82].contains c = false → I2 c k = I c k) := by
  subst hnx
  by_cases hx : (x < 1 ∨ 16 < x)
  · exact Or.inl ⟨2, by decide, -1, u2 I 0 (upd (I 0) 16 2), by (simp (decide := true) only [f_X11_wall_40, f_X11_wall, hx, isO_s, gI_s, gA_s, gL_s, pI_s, pZ_s, pL_s, aI_s, aL_s, aN_s, aQ_s, sI_s, sL_s, cr, LNs, Option.map_some, Option.map_none, Option.bind_some, b2, tr, lt, if_true, if_false, ckZ, X_within, M_in, inR_z, X_refuse, X_tell, X_deny, X_grant, M_refused, M_denied, M_done, M_granted, u2_same, u2_ne, u2_u2, upd_same, upd_ne, aW0, ixR_z, ixR_1, M_isWall, M_isPainter, M_isWork, X_has4, X_has10, X_at, or_false, false_or, or_true, true_or, not_true, not_false_iff, Option.isSome_some, isO_d, gI_d, gA_d, pI_d, ne_eq, not_false_eq_true, u2_hi, u2_hj, u2_dyn, u2_dynj, Nat.reduceAdd, mX_r, mX_rD, mX_rDj, mM_r, mX_u, mX_uM, mX_uD, mX_uDj, mM_u, mM_uX, mM_uD, mM_uDj, u2_dd, u2_d0, u2_0d]; try exact rfl), by (simp (decide := true) only [f_X15_wall_45, f_X15_wall, hx, isO_s, gI_s, gA_s, gL_s, pI_s, pZ_s, pL_s, aI_s, aL_s, aN_s, aQ_s, sI_s, sL_s, cr, LNs, Option.map_some, Option.map_none, Option.bind_some, b2, tr, lt, if_true, if_false, ckZ, X_within, M_in, inR_z, X_refuse, X_tell, X_deny, X_grant, M_refused, M_denied, M_done, M_granted, u2_same, u2_ne, u2_u2, upd_same, upd_ne, aW0, ixR_z, ixR_1, M_isWall, M_isPainter, M_isWork, X_has4, X_has10, X_at, or_false, false_or, or_true, true_or, not_true, not_false_iff, Option.isSome_some, isO_d, gI_d, gA_d, pI_d, ne_eq, not_false_eq_true, u2_hi, u2_hj, u2_dyn, u2_dynj, Nat.reduceAdd, mX_r, mX_rD, mX_rDj, mM_r, mX_u, mX_uM, mX_uD, mX_uDj, mM_u, mM_uX, mM_uD, mM_uDj, u2_dd, u2_d0, u2_0d]; try exact rfl)⟩
  by_cases hy : (y < 1 ∨ 12 < y)
  · exact Or.inl ⟨2, by decide, -1, u2 I 0 (upd (I 0) 16 2), by (simp (decide := true) only [f_X11_wall_40, f_X11_wall, hx, hy, isO_s, gI_s, gA_s, gL_s, pI_s, pZ_s, pL_s, aI_s, aL_s, aN_s, aQ_s, sI_s, sL_s, cr, LNs, Option.map_some, Option.map_none, Option.bind_some, b2, tr, lt, if_true, if_false, ckZ, X_within, M_in, inR_z, X_refuse, X_tell, X_deny, X_grant, M_refused, M_denied, M_done, M_granted, u2_same, u2_ne, u2_u2, upd_same, upd_ne, aW0, ixR_z, ixR_1, M_isWall, M_isPainter, M_isWork, X_has4, X_has10, X_at, or_false, false_or, or_true, true_or, not_true, not_false_iff, Option.isSome_some, isO_d, gI_d, gA_d, pI_d, ne_eq, not_false_eq_true, u2_hi, u2_hj, u2_dyn, u2_dynj, Nat.reduceAdd, mX_r, mX_rD, mX_rDj, mM_r, mX_u, mX_uM, mX_uD, mX_uDj, mM_u, mM_uX, mM_uD, mM_uDj, u2_dd, u2_d0, u2_0d]; try exact rfl), by (simp (decide := true) only [f_X15_wall_45, f_X15_wall, hx, hy, isO_s, gI_s, gA_s, gL_s, pI_s, pZ_s, pL_s, aI_s, aL_s, aN_s, aQ_s, sI_s, sL_s, cr, LNs, Option.map_some, Option.map_none, Option.bind_some, b2, tr, lt, if_true, if_false, ckZ, X_within, M_in, inR_z, X_refuse, X_tell, X_deny, X_grant, M_refused, M_denied, M_done, M_granted, u2_same, u2_ne, u2_u2, upd_same, upd_ne, aW0, ixR_z, ixR_1, M_isWall, M_isPainter, M_isWork, X_has4, X_has10, X_at, or_false, false_or, or_true, true_or, not_true, not_false_iff, Option.isSome_some, isO_d, gI_d, gA_d, pI_d, ne_eq, not_false_eq_true, u2_hi, u2_hj, u2_dyn, u2_dynj, Nat.reduceAdd, mX_r, mX_rD, mX_rDj, mM_r, mX_u, mX_uM, mX_uD, mX_uDj, mM_u, mM_uX, mM_uD, mM_uDj, u2_dd, u2_d0, u2_0d]; try exact rfl)⟩
  by_cases hs : (s < 0 ∨ 3 < s)
  · exact Or.inl ⟨2, by decide, -1, u2 I 0 (upd (I 0) 16 2), by (simp (decide := true) only [f_X11_wall_40, f_X11_wall, hx, hy, hs, isO_s, gI_s, gA_s, gL_s, pI_s, pZ_s, pL_s, aI_s, aL_s, aN_s, aQ_s, sI_s, sL_s, cr, LNs, Option.map_some, Option.map_none, Option.bind_some, b2, tr, lt, if_true, if_false, ckZ, X_within, M_in, inR_z, X_refuse, X_tell, X_deny, X_grant, M_refused, M_denied, M_done, M_granted, u2_same, u2_ne, u2_u2, upd_same, upd_ne, aW0, ixR_z, ixR_1, M_isWall, M_isPainter, M_isWork, X_has4, X_has10, X_at, or_false, false_or, or_true, true_or, not_true, not_false_iff, Option.isSome_some, isO_d, gI_d, gA_d, pI_d, ne_eq, not_false_eq_true, u2_hi, u2_hj, u2_dyn, u2_dynj, Nat.reduceAdd, mX_r, mX_rD, mX_rDj, mM_r, mX_u, mX_uM, mX_uD, mX_uDj, mM_u, mM_uX, mM_uD, mM_uDj, u2_dd, u2_d0, u2_0d]; try exact rfl), by (simp (decide := true) only [f_X15_wall_45, f_X15_wall, hx, hy, hs, isO_s, gI_s, gA_s, gL_s, pI_s, pZ_s, pL_s, aI_s, aL_s, aN_s, aQ_s, sI_s, sL_s, cr, LNs, Option.map_some, Option.map_none, Option.bind_some, b2, tr, lt, if_true, if_false, ckZ, X_within, M_in, inR_z, X_refuse, X_tell, X_deny, X_grant, M_refused, M_denied, M_done, M_granted, u2_same, u2_ne, u2_u2, upd_same, upd_ne, aW0, ixR_z, ixR_1, M_isWall, M_isPainter, M_isWork, X_has4, X_has10, X_at, or_false, false_or, or_true, true_or, not_true, not_false_iff, Option.isSome_some, isO_d, gI_d, gA_d, pI_d, ne_eq, not_false_eq_true, u2_hi, u2_hj, u2_dyn, u2_dynj, Nat.reduceAdd, mX_r, mX_rD, mX_rDj, mM_r, mX_u, mX_uM, mX_uD, mX_uDj, mM_u, mM_uX, mM_uD, mM_uDj, u2_dd, u2_d0, u2_0d]; try exact rfl)⟩
  by_cases ho : (o < 0 ∨ 99 < o)
  · exact Or.inl ⟨2, by decide, -1, u2 I 0 (upd (I 0) 16 2), by (simp (decide := true) only [f_X11_wall_40, f_X11_wall, hx, hy, hs, ho, isO_s, gI_s, gA_s, gL_s, pI_s, pZ_s, pL_s, aI_s, aL_s, aN_s, aQ_s, sI_s, sL_s, cr, LNs, Option.map_some, Option.map_none, Option.bind_some, b2, tr, lt, if_true, if_false, ckZ, X_within, M_in, inR_z, X_refuse, X_tell, X_deny, X_grant, M_refused, M_denied, M_done, M_granted, u2_same, u2_ne, u2_u2, upd_same, upd_ne, aW0, ixR_z, ixR_1, M_isWall, M_isPainter, M_isWork, X_has4, X_has10, X_at, or_false, false_or, or_true, true_or, not_true, not_false_iff, Option.isSome_some, isO_d, gI_d, gA_d, pI_d, ne_eq, not_false_eq_true, u2_hi, u2_hj, u2_dyn, u2_dynj, Nat.reduceAdd, mX_r, mX_rD, mX_rDj, mM_r, mX_u, mX_uM, mX_uD, mX_uDj, mM_u, mM_uX, mM_uD, mM_uDj, u2_dd, u2_d0, u2_0d]; try exact rfl), by (simp (decide := true) only [f_X15_wall_45, f_X15_wall, hx, hy, hs, ho, isO_s, gI_s, gA_s, gL_s, pI_s, pZ_s, pL_s, aI_s, aL_s, aN_s, aQ_s, sI_s, sL_s, cr, LNs, Option.map_some, Option.map_none, Option.bind_some, b2, tr, lt, if_true, if_false, ckZ, X_within, M_in, inR_z, X_refuse, X_tell, X_deny, X_grant, M_refused, M_denied, M_done, M_granted, u2_same, u2_ne, u2_u2, upd_same, upd_ne, aW0, ixR_z, ixR_1, M_isWall, M_isPainter, M_isWork, X_has4, X_has10, X_at, or_false, false_or, or_true, true_or, not_true, not_false_iff, Option.isSome_some, isO_d, gI_d, gA_d, pI_d, ne_eq, not_false_eq_true, u2_hi, u2_hj, u2_dyn, u2_dynj, Nat.reduceAdd, mX_r, mX_rD, mX_rDj, mM_r, mX_u, mX_uM, mX_uD, mX_uDj, mM_u, mM_uX, mM_uD, mM_uDj, u2_dd, u2_d0, u2_0d]; try exact rfl)⟩
  obtain ⟨h16, hn2, hn3⟩ := hnw
  by_cases hz : nw = 16
  · subst hz
    exact Or.inl ⟨3, by decide, -1, u2 I 0 (upd (I 0) 16 3), by (simp (decide := true) only [f_X11_wall_40, f_X11_wall, hx, hy, hs, ho, hn2, isO_s, gI_s, gA_s, gL_s, pI_s, pZ_s, pL_s, aI_s, aL_s, aN_s, aQ_s, sI_s, sL_s, cr, LNs, Option.map_some, Option.map_none, Option.bind_some, b2, tr, lt, if_true, if_false, ckZ, X_within, M_in, inR_z, X_refuse, X_tell, X_deny, X_grant, M_refused, M_denied, M_done, M_granted, u2_same, u2_ne, u2_u2, upd_same, upd_ne, aW0, ixR_z, ixR_1, M_isWall, M_isPainter, M_isWork, X_has4, X_has10, X_at, or_false, false_or, or_true, true_or, not_true, not_false_iff, Option.isSome_some, isO_d, gI_d, gA_d, pI_d, ne_eq, not_false_eq_true, u2_hi, u2_hj, u2_dyn, u2_dynj, Nat.reduceAdd, mX_r, mX_rD, mX_rDj, mM_r, mX_u, mX_uM, mX_uD, mX_uDj, mM_u, mM_uX, mM_uD, mM_uDj, u2_dd, u2_d0, u2_0d]; try exact rfl), by (simp (decide := true) only [f_X15_wall_45, f_X15_wall, hx, hy, hs, ho, hn3, isO_s, gI_s, gA_s, gL_s, pI_s, pZ_s, pL_s, aI_s, aL_s, aN_s, aQ_s, sI_s, sL_s, cr, LNs, Option.map_some, Option.map_none, Option.bind_some, b2, tr, lt, if_true, if_false, ckZ, X_within, M_in, inR_z, X_refuse, X_tell, X_deny, X_grant, M_refused, M_denied, M_done, M_granted, u2_same, u2_ne, u2_u2, upd_same, upd_ne, aW0, ixR_z, ixR_1, M_isWall, M_isPainter, M_isWork, X_has4, X_has10, X_at, or_false, false_or, or_true, true_or, not_true, not_false_iff, Option.isSome_some, isO_d, gI_d, gA_d, pI_d, ne_eq, not_false_eq_true, u2_hi, u2_hj, u2_dyn, u2_dynj, Nat.reduceAdd, mX_r, mX_rD, mX_rDj, mM_r, mX_u, mX_uM, mX_uD, mX_uDj, mM_u, mM_uX, mM_uD, mM_uDj, u2_dd, u2_d0, u2_0d]; try exact rfl)⟩
  refine Or.inr ?_
  have hx0 := hx
  have hy0 := hy
  obtain ⟨W, w1, w2, rfl⟩ := lo_1 (n := 16) hx (by decide)
  obtain ⟨H, g1, g2, rfl⟩ := lo_1 (n := 12) hy (by decide)
  have h192 := n192 w2 g2
  have e1 : (Int32.ofNat nw < 16) = True := oN_ltT (c := 16) (by omega) (by omega)
  have e2 : (Int32.ofNat nw = 16) = False := oN_ne (c := 16) hz (by omega) (by omega)
  have e3 : iN (Int32.ofNat nw) 16 = some nw := iN_oN (by omega) (by omega)
  have e4 : (Int32.ofNat nw < Int32.ofNat 16) = True := e1
  obtain ⟨L2, P2, hX, hLP⟩ := X_newWall (b := b) (F := F) (E := E) (I := I) (L := L) (P := P) (us := us) (a := a) s o w1 w2 g1 g2 r1 r2
  obtain ⟨a12, h13, c1, c2⟩ := b2_some hX
  obtain ⟨h14, c3, c4⟩ := Option.bind_eq_some_iff.mp c2
  cases c4
  have hsq := fun (I : Nat → Nat → Int32) (L : Nat → Nat → Int64) (nx us : Nat) => sQ_lay (b := b) (F := F) (D := kdf (nwE E a (W * H))) (I := I) (L := L) (P := P2) (nx := nx) (us := us) (c := 2) (t := 5) (n := 16) (ci := 8) (x := 149 + a) (l := true) (i := Int32.ofNat nw) (kdf_KT (KT_arr (by decide) (by decide))) (by decide) (kdf_of (by omega) (by unfold nwE; simp (decide := true) only [u2_same, u2_d0, ne_eq]))
  simp only [e3, Option.map_some] at hsq
  -- rows of the new state
  let I1 : Nat → Nat → Int32 := u2 (u2 (nwI I a W H s o) 1 (upd (I 1) 1 (Int32.ofNat (nw + 1)))) 0 (upd (I 0) 16 0)
  let I2 : Nat → Nat → Int32 := u2 (u2 (u2 (u2 (u2 (u2 (u2 (u2 (u2 (u2 (u2 I1 72 (upd (I 72) 0 0)) 73 (upd (I 73) nw (Int32.ofNat W))) 74 (upd (I 74) nw (Int32.ofNat H))) 75 (upd (I 75) nw s)) 76 (upd (I 76) nw o)) 77 (upd (I 77) nw 0)) 78 (upd (I 78) nw (-1))) 80 (upd (I 80) nw (-2))) 81 (upd (I 81) nw (-2))) 82 (upd (I 82) nw (-1))) 72 (mE (upd (upd (I 72) 0 0) 4 (Int32.ofNat (nw + 1))) 0)
  have nwS : ∀ c, c < 149 → nwI I a W H s o c = I c := by
    intro c hc
    unfold nwI
    rw [u2_ne (by omega), u2_ne (by omega), u2_ne (by omega), u2_ne (by omega), u2_ne (by omega)]
  have rS : ∀ c, c < 149 → c ≠ 0 → c ≠ 1 → c ≠ 72 → c ≠ 73 → c ≠ 74 → c ≠ 75 → c ≠ 76 → c ≠ 77 → c ≠ 78 → c ≠ 80 → c ≠ 81 → c ≠ 82 → I2 c = I c := by
    intro c k0 k1 k2 k3 k4 k5 k6 k7 k8 k9 k10 k11 k12
    show u2 (u2 (u2 (u2 (u2 (u2 (u2 (u2 (u2 (u2 (u2 (u2 (u2 (nwI I a W H s o) 1 _) 0 _) 72 _) 73 _) 74 _) 75 _) 76 _) 77 _) 78 _) 80 _) 81 _) 82 _) 72 _ c = _
    rw [u2_ne k3, u2_ne k12, u2_ne k11, u2_ne k10, u2_ne k9, u2_ne k8, u2_ne k7, u2_ne k6, u2_ne k5, u2_ne k4, u2_ne k3, u2_ne k1, u2_ne k2, nwS c k0]
  have rD : ∀ c, dyn I2 c = nwI I a W H s o (149 + c) := by
    intro c
    show u2 (u2 (u2 (u2 (u2 (u2 (u2 (u2 (u2 (u2 (u2 (u2 (u2 (nwI I a W H s o) 1 _) 0 _) 72 _) 73 _) 74 _) 75 _) 76 _) 77 _) 78 _) 80 _) 81 _) 82 _) 72 _ (149 + c) = _
    rw [u2_ne (by omega), u2_ne (by omega), u2_ne (by omega), u2_ne (by omega), u2_ne (by omega), u2_ne (by omega), u2_ne (by omega), u2_ne (by omega), u2_ne (by omega), u2_ne (by omega), u2_ne (by omega), u2_ne (by omega), u2_ne (by omega)]
  have rO : ∀ c, c < a → dyn I2 c = dyn I c := by
    intro c hc
    rw [rD]
    unfold nwI
    rw [u2_ne (by omega), u2_ne (by omega), u2_ne (by omega), u2_ne (by omega), u2_ne (by omega)]
    rfl
  have n0 : dyn I2 a = nwRow W H s o := by rw [rD]; unfold nwI; simp (decide := true) only [u2_same, u2_d0, ne_eq]
  have n1 : dyn I2 (a + 1) = fun _ => 0 := by rw [rD]; show nwI I a W H s o (149 + a + 1) = _; unfold nwI; simp (decide := true) only [u2_same, u2_dd, ne_eq]
  have n2 : dyn I2 (a + 2) = fun k => if k < W * H then -1 else 0 := by rw [rD]; show nwI I a W H s o (149 + a + 2) = _; unfold nwI; simp (decide := true) only [u2_same, u2_dd, ne_eq]
  have n3 : dyn I2 (a + 3) = fun k => if k < W * H then -2 else 0 := by rw [rD]; show nwI I a W H s o (149 + a + 3) = _; unfold nwI; simp (decide := true) only [u2_same, u2_dd, ne_eq]
  have hlow : ∀ w, w < nw → q w + 5 ≤ a := by
    intro w hw
    have := (hA w hw).2.2.2.2.2.2.2 4 (by omega)
    have h4 : ¬ a ≤ q w + 4 := fun h => by rw [hO _ h] at this; cases this
    omega
  obtain ⟨hB, hC, hD, hE, hF, hG, hH, hI, hU⟩ := hW
  obtain ⟨v1, v2, v3⟩ := hU nw (Nat.le_refl _) (by omega)
  refine ⟨nwE E a (W * H), I2, L2, u2 P2 2 (va_up (P2 2) nw (some (149 + a))), us + 15 + 4 * (W * H), fun w => if w = nw then a else q w, fun w => if w = nw then W else wd w, fun w => if w = nw then H else hg w, fun c => if a ≤ c ∧ c < a + 5 then 1 else ow c, ⟨Int32.ofNat nw, nwE E a (W * H), I1, L2, u2 P2 2 (va_up (P2 2) nw (some (149 + a))), 149 + a + 5, us + 15 + 4 * (W * H), ?_, ?_⟩, by omega, ?_, ?_, ?_, ?_, ?_, ?_, ?_, ?_, ?_⟩
  · simp only [lay] at c1 c3 hsq
    simp (decide := true) only [f_X11_wall_40, f_X11_wall, f_X9_add, hx0, hy0, hs, ho, hn2, e1, e4, c1, c3, nwS 1 (by decide), hsq, oN_succ, oN_pred, nwS 0 (by decide), isO_s, gI_s, gA_s, gL_s, pI_s, pZ_s, pL_s, aI_s, aL_s, aN_s, aQ_s, sI_s, sL_s, cr, LNs, Option.map_some, Option.map_none, Option.bind_some, b2, tr, lt, if_true, if_false, ckZ, X_within, M_in, inR_z, X_refuse, X_tell, X_deny, X_grant, M_refused, M_denied, M_done, M_granted, u2_same, u2_ne, u2_u2, upd_same, upd_ne, aW0, ixR_z, ixR_1, M_isWall, M_isPainter, M_isWork, X_has4, X_has10, X_at, or_false, false_or, or_true, true_or, not_true, not_false_iff, Option.isSome_some, isO_d, gI_d, gA_d, pI_d, ne_eq, not_false_eq_true, u2_hi, u2_hj, u2_dyn, u2_dynj, Nat.reduceAdd, mX_r, mX_rD, mX_rDj, mM_r, mX_u, mX_uM, mX_uD, mX_uDj, mM_u, mM_uX, mM_uD, mM_uDj, u2_dd, u2_d0, u2_0d]
    exact rfl
  · have m72 : I1 72 = I 72 := by show u2 (u2 _ 1 _) 0 _ 72 = _; rw [u2_ne (by decide), u2_ne (by decide), nwS 72 (by decide)]
    have m73 : I1 73 = I 73 := by show u2 (u2 _ 1 _) 0 _ 73 = _; rw [u2_ne (by decide), u2_ne (by decide), nwS 73 (by decide)]
    have m74 : I1 74 = I 74 := by show u2 (u2 _ 1 _) 0 _ 74 = _; rw [u2_ne (by decide), u2_ne (by decide), nwS 74 (by decide)]
    have m75 : I1 75 = I 75 := by show u2 (u2 _ 1 _) 0 _ 75 = _; rw [u2_ne (by decide), u2_ne (by decide), nwS 75 (by decide)]
    have m76 : I1 76 = I 76 := by show u2 (u2 _ 1 _) 0 _ 76 = _; rw [u2_ne (by decide), u2_ne (by decide), nwS 76 (by decide)]
    have m77 : I1 77 = I 77 := by show u2 (u2 _ 1 _) 0 _ 77 = _; rw [u2_ne (by decide), u2_ne (by decide), nwS 77 (by decide)]
    have m78 : I1 78 = I 78 := by show u2 (u2 _ 1 _) 0 _ 78 = _; rw [u2_ne (by decide), u2_ne (by decide), nwS 78 (by decide)]
    have m80 : I1 80 = I 80 := by show u2 (u2 _ 1 _) 0 _ 80 = _; rw [u2_ne (by decide), u2_ne (by decide), nwS 80 (by decide)]
    have m81 : I1 81 = I 81 := by show u2 (u2 _ 1 _) 0 _ 81 = _; rw [u2_ne (by decide), u2_ne (by decide), nwS 81 (by decide)]
    have m82 : I1 82 = I 82 := by show u2 (u2 _ 1 _) 0 _ 82 = _; rw [u2_ne (by decide), u2_ne (by decide), nwS 82 (by decide)]
    show _ = some (Int32.ofNat nw, lay b F _ (u2 (u2 (u2 (u2 (u2 (u2 (u2 (u2 (u2 (u2 (u2 I1 72 (upd (I 72) 0 0)) 73 (upd (I 73) nw (Int32.ofNat W))) 74 (upd (I 74) nw (Int32.ofNat H))) 75 (upd (I 75) nw s)) 76 (upd (I 76) nw o)) 77 (upd (I 77) nw 0)) 78 (upd (I 78) nw (-1))) 80 (upd (I 80) nw (-2))) 81 (upd (I 81) nw (-2))) 82 (upd (I 82) nw (-1))) 72 (mE (upd (upd (I 72) 0 0) 4 (Int32.ofNat (nw + 1))) 0)) _ _ _ _)
    clear_value I1
    simp (decide := true) only [f_X15_wall_45, f_X15_wall, hx0, hy0, hs, ho, m72, m73, m74, m75, m76, m77, m78, m80, m81, m82, hn3, e2, e3, oN_succ, oN_pred, isO_s, gI_s, gA_s, gL_s, pI_s, pZ_s, pL_s, aI_s, aL_s, aN_s, aQ_s, sI_s, sL_s, cr, LNs, Option.map_some, Option.map_none, Option.bind_some, b2, tr, lt, if_true, if_false, ckZ, X_within, M_in, inR_z, X_refuse, X_tell, X_deny, X_grant, M_refused, M_denied, M_done, M_granted, u2_same, u2_ne, u2_u2, upd_same, upd_ne, aW0, ixR_z, ixR_1, M_isWall, M_isPainter, M_isWork, X_has4, X_has10, X_at, or_false, false_or, or_true, true_or, not_true, not_false_iff, Option.isSome_some, isO_d, gI_d, gA_d, pI_d, ne_eq, not_false_eq_true, u2_hi, u2_hj, u2_dyn, u2_dynj, Nat.reduceAdd, mX_r, mX_rD, mX_rDj, mM_r, mX_u, mX_uM, mX_uD, mX_uDj, mM_u, mM_uX, mM_uD, mM_uDj, u2_dd, u2_d0, u2_0d]
    exact rfl
  · have t0 : I2 0 = upd (I 0) 16 0 := by simp (decide := true) only [I2, I1, u2_same, u2_ne, u2_u2, upd_same, upd_ne, mE, u2_dyn, dyn_u2, dyn_hi, u2_hi, u2_hj, u2_dynj, u2_dd, u2_d0, u2_0d]
    have t72 : I2 72 = mE (upd (upd (I 72) 0 0) 4 (Int32.ofNat (nw + 1))) 0 := by simp (decide := true) only [I2, u2_same, u2_ne, u2_u2, upd_same, upd_ne, mE, u2_dyn, dyn_u2, dyn_hi, u2_hi, u2_hj, u2_dynj, u2_dd, u2_d0, u2_0d]
    unfold GTI
    rw [t0, t72]
    simp (decide := true) only [u2_same, u2_ne, u2_u2, upd_same, upd_ne, mE, u2_dyn, dyn_u2, dyn_hi, u2_hi, u2_hj, u2_dynj, u2_dd, u2_d0, u2_0d]
    exact GT_end hT (by decide)
  · have t1 : I2 1 = upd (I 1) 1 (Int32.ofNat (nw + 1)) := by simp (decide := true) only [I2, I1, u2_same, u2_ne, u2_u2, upd_same, upd_ne, mE, u2_dyn, dyn_u2, dyn_hi, u2_hi, u2_hj, u2_dynj, u2_dd, u2_d0, u2_0d]
    have t72 : I2 72 = mE (upd (upd (I 72) 0 0) 4 (Int32.ofNat (nw + 1))) 0 := by simp (decide := true) only [I2, u2_same, u2_ne, u2_u2, upd_same, upd_ne, mE, u2_dyn, dyn_u2, dyn_hi, u2_hi, u2_hj, u2_dynj, u2_dd, u2_d0, u2_0d]
    rw [t1, t72]
    simp (decide := true) only [u2_same, u2_ne, u2_u2, upd_same, upd_ne, mE, u2_dyn, dyn_u2, dyn_hi, u2_hi, u2_hj, u2_dynj, u2_dd, u2_d0, u2_0d]
    exact ⟨by omega, rfl, rfl⟩
  · intro w hw
    have hpn : P2 2 = P 2 := (hLP 2 (Or.inl (by omega))).2
    rw [u2_same, hpn]
    by_cases hwn : w = nw
    · subst hwn
      simp only [if_true]
      refine ⟨vup_same _ _ _, ⟨?_, ?_, ?_, ?_, ?_⟩, w1, w2, g1, g2, ?_, ?_⟩
      · unfold nwE; simp (decide := true) only [u2_same, u2_d0, ne_eq]
      · unfold nwE; simp (decide := true) only [u2_same, u2_dd, ne_eq]
      · unfold nwE; simp (decide := true) only [u2_same, u2_dd, ne_eq]
      · unfold nwE; simp (decide := true) only [u2_same, u2_dd, ne_eq]
      · unfold nwE; simp (decide := true) only [u2_same, u2_dd, ne_eq]
      · intro w' hw' hne
        rw [if_neg (Ne.symm hne)]
        exact Or.inr (hlow w' (by omega))
      · intro i hi
        rw [if_pos ⟨by omega, by omega⟩]
    · have hw' : w < nw := by omega
      simp only [hwn, if_false]
      obtain ⟨p1, p2, p3, p4, p5, p6, p7, p8⟩ := hA w hw'
      have hl := hlow w hw'
      have hee : ∀ i, i < 5 → nwE E a (W * H) (149 + (q w + i)) = E (149 + (q w + i)) := by
        intro i hi
        unfold nwE
        rw [u2_ne (by omega), u2_ne (by omega), u2_ne (by omega), u2_ne (by omega), u2_ne (by omega)]
      refine ⟨by rw [vup_ne hwn]; exact p1, ⟨?_, ?_, ?_, ?_, ?_⟩, p3, p4, p5, p6, ?_, ?_⟩
      · exact (hee 0 (by omega)).trans p2.1
      · exact (hee 1 (by omega)).trans p2.2.1
      · exact (hee 2 (by omega)).trans p2.2.2.1
      · exact (hee 3 (by omega)).trans p2.2.2.2.1
      · exact (hee 4 (by omega)).trans p2.2.2.2.2
      · intro w' hw2 hne
        by_cases hwn2 : w' = nw
        · rw [if_pos hwn2]
          exact Or.inl hl
        · rw [if_neg hwn2]
          exact p7 w' (by omega) hne
      · intro i hi
        rw [if_neg (by omega)]
        exact p8 i hi
  · have t73 : I2 73 = upd (I 73) nw (Int32.ofNat W) := by simp (decide := true) only [I2, u2_same, u2_ne, u2_u2, upd_same, upd_ne, mE, u2_dyn, dyn_u2, dyn_hi, u2_hi, u2_hj, u2_dynj, u2_dd, u2_d0, u2_0d]
    have t74 : I2 74 = upd (I 74) nw (Int32.ofNat H) := by simp (decide := true) only [I2, u2_same, u2_ne, u2_u2, upd_same, upd_ne, mE, u2_dyn, dyn_u2, dyn_hi, u2_hi, u2_hj, u2_dynj, u2_dd, u2_d0, u2_0d]
    have t75 : I2 75 = upd (I 75) nw s := by simp (decide := true) only [I2, u2_same, u2_ne, u2_u2, upd_same, upd_ne, mE, u2_dyn, dyn_u2, dyn_hi, u2_hi, u2_hj, u2_dynj, u2_dd, u2_d0, u2_0d]
    have t76 : I2 76 = upd (I 76) nw o := by simp (decide := true) only [I2, u2_same, u2_ne, u2_u2, upd_same, upd_ne, mE, u2_dyn, dyn_u2, dyn_hi, u2_hi, u2_hj, u2_dynj, u2_dd, u2_d0, u2_0d]
    have t77 : I2 77 = upd (I 77) nw 0 := by simp (decide := true) only [I2, u2_same, u2_ne, u2_u2, upd_same, upd_ne, mE, u2_dyn, dyn_u2, dyn_hi, u2_hi, u2_hj, u2_dynj, u2_dd, u2_d0, u2_0d]
    have t78 : I2 78 = upd (I 78) nw (-1) := by simp (decide := true) only [I2, u2_same, u2_ne, u2_u2, upd_same, upd_ne, mE, u2_dyn, dyn_u2, dyn_hi, u2_hi, u2_hj, u2_dynj, u2_dd, u2_d0, u2_0d]
    have t80 : I2 80 = upd (I 80) nw (-2) := by simp (decide := true) only [I2, u2_same, u2_ne, u2_u2, upd_same, upd_ne, mE, u2_dyn, dyn_u2, dyn_hi, u2_hi, u2_hj, u2_dynj, u2_dd, u2_d0, u2_0d]
    have t81 : I2 81 = upd (I 81) nw (-2) := by simp (decide := true) only [I2, u2_same, u2_ne, u2_u2, upd_same, upd_ne, mE, u2_dyn, dyn_u2, dyn_hi, u2_hi, u2_hj, u2_dynj, u2_dd, u2_d0, u2_0d]
    have t82 : I2 82 = upd (I 82) nw (-1) := by simp (decide := true) only [I2, u2_same, u2_ne, u2_u2, upd_same, upd_ne, mE, u2_dyn, dyn_u2, dyn_hi, u2_hi, u2_hj, u2_dynj, u2_dd, u2_d0, u2_0d]
    have t72 : I2 72 5 = I 72 5 := by
      have : I2 72 = mE (upd (upd (I 72) 0 0) 4 (Int32.ofNat (nw + 1))) 0 := by simp (decide := true) only [I2, u2_same, u2_ne, u2_u2, upd_same, upd_ne, mE, u2_dyn, dyn_u2, dyn_hi, u2_hi, u2_hj, u2_dynj, u2_dd, u2_d0, u2_0d]
      rw [this]; simp (decide := true) only [u2_same, u2_ne, u2_u2, upd_same, upd_ne, mE, u2_dyn, dyn_u2, dyn_hi, u2_hi, u2_hj, u2_dynj, u2_dd, u2_d0, u2_0d]
    have s1 := fun c (h : c < 149 ∧ c ≠ 0 ∧ c ≠ 1 ∧ c ≠ 72 ∧ c ≠ 73 ∧ c ≠ 74 ∧ c ≠ 75 ∧ c ≠ 76 ∧ c ≠ 77 ∧ c ≠ 78 ∧ c ≠ 80 ∧ c ≠ 81 ∧ c ≠ 82) => rS c h.1 h.2.1 h.2.2.1 h.2.2.2.1 h.2.2.2.2.1 h.2.2.2.2.2.1 h.2.2.2.2.2.2.1 h.2.2.2.2.2.2.2.1 h.2.2.2.2.2.2.2.2.1 h.2.2.2.2.2.2.2.2.2.1 h.2.2.2.2.2.2.2.2.2.2.1 h.2.2.2.2.2.2.2.2.2.2.2.1 h.2.2.2.2.2.2.2.2.2.2.2.2
    unfold WALL
    rw [t73, t74, t75, t76, t77, t78, t80, t81, t82, t72, s1 79 (by decide), s1 83 (by decide), s1 84 (by decide), s1 86 (by decide), s1 87 (by decide), s1 88 (by decide), s1 123 (by decide), s1 129 (by decide), s1 132 (by decide)]
    clear_value I2
    have rq : ∀ w, w < nw → ∀ i, i < 5 → dyn I2 (q w + i) = dyn I (q w + i) := fun w hw i hi => rO _ (by have := hlow w hw; omega)
    have rq0 : ∀ w, w < nw → dyn I2 (q w) = dyn I (q w) := fun w hw => rO _ (by have := hlow w hw; omega)
    refine ⟨?_, ?_, ?_, ⟨?_, ?_⟩, ?_, ?_, ?_, ?_, ?_⟩
    · intro w hw
      by_cases hwn : w = nw
      · subst hwn
        simp only [if_true, upd_same, n0]
        exact ⟨rfl, rfl, trivial, trivial⟩
      · simp only [hwn, if_false, upd_ne hwn, rq0 w (by omega)]
        exact hB w (by omega)
    · intro w hw
      by_cases hwn : w = nw
      · subst hwn
        simp only [if_true, upd_same, n0, v1]
        refine ⟨rfl, ?_, rfl, rfl, by decide, by decide⟩
        obtain ⟨z, hz1, rfl⟩ := lo_of (n := 3) hs (by decide)
        have : z = 0 ∨ z = 1 ∨ z = 2 ∨ z = 3 := by omega
        rcases this with rfl | rfl | rfl | rfl
        · exact Or.inl rfl
        · exact Or.inr (Or.inl rfl)
        · exact Or.inr (Or.inr (Or.inl rfl))
        · exact Or.inr (Or.inr (Or.inr rfl))
      · simp only [hwn, if_false, upd_ne hwn, rq0 w (by omega)]
        exact hC w (by omega)
    · intro w hw
      by_cases hwn : w = nw
      · subst hwn
        simp only [if_true, upd_same, n0, v2]
        exact ⟨rfl, Or.inl trivial, fun y _ => rfl⟩
      · simp only [hwn, if_false, upd_ne hwn, rq0 w (by omega)]
        exact hD w (by omega)
    · intro w hw
      by_cases hwn : w = nw
      · subst hwn
        simp only [if_true, upd_same, n0]
        exact ⟨rfl, rfl, rfl, Or.inl trivial, Or.inl trivial⟩
      · simp only [hwn, if_false, upd_ne hwn, rq0 w (by omega)]
        exact hE.1 w (by omega)
    · intro k w hk hw hov hww
      obtain ⟨w', hw', hwe⟩ := hWk k hk
      rw [hwe, oN_eq (by omega) (by omega)] at hww
      subst hww
      rw [upd_ne (show w' ≠ nw by omega)]
      exact hE.2 k w' hk hw' hov hwe
    · intro w hw c hc
      by_cases hwn : w = nw
      · subst hwn
        simp only [if_true, n1, (v3 c hc).1]
        exact ⟨Or.inl trivial, fun _ => trivial, fun _ => trivial⟩
      · simp only [hwn, if_false, rq w (by omega) 1 (by omega)]
        exact hF w (by omega) c hc
    · intro w hw c hc
      by_cases hwn : w = nw
      · subst hwn
        simp only [if_true] at hc
        simp only [if_true, n2, hc, (v3 c (by omega)).2]
        exact ⟨trivial, by decide, by decide, fun _ => trivial⟩
      · simp only [hwn, if_false] at hc
        simp only [hwn, if_false, rq w (by omega) 2 (by omega)]
        exact hG w (by omega) c hc
    · intro w hw c hc
      by_cases hwn : w = nw
      · subst hwn
        simp only [if_true] at hc
        simp only [if_true, n3, hc, (v3 c (by omega)).2]
        exact ⟨fun _ => trivial, fun h => absurd rfl h⟩
      · simp only [hwn, if_false] at hc
        simp only [hwn, if_false, upd_ne hwn, rq w (by omega) 3 (by omega)]
        exact hH w (by omega) c hc
    · intro w hw k hk hm c hc
      by_cases hwn : w = nw
      · subst hwn
        rw [upd_same] at hm
        exact absurd hm.symm (oN_m2 (by omega))
      · simp only [hwn, if_false] at hc
        rw [upd_ne hwn] at hm
        simp only [hwn, if_false, rq w (by omega) 4 (by omega)]
        exact hI w (by omega) k hk hm c hc
    · intro w k1 k2
      exact hU w (by omega) k2
  · intro c hc
    refine ⟨?_, (hLP c (Or.inl hc)).1⟩
    unfold nwE
    rw [u2_ne (by omega), u2_ne (by omega), u2_ne (by omega), u2_ne (by omega), u2_ne (by omega)]
  · intro c hc h2
    rw [u2_ne h2]
    exact (hLP c (Or.inl hc)).2
  · intro c hc
    exact ⟨if_neg (by omega), rO c hc⟩
  · intro c hc
    show (if a ≤ c ∧ c < a + 5 then 1 else ow c) = 0
    rw [if_neg (by omega)]
    exact hO c (by omega)
  · intro c k hc k1 k2
    simp at k1 k2
    by_cases q0 : c = 0
    · subst q0
      have t0 : I2 0 = upd (I 0) 16 0 := by simp (decide := true) only [I2, I1, u2_same, u2_ne, u2_u2, upd_same, upd_ne, mE, u2_dyn, dyn_u2, dyn_hi, u2_hi, u2_hj, u2_dynj, u2_dd, u2_d0, u2_0d]
      rw [t0]
      exact upd_ne (by omega)
    · by_cases q1 : c = 1
      · subst q1
        have t1 : I2 1 = upd (I 1) 1 (Int32.ofNat (nw + 1)) := by simp (decide := true) only [I2, I1, u2_same, u2_ne, u2_u2, upd_same, upd_ne, mE, u2_dyn, dyn_u2, dyn_hi, u2_hi, u2_hj, u2_dynj, u2_dd, u2_d0, u2_0d]
        rw [t1]
        exact upd_ne (by omega)
      · by_cases q2 : c = 72
        · subst q2
          have t72 : I2 72 = mE (upd (upd (I 72) 0 0) 4 (Int32.ofNat (nw + 1))) 0 := by simp (decide := true) only [I2, u2_same, u2_ne, u2_u2, upd_same, upd_ne, mE, u2_dyn, dyn_u2, dyn_hi, u2_hi, u2_hj, u2_dynj, u2_dd, u2_d0, u2_0d]
          rw [t72]
          unfold mE upd
          rw [if_neg (by omega), if_neg (by omega), if_neg (by omega), if_neg (by omega)]
        · rw [rS c hc q0 q1 q2 (by omega) (by omega) (by omega) (by omega) (by omega) (by omega) (by omega) (by omega) (by omega)]
end WALLD
