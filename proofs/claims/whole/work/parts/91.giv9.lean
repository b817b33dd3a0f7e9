/-! ===== give: may a painter have a wall ===== -/
/-- painter p0 may have the asked wall at place at0 -/
def mayP (s nw nk np : Nat) (lk : Int32) (T m82 m85 m111 m124 : RW) (ak : Nat → Nat) (at0 p0 : Nat) : Prop := ¬ lk ≤ 0 ∧ (¬ ∃ j, 0 ≤ j ∧ j < nw ∧ likeAt s nk np m82 m85 m111 m124 (ak at0) (m111 p0) j) ∧ ¬ ∃ j, 0 ≤ j ∧ j < at0 ∧ badT np T m85 m111 ak at0 p0 j
/-- the i-th try is of the style and beside -/
def likT (np : Nat) (T m85 m111 : RW) (ak : Nat → Nat) (at0 : Nat) (sty : Int32) (i : Nat) : Prop := ∃ p, p < np ∧ T i = Int32.ofNat p ∧ m111 p = sty ∧ m85 (16 * ak i + ak at0) ≠ 0
section GIV9
variable {b : Nat} {F : Nat → Option AE} {D E : Nat → Option KD} {I : Nat → Nat → Int32} {L : Nat → Nat → Int64} {P : Nat → Nat → Option Nat} {nx us : Nat}
theorem M_may {s nw nk np nv n p0 at0 : Nat} {ak : Nat → Nat} (hn : I 72 4 = Int32.ofNat nw) (h16 : nw ≤ 16) (hk4 : nk ≤ 40) (hp1 : np ≤ 10) (hnv : I 72 59 = Int32.ofNat nv) (h300 : nv ≤ 300) (hn6 : n ≤ 6) (hnn : I 72 72 = Int32.ofNat n) (hK : AK s nw n ak) (hak : ∀ k, k < n → I 118 k = Int32.ofNat (ak k)) (hL : LWm nw nk np (I 82) (I 124)) (hp0 : p0 < np) (hat : at0 < n) (hT : TRd np at0 (I 119)) : (mayP s nw nk np (lkS nv (I 113) (I 115) (I 116) (I 117) p0 (ak at0)) (I 119) (I 82) (I 85) (I 111) (I 124) ak at0 p0 → f_X15_mayHave (ad b 72) (Int32.ofNat p0) (Int32.ofNat at0) (lay b F E I L P nx us) = some (1, (lay b F E I L P nx us))) ∧ (¬ mayP s nw nk np (lkS nv (I 113) (I 115) (I 116) (I 117) p0 (ak at0)) (I 119) (I 82) (I 85) (I 111) (I 124) ak at0 p0 → f_X15_mayHave (ad b 72) (Int32.ofNat p0) (Int32.ofNat at0) (lay b F E I L P nx us) = some (0, (lay b F E I L P nx us))) := by
  have e6 : iN (Int32.ofNat at0) 6 = some at0 := iN_oN (by omega) (by omega)
  have hwa := (hK.1 at0 hat).1
  have hlk := M_likedOf (b := b) (F := F) (E := E) (L := L) (P := P) (nx := nx) (us := us) (I := I) (p := p0) (w := ak at0) hnv h300 (by omega) (by omega)
  obtain ⟨o1, o2⟩ := M_out (b := b) (F := F) (E := E) (L := L) (P := P) (nx := nx) (us := us) (I := I) hn h16 hk4 hp1 hn6 hnn hK hak hL hp0 hat nw 0 (by omega) FU (by unfold FU; omega)
  obtain ⟨t1, t2⟩ := M_tri (b := b) (F := F) (E := E) (L := L) (P := P) (nx := nx) (us := us) (I := I) hn h16 hp1 hn6 hK hak hp0 hat hT at0 0 (by omega) FU (by unfold FU; omega)
  have t0 := M_tri0 (b := b) (F := F) (E := E) (L := L) (P := P) (nx := nx) (us := us) (I := I) (p0 := p0) (at0 := at0) hn h16 (by omega) at0 0 (by omega) FU (by unfold FU; omega)
  have z0 : Int32.ofNat 0 = 0 := rfl
  rw [z0] at o1 o2 t0 t1 t2
  unfold mayP
  generalize lkS nv (I 113) (I 115) (I 116) (I 117) p0 (ak at0) = lk at hlk
  by_cases hl : lk ≤ 0
  · refine ⟨fun q => absurd hl q.1, fun _ => ?_⟩
    simp (decide := true) only [f_X15_mayHave, f_X15_mayHave_19, e6, hak at0 hat, hlk, hl, isO_s, gI_s, gA_s, gL_s, pI_s, pZ_s, pL_s, aI_s, aL_s, aN_s, aQ_s, sI_s, sL_s, cr, LNs, Option.map_some, Option.map_none, Option.bind_some, b2, tr, lt, if_true, if_false, ckZ, X_within, M_in, inR_z, X_refuse, X_tell, X_deny, X_grant, M_refused, M_denied, M_done, M_granted, u2_same, u2_ne, u2_u2, upd_same, upd_ne, aW0, ixR_z, ixR_1, M_isWall, M_isPainter, M_isWork, X_has4, X_has10, X_at, or_false, false_or, or_true, true_or, not_true, not_false_iff, Option.isSome_some, isO_d, gI_d, gA_d, pI_d, ne_eq, not_false_eq_true, u2_hi, u2_hj, u2_dyn, u2_dynj, Nat.reduceAdd, mX_r, mX_rD, mX_rDj, mM_r, mX_u, mX_uM, mX_uD, mX_uDj, mM_u, mM_uX, mM_uD, mM_uDj, u2_dd, u2_d0, u2_0d]
    exact t0
  · have hrun : f_X15_mayHave (ad b 72) (Int32.ofNat p0) (Int32.ofNat at0) (lay b F E I L P nx us) = f_X15_mayHave_23 FU (ad b 72) (Int32.ofNat p0) (Int32.ofNat at0) 1 0 (lay b F E I L P nx us) := by
      simp (decide := true) only [f_X15_mayHave, f_X15_mayHave_19, e6, hak at0 hat, hlk, hl, isO_s, gI_s, gA_s, gL_s, pI_s, pZ_s, pL_s, aI_s, aL_s, aN_s, aQ_s, sI_s, sL_s, cr, LNs, Option.map_some, Option.map_none, Option.bind_some, b2, tr, lt, if_true, if_false, ckZ, X_within, M_in, inR_z, X_refuse, X_tell, X_deny, X_grant, M_refused, M_denied, M_done, M_granted, u2_same, u2_ne, u2_u2, upd_same, upd_ne, aW0, ixR_z, ixR_1, M_isWall, M_isPainter, M_isWork, X_has4, X_has10, X_at, or_false, false_or, or_true, true_or, not_true, not_false_iff, Option.isSome_some, isO_d, gI_d, gA_d, pI_d, ne_eq, not_false_eq_true, u2_hi, u2_hj, u2_dyn, u2_dynj, Nat.reduceAdd, mX_r, mX_rD, mX_rDj, mM_r, mX_u, mX_uM, mX_uD, mX_uDj, mM_u, mM_uX, mM_uD, mM_uDj, u2_dd, u2_d0, u2_0d]
    rw [hrun]
    refine ⟨fun q => (t2 q.2.2).trans (o2 q.2.1), fun q => ?_⟩
    by_cases hb : ∃ j, 0 ≤ j ∧ j < at0 ∧ badT np (I 119) (I 85) (I 111) ak at0 p0 j
    · exact t1 hb
    · refine (t2 hb).trans (o1 ?_)
      exact Classical.byContradiction fun h => q ⟨hl, h, hb⟩
theorem X_tri {s nw np n at0 : Nat} {sty : Int32} {q wd hg ow ak : Nat → Nat} {m85 m111 : RW} (hn : I 1 1 = Int32.ofNat nw) (h16 : nw ≤ 16) (hA : WA nw q wd hg ow E (P 2)) (hG : GBes (I 3) m85) (hp : I 5 0 = Int32.ofNat np) (hp1 : np ≤ 10) (h6 : ∀ p, p < np → I 6 p = m111 p) (hn6 : n ≤ 6) (hK : AK s nw n ak) (hak : ∀ k, k < n → I 27 k = Int32.ofNat (ak k)) (hat : at0 < n) (hT : TRd np at0 (I 30)) : ∀ (m i : Nat), i + m = at0 → ∀ fu, m < fu → ((∃ j, i ≤ j ∧ j < at0 ∧ likT np (I 30) m85 m111 ak at0 sty j) → f_X3_isLikeTried_2 fu (ad b 26) (Int32.ofNat at0) sty (Int32.ofNat i) (lay b F E I L P nx us) = some (1, (lay b F E I L P nx us))) ∧ ((¬ ∃ j, i ≤ j ∧ j < at0 ∧ likT np (I 30) m85 m111 ak at0 sty j) → f_X3_isLikeTried_2 fu (ad b 26) (Int32.ofNat at0) sty (Int32.ofNat i) (lay b F E I L P nx us) = some (0, (lay b F E I L P nx us))) := by
  have h10 : I 5 0 ≤ 10 := by rw [hp]; exact oN_leL hp1 (by decide)
  have hx4 := fun p => X_has4 (b := b) (F := F) (E := E) (L := L) (P := P) (nx := nx) (us := us) (p := p) h10
  have e6 : iN (Int32.ofNat at0) 6 = some at0 := iN_oN (by omega) (by omega)
  have hwa := (hK.1 at0 hat).1
  intro m
  induction m with
  | zero =>
    intro i hi fu hf
    obtain ⟨fu, rfl⟩ : ∃ f, fu = f + 1 := ⟨fu - 1, by omega⟩
    have : i = at0 := by omega
    subst this
    refine ⟨fun ⟨k, h1, h2, _⟩ => absurd h1 (by omega), fun _ => ?_⟩
    simp (decide := true) only [f_X3_isLikeTried_2, Int32.le_refl, isO_s, gI_s, gA_s, gL_s, pI_s, pZ_s, pL_s, aI_s, aL_s, aN_s, aQ_s, sI_s, sL_s, cr, LNs, Option.map_some, Option.map_none, Option.bind_some, b2, tr, lt, if_true, if_false, ckZ, X_within, M_in, inR_z, X_refuse, X_tell, X_deny, X_grant, M_refused, M_denied, M_done, M_granted, u2_same, u2_ne, u2_u2, upd_same, upd_ne, aW0, ixR_z, ixR_1, M_isWall, M_isPainter, M_isWork, X_has4, X_has10, X_at, or_false, false_or, or_true, true_or, not_true, not_false_iff, Option.isSome_some, isO_d, gI_d, gA_d, pI_d, ne_eq, not_false_eq_true, u2_hi, u2_hj, u2_dyn, u2_dynj, Nat.reduceAdd, mX_r, mX_rD, mX_rDj, mM_r, mX_u, mX_uM, mX_uD, mX_uDj, mM_u, mM_uX, mM_uD, mM_uDj, u2_dd, u2_d0, u2_0d]
  | succ m ih =>
    intro i hi fu hf
    obtain ⟨fu, rfl⟩ : ∃ f, fu = f + 1 := ⟨fu - 1, by omega⟩
    have hin : i < at0 := by omega
    have e2 := oN_leF hin (by omega)
    have e3 : iN (Int32.ofNat i) 6 = some i := iN_oN (by omega) (by omega)
    have hwi := (hK.1 i (by omega)).1
    have hbe := X_bes (b := b) (F := F) (L := L) (nx := nx) (us := us) hn h16 hA hG hwi hwa
    obtain ⟨i1, i2⟩ := ih (i + 1) (by omega) fu (by omega)
    have fin : f_X3_isLikeTried_2 (fu + 1) (ad b 26) (Int32.ofNat at0) sty (Int32.ofNat i) (lay b F E I L P nx us) = f_X3_isLikeTried_2 fu (ad b 26) (Int32.ofNat at0) sty (Int32.ofNat (i + 1)) (lay b F E I L P nx us) → ¬ likT np (I 30) m85 m111 ak at0 sty i → ((∃ j, i ≤ j ∧ j < at0 ∧ likT np (I 30) m85 m111 ak at0 sty j) → f_X3_isLikeTried_2 (fu + 1) (ad b 26) (Int32.ofNat at0) sty (Int32.ofNat i) (lay b F E I L P nx us) = some (1, (lay b F E I L P nx us))) ∧ ((¬ ∃ j, i ≤ j ∧ j < at0 ∧ likT np (I 30) m85 m111 ak at0 sty j) → f_X3_isLikeTried_2 (fu + 1) (ad b 26) (Int32.ofNat at0) sty (Int32.ofNat i) (lay b F E I L P nx us) = some (0, (lay b F E I L P nx us))) := by
      intro e hnot
      rw [e]
      refine ⟨?_, ?_⟩
      · rintro ⟨j, j1, j2, j3⟩
        have : j ≠ i := fun q => hnot (q ▸ j3)
        exact i1 ⟨j, by omega, j2, j3⟩
      · intro hq
        exact i2 fun ⟨j, j1, j2, j3⟩ => hq ⟨j, by omega, j2, j3⟩
    rcases hT i hin with l1 | ⟨p, pp, l1⟩
    · refine fin ?_ ?_
      · simp (decide := true) only [f_X3_isLikeTried_2, f_X3_isLikeTried_59, e2, e3, l1, oN_succ, isO_s, gI_s, gA_s, gL_s, pI_s, pZ_s, pL_s, aI_s, aL_s, aN_s, aQ_s, sI_s, sL_s, cr, LNs, Option.map_some, Option.map_none, Option.bind_some, b2, tr, lt, if_true, if_false, ckZ, X_within, M_in, inR_z, X_refuse, X_tell, X_deny, X_grant, M_refused, M_denied, M_done, M_granted, u2_same, u2_ne, u2_u2, upd_same, upd_ne, aW0, ixR_z, ixR_1, M_isWall, M_isPainter, M_isWork, X_has4, X_has10, X_at, or_false, false_or, or_true, true_or, not_true, not_false_iff, Option.isSome_some, isO_d, gI_d, gA_d, pI_d, ne_eq, not_false_eq_true, u2_hi, u2_hj, u2_dyn, u2_dynj, Nat.reduceAdd, mX_r, mX_rD, mX_rDj, mM_r, mX_u, mX_uM, mX_uD, mX_uDj, mM_u, mM_uX, mM_uD, mM_uDj, u2_dd, u2_d0, u2_0d]
      · rintro ⟨p, pp, h, -⟩
        exact (oN_m12 p (by omega)).1 (h.symm.trans l1)
    · have n2 := (oN_m12 p (by omega)).1
      have a4 := oN_neg (w := p) (by omega)
      have a5 := oN_leF pp (by omega)
      have a6 : iN (Int32.ofNat p) 10 = some p := iN_oN (by omega) (by omega)
      by_cases hst : m111 p = sty
      · by_cases hm : m85 (16 * ak i + ak at0) = 0
        · rw [if_pos hm] at hbe
          refine fin ?_ ?_
          · simp (decide := true) only [f_X3_isLikeTried_2, f_X3_isLikeTried_59, f_X4_styleOf_18, f_X4_styleOf, hx4, hp, e2, e3, e6, l1, n2, a4, a5, a6, h6 p pp, hst, hak i (by omega), hak at0 hat, hbe, oN_succ, isO_s, gI_s, gA_s, gL_s, pI_s, pZ_s, pL_s, aI_s, aL_s, aN_s, aQ_s, sI_s, sL_s, cr, LNs, Option.map_some, Option.map_none, Option.bind_some, b2, tr, lt, if_true, if_false, ckZ, X_within, M_in, inR_z, X_refuse, X_tell, X_deny, X_grant, M_refused, M_denied, M_done, M_granted, u2_same, u2_ne, u2_u2, upd_same, upd_ne, aW0, ixR_z, ixR_1, M_isWall, M_isPainter, M_isWork, X_has4, X_has10, X_at, or_false, false_or, or_true, true_or, not_true, not_false_iff, Option.isSome_some, isO_d, gI_d, gA_d, pI_d, ne_eq, not_false_eq_true, u2_hi, u2_hj, u2_dyn, u2_dynj, Nat.reduceAdd, mX_r, mX_rD, mX_rDj, mM_r, mX_u, mX_uM, mX_uD, mX_uDj, mM_u, mM_uX, mM_uD, mM_uDj, u2_dd, u2_d0, u2_0d]
          · rintro ⟨p', pp', h, -, h5⟩
            exact h5 hm
        · rw [if_neg hm] at hbe
          have hrun : f_X3_isLikeTried_2 (fu + 1) (ad b 26) (Int32.ofNat at0) sty (Int32.ofNat i) (lay b F E I L P nx us) = some (1, (lay b F E I L P nx us)) := by
            simp (decide := true) only [f_X3_isLikeTried_2, f_X3_isLikeTried_59, f_X4_styleOf_18, f_X4_styleOf, hx4, hp, e2, e3, e6, l1, n2, a4, a5, a6, h6 p pp, hst, hak i (by omega), hak at0 hat, hbe, oN_succ, isO_s, gI_s, gA_s, gL_s, pI_s, pZ_s, pL_s, aI_s, aL_s, aN_s, aQ_s, sI_s, sL_s, cr, LNs, Option.map_some, Option.map_none, Option.bind_some, b2, tr, lt, if_true, if_false, ckZ, X_within, M_in, inR_z, X_refuse, X_tell, X_deny, X_grant, M_refused, M_denied, M_done, M_granted, u2_same, u2_ne, u2_u2, upd_same, upd_ne, aW0, ixR_z, ixR_1, M_isWall, M_isPainter, M_isWork, X_has4, X_has10, X_at, or_false, false_or, or_true, true_or, not_true, not_false_iff, Option.isSome_some, isO_d, gI_d, gA_d, pI_d, ne_eq, not_false_eq_true, u2_hi, u2_hj, u2_dyn, u2_dynj, Nat.reduceAdd, mX_r, mX_rD, mX_rDj, mM_r, mX_u, mX_uM, mX_uD, mX_uDj, mM_u, mM_uX, mM_uD, mM_uDj, u2_dd, u2_d0, u2_0d]
          exact ⟨fun _ => hrun, fun hq => absurd ⟨i, Nat.le_refl _, hin, p, pp, l1, hst, hm⟩ hq⟩
      · refine fin ?_ ?_
        · simp (decide := true) only [f_X3_isLikeTried_2, f_X3_isLikeTried_59, f_X4_styleOf_18, f_X4_styleOf, hx4, hp, e2, e3, e6, l1, n2, a4, a5, a6, h6 p pp, hst, oN_succ, isO_s, gI_s, gA_s, gL_s, pI_s, pZ_s, pL_s, aI_s, aL_s, aN_s, aQ_s, sI_s, sL_s, cr, LNs, Option.map_some, Option.map_none, Option.bind_some, b2, tr, lt, if_true, if_false, ckZ, X_within, M_in, inR_z, X_refuse, X_tell, X_deny, X_grant, M_refused, M_denied, M_done, M_granted, u2_same, u2_ne, u2_u2, upd_same, upd_ne, aW0, ixR_z, ixR_1, M_isWall, M_isPainter, M_isWork, X_has4, X_has10, X_at, or_false, false_or, or_true, true_or, not_true, not_false_iff, Option.isSome_some, isO_d, gI_d, gA_d, pI_d, ne_eq, not_false_eq_true, u2_hi, u2_hj, u2_dyn, u2_dynj, Nat.reduceAdd, mX_r, mX_rD, mX_rDj, mM_r, mX_u, mX_uM, mX_uD, mX_uDj, mM_u, mM_uX, mM_uD, mM_uDj, u2_dd, u2_d0, u2_0d]
        · rintro ⟨p', pp', h, h5, -⟩
          have ep : p' = p := (oN_eq (by omega) (by omega)).mp (h.symm.trans l1)
          subst ep
          exact hst h5
end GIV9
