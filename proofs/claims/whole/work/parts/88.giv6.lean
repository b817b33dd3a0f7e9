/-! ===== give: a like work outside of the asked walls ===== -/
theorem oN_m12 : ∀ k, k < 40 → ¬ Int32.ofNat k = -2 ∧ ¬ Int32.ofNat k = -1 := by decide +kernel
/-- wall j, not asked, beside w0, shows a work of the style -/
def likeAt (s nk np : Nat) (m82 m85 m111 m124 : RW) (w0 : Nat) (sty : Int32) (j : Nat) : Prop := s.testBit j = false ∧ m85 (16 * w0 + j) ≠ 0 ∧ ∃ k p, k < nk ∧ p < np ∧ m82 j = Int32.ofNat k ∧ m124 k = Int32.ofNat p ∧ m111 p = sty
/-- latest works on both sides -/
def LWx (nw nk np : Nat) (q : Nat → Nat) (I : Nat → Nat → Int32) (m82 m124 : RW) : Prop := ∀ j, j < nw → (I (149 + q j) 8 = -2 ∧ I (149 + q j) 9 = -2 ∧ m82 j = -1) ∨ ∃ k p, k < nk ∧ p < np ∧ m82 j = Int32.ofNat k ∧ m124 k = Int32.ofNat p ∧ I 15 k = Int32.ofNat p ∧ (I (149 + q j) 8 = Int32.ofNat k ∨ (I (149 + q j) 8 = -2 ∧ I (149 + q j) 9 = Int32.ofNat k))
section GIV6
variable {b : Nat} {F : Nat → Option AE} {D E : Nat → Option KD} {I : Nat → Nat → Int32} {L : Nat → Nat → Int64} {P : Nat → Nat → Option Nat} {nx us : Nat}
theorem X_out {s nw nk np w0 : Nat} {sty : Int32} {q wd hg ow : Nat → Nat} {m82 m85 m111 m124 : RW} (hs : s < 65536) (hn : I 1 1 = Int32.ofNat nw) (h16 : nw ≤ 16) (hA : WA nw q wd hg ow E (P 2)) (hG : GBes (I 3) m85) (h3 : I 26 3 = Int32.ofNat s) (hk : I 13 1 = Int32.ofNat nk) (hk4 : nk ≤ 40) (hp : I 5 0 = Int32.ofNat np) (hp1 : np ≤ 10) (h6 : ∀ p, p < np → I 6 p = m111 p) (hL : LWx nw nk np q I m82 m124) (hw0 : w0 < nw) : ∀ (m i : Nat), i + m = nw → ∀ fu, m < fu → ((∃ j, i ≤ j ∧ j < nw ∧ likeAt s nk np m82 m85 m111 m124 w0 sty j) → f_X3_isLikeOutside_2 fu (ad b 26) (Int32.ofNat w0) sty (Int32.ofNat i) (lay b F E I L P nx us) = some (1, (lay b F E I L P nx us))) ∧ ((¬ ∃ j, i ≤ j ∧ j < nw ∧ likeAt s nk np m82 m85 m111 m124 w0 sty j) → f_X3_isLikeOutside_2 fu (ad b 26) (Int32.ofNat w0) sty (Int32.ofNat i) (lay b F E I L P nx us) = some (0, (lay b F E I L P nx us))) := by
  have h40 : I 13 1 ≤ 40 := by rw [hk]; exact oN_leL hk4 (by decide)
  have h10 : I 5 0 ≤ 10 := by rw [hp]; exact oN_leL hp1 (by decide)
  have hx4 := fun p => X_has4 (b := b) (F := F) (E := E) (L := L) (P := P) (nx := nx) (us := us) (p := p) h10
  have hx10 := fun p => X_has10 (b := b) (F := F) (E := E) (L := L) (P := P) (nx := nx) (us := us) (p := p) h40
  intro m
  induction m with
  | zero =>
    intro i hi fu hf
    obtain ⟨fu, rfl⟩ : ∃ f, fu = f + 1 := ⟨fu - 1, by omega⟩
    have : i = nw := by omega
    subst this
    refine ⟨fun ⟨k, h1, h2, _⟩ => absurd h1 (by omega), fun _ => ?_⟩
    simp (decide := true) only [f_X3_isLikeOutside_2, hn, Int32.le_refl, isO_s, gI_s, gA_s, gL_s, pI_s, pZ_s, pL_s, aI_s, aL_s, aN_s, aQ_s, sI_s, sL_s, cr, LNs, Option.map_some, Option.map_none, Option.bind_some, b2, tr, lt, if_true, if_false, ckZ, X_within, M_in, inR_z, X_refuse, X_tell, X_deny, X_grant, M_refused, M_denied, M_done, M_granted, u2_same, u2_ne, u2_u2, upd_same, upd_ne, aW0, ixR_z, ixR_1, M_isWall, M_isPainter, M_isWork, X_has4, X_has10, X_at, or_false, false_or, or_true, true_or, not_true, not_false_iff, Option.isSome_some, isO_d, gI_d, gA_d, pI_d, ne_eq, not_false_eq_true, u2_hi, u2_hj, u2_dyn, u2_dynj, Nat.reduceAdd, mX_r, mX_rD, mX_rDj, mM_r, mX_u, mX_uM, mX_uD, mX_uDj, mM_u, mM_uX, mM_uD, mM_uDj, u2_dd, u2_d0, u2_0d]
  | succ m ih =>
    intro i hi fu hf
    obtain ⟨fu, rfl⟩ : ∃ f, fu = f + 1 := ⟨fu - 1, by omega⟩
    have hin : i < nw := by omega
    have e2 := oN_leF hin (by omega)
    have hwa := wAt_w hn h16 hA hin
    rw [hn] at hwa
    obtain ⟨-, hK, -⟩ := hA i hin
    obtain ⟨k0, -⟩ := WKk hK
    have t0 := tb0 (s := s) (k := i) (by omega) (by omega)
    have hbe := X_bes (b := b) (F := F) (L := L) (nx := nx) (us := us) hn h16 hA hG hw0 hin
    obtain ⟨i1, i2⟩ := ih (i + 1) (by omega) fu (by omega)
    have fin : f_X3_isLikeOutside_2 (fu + 1) (ad b 26) (Int32.ofNat w0) sty (Int32.ofNat i) (lay b F E I L P nx us) = f_X3_isLikeOutside_2 fu (ad b 26) (Int32.ofNat w0) sty (Int32.ofNat (i + 1)) (lay b F E I L P nx us) → ¬ likeAt s nk np m82 m85 m111 m124 w0 sty i → ((∃ j, i ≤ j ∧ j < nw ∧ likeAt s nk np m82 m85 m111 m124 w0 sty j) → f_X3_isLikeOutside_2 (fu + 1) (ad b 26) (Int32.ofNat w0) sty (Int32.ofNat i) (lay b F E I L P nx us) = some (1, (lay b F E I L P nx us))) ∧ ((¬ ∃ j, i ≤ j ∧ j < nw ∧ likeAt s nk np m82 m85 m111 m124 w0 sty j) → f_X3_isLikeOutside_2 (fu + 1) (ad b 26) (Int32.ofNat w0) sty (Int32.ofNat i) (lay b F E I L P nx us) = some (0, (lay b F E I L P nx us))) := by
      intro e hnot
      rw [e]
      refine ⟨?_, ?_⟩
      · rintro ⟨j, j1, j2, j3⟩
        have : j ≠ i := fun q => hnot (q ▸ j3)
        exact i1 ⟨j, by omega, j2, j3⟩
      · intro hq
        exact i2 fun ⟨j, j1, j2, j3⟩ => hq ⟨j, by omega, j2, j3⟩
    by_cases hb : s.testBit i = false
    · by_cases hm : m85 (16 * w0 + i) = 0
      · rw [if_pos hm] at hbe
        refine fin ?_ (fun q => q.2.1 hm)
        simp (decide := true) only [f_X3_isLikeOutside_2, f_X3_isLikeOutside_87, hn, e2, hwa, k0, h3, t0, hb, hbe, oN_succ, isO_s, gI_s, gA_s, gL_s, pI_s, pZ_s, pL_s, aI_s, aL_s, aN_s, aQ_s, sI_s, sL_s, cr, LNs, Option.map_some, Option.map_none, Option.bind_some, b2, tr, lt, if_true, if_false, ckZ, X_within, M_in, inR_z, X_refuse, X_tell, X_deny, X_grant, M_refused, M_denied, M_done, M_granted, u2_same, u2_ne, u2_u2, upd_same, upd_ne, aW0, ixR_z, ixR_1, M_isWall, M_isPainter, M_isWork, X_has4, X_has10, X_at, or_false, false_or, or_true, true_or, not_true, not_false_iff, Option.isSome_some, isO_d, gI_d, gA_d, pI_d, ne_eq, not_false_eq_true, u2_hi, u2_hj, u2_dyn, u2_dynj, Nat.reduceAdd, mX_r, mX_rD, mX_rDj, mM_r, mX_u, mX_uM, mX_uD, mX_uDj, mM_u, mM_uX, mM_uD, mM_uDj, u2_dd, u2_d0, u2_0d]
      · rw [if_neg hm] at hbe
        rcases hL i hin with ⟨l1, l2, l3⟩ | ⟨k, p, k1, p1, l1, l2, l3, l4⟩
        · refine fin ?_ ?_
          · simp (decide := true) only [f_X3_isLikeOutside_2, f_X3_isLikeOutside_87, f_X8_latestWork_20, f_X8_latestWork, hn, e2, hwa, k0, h3, t0, hb, hbe, l1, l2, oN_succ, isO_s, gI_s, gA_s, gL_s, pI_s, pZ_s, pL_s, aI_s, aL_s, aN_s, aQ_s, sI_s, sL_s, cr, LNs, Option.map_some, Option.map_none, Option.bind_some, b2, tr, lt, if_true, if_false, ckZ, X_within, M_in, inR_z, X_refuse, X_tell, X_deny, X_grant, M_refused, M_denied, M_done, M_granted, u2_same, u2_ne, u2_u2, upd_same, upd_ne, aW0, ixR_z, ixR_1, M_isWall, M_isPainter, M_isWork, X_has4, X_has10, X_at, or_false, false_or, or_true, true_or, not_true, not_false_iff, Option.isSome_some, isO_d, gI_d, gA_d, pI_d, ne_eq, not_false_eq_true, u2_hi, u2_hj, u2_dyn, u2_dynj, Nat.reduceAdd, mX_r, mX_rD, mX_rDj, mM_r, mX_u, mX_uM, mX_uD, mX_uDj, mM_u, mM_uX, mM_uD, mM_uDj, u2_dd, u2_d0, u2_0d]
          · rintro ⟨-, -, k, p, k1, -, l4, -⟩
            exact (oN_m12 k (by omega)).2 (l4.symm.trans l3)
        · have n2 := (oN_m12 k (by omega)).1
          have a1 := oN_neg (w := k) (by omega)
          have a2 := oN_leF k1 (by omega)
          have a3 : iN (Int32.ofNat k) 40 = some k := iN_oN (by omega) (by omega)
          have a4 := oN_neg (w := p) (by omega)
          have a5 := oN_leF p1 (by omega)
          have a6 : iN (Int32.ofNat p) 10 = some p := iN_oN (by omega) (by omega)
          have hlw : f_X8_latestWork (ad b (149 + q i)) (lay b F E I L P nx us) = some (Int32.ofNat k, (lay b F E I L P nx us)) := by
            rcases l4 with l4 | ⟨l4, l5⟩
            · simp (decide := true) only [f_X8_latestWork_20, f_X8_latestWork, k0, l4, n2, isO_s, gI_s, gA_s, gL_s, pI_s, pZ_s, pL_s, aI_s, aL_s, aN_s, aQ_s, sI_s, sL_s, cr, LNs, Option.map_some, Option.map_none, Option.bind_some, b2, tr, lt, if_true, if_false, ckZ, X_within, M_in, inR_z, X_refuse, X_tell, X_deny, X_grant, M_refused, M_denied, M_done, M_granted, u2_same, u2_ne, u2_u2, upd_same, upd_ne, aW0, ixR_z, ixR_1, M_isWall, M_isPainter, M_isWork, X_has4, X_has10, X_at, or_false, false_or, or_true, true_or, not_true, not_false_iff, Option.isSome_some, isO_d, gI_d, gA_d, pI_d, ne_eq, not_false_eq_true, u2_hi, u2_hj, u2_dyn, u2_dynj, Nat.reduceAdd, mX_r, mX_rD, mX_rDj, mM_r, mX_u, mX_uM, mX_uD, mX_uDj, mM_u, mM_uX, mM_uD, mM_uDj, u2_dd, u2_d0, u2_0d]
            · simp (decide := true) only [f_X8_latestWork_20, f_X8_latestWork, k0, l4, l5, isO_s, gI_s, gA_s, gL_s, pI_s, pZ_s, pL_s, aI_s, aL_s, aN_s, aQ_s, sI_s, sL_s, cr, LNs, Option.map_some, Option.map_none, Option.bind_some, b2, tr, lt, if_true, if_false, ckZ, X_within, M_in, inR_z, X_refuse, X_tell, X_deny, X_grant, M_refused, M_denied, M_done, M_granted, u2_same, u2_ne, u2_u2, upd_same, upd_ne, aW0, ixR_z, ixR_1, M_isWall, M_isPainter, M_isWork, X_has4, X_has10, X_at, or_false, false_or, or_true, true_or, not_true, not_false_iff, Option.isSome_some, isO_d, gI_d, gA_d, pI_d, ne_eq, not_false_eq_true, u2_hi, u2_hj, u2_dyn, u2_dynj, Nat.reduceAdd, mX_r, mX_rD, mX_rDj, mM_r, mX_u, mX_uM, mX_uD, mX_uDj, mM_u, mM_uX, mM_uD, mM_uDj, u2_dd, u2_d0, u2_0d]
          by_cases hst : m111 p = sty
          · have hrun : f_X3_isLikeOutside_2 (fu + 1) (ad b 26) (Int32.ofNat w0) sty (Int32.ofNat i) (lay b F E I L P nx us) = some (1, (lay b F E I L P nx us)) := by
              simp (decide := true) only [f_X3_isLikeOutside_2, f_X3_isLikeOutside_87, f_X10_tellOf, f_X4_styleOf_18, f_X4_styleOf, hx4, hx10, hn, hk, hp, e2, hwa, k0, h3, t0, hb, hbe, hlw, n2, a1, a2, a3, a4, a5, a6, l3, h6 p p1, hst, isO_s, gI_s, gA_s, gL_s, pI_s, pZ_s, pL_s, aI_s, aL_s, aN_s, aQ_s, sI_s, sL_s, cr, LNs, Option.map_some, Option.map_none, Option.bind_some, b2, tr, lt, if_true, if_false, ckZ, X_within, M_in, inR_z, X_refuse, X_tell, X_deny, X_grant, M_refused, M_denied, M_done, M_granted, u2_same, u2_ne, u2_u2, upd_same, upd_ne, aW0, ixR_z, ixR_1, M_isWall, M_isPainter, M_isWork, X_has4, X_has10, X_at, or_false, false_or, or_true, true_or, not_true, not_false_iff, Option.isSome_some, isO_d, gI_d, gA_d, pI_d, ne_eq, not_false_eq_true, u2_hi, u2_hj, u2_dyn, u2_dynj, Nat.reduceAdd, mX_r, mX_rD, mX_rDj, mM_r, mX_u, mX_uM, mX_uD, mX_uDj, mM_u, mM_uX, mM_uD, mM_uDj, u2_dd, u2_d0, u2_0d]
            exact ⟨fun _ => hrun, fun hq => absurd ⟨i, Nat.le_refl _, hin, hb, hm, k, p, k1, p1, l1, l2, hst⟩ hq⟩
          · refine fin ?_ ?_
            · simp (decide := true) only [f_X3_isLikeOutside_2, f_X3_isLikeOutside_87, f_X10_tellOf, f_X4_styleOf_18, f_X4_styleOf, hx4, hx10, hn, hk, hp, e2, hwa, k0, h3, t0, hb, hbe, hlw, n2, a1, a2, a3, a4, a5, a6, l3, h6 p p1, hst, oN_succ, isO_s, gI_s, gA_s, gL_s, pI_s, pZ_s, pL_s, aI_s, aL_s, aN_s, aQ_s, sI_s, sL_s, cr, LNs, Option.map_some, Option.map_none, Option.bind_some, b2, tr, lt, if_true, if_false, ckZ, X_within, M_in, inR_z, X_refuse, X_tell, X_deny, X_grant, M_refused, M_denied, M_done, M_granted, u2_same, u2_ne, u2_u2, upd_same, upd_ne, aW0, ixR_z, ixR_1, M_isWall, M_isPainter, M_isWork, X_has4, X_has10, X_at, or_false, false_or, or_true, true_or, not_true, not_false_iff, Option.isSome_some, isO_d, gI_d, gA_d, pI_d, ne_eq, not_false_eq_true, u2_hi, u2_hj, u2_dyn, u2_dynj, Nat.reduceAdd, mX_r, mX_rD, mX_rDj, mM_r, mX_u, mX_uM, mX_uD, mX_uDj, mM_u, mM_uX, mM_uD, mM_uDj, u2_dd, u2_d0, u2_0d]
            · rintro ⟨-, -, k', p', k1', p1', l1', l2', hst'⟩
              have ek : k' = k := (oN_eq (by omega) (by omega)).mp (l1'.symm.trans l1)
              subst ek
              have ep : p' = p := (oN_eq (by omega) (by omega)).mp (l2'.symm.trans l2)
              subst ep
              exact hst hst'
    · refine fin ?_ (fun q => hb q.1)
      simp (decide := true) only [f_X3_isLikeOutside_2, f_X3_isLikeOutside_87, hn, e2, hwa, k0, h3, t0, hb, oN_succ, isO_s, gI_s, gA_s, gL_s, pI_s, pZ_s, pL_s, aI_s, aL_s, aN_s, aQ_s, sI_s, sL_s, cr, LNs, Option.map_some, Option.map_none, Option.bind_some, b2, tr, lt, if_true, if_false, ckZ, X_within, M_in, inR_z, X_refuse, X_tell, X_deny, X_grant, M_refused, M_denied, M_done, M_granted, u2_same, u2_ne, u2_u2, upd_same, upd_ne, aW0, ixR_z, ixR_1, M_isWall, M_isPainter, M_isWork, X_has4, X_has10, X_at, or_false, false_or, or_true, true_or, not_true, not_false_iff, Option.isSome_some, isO_d, gI_d, gA_d, pI_d, ne_eq, not_false_eq_true, u2_hi, u2_hj, u2_dyn, u2_dynj, Nat.reduceAdd, mX_r, mX_rD, mX_rDj, mM_r, mX_u, mX_uM, mX_uD, mX_uDj, mM_u, mM_uX, mM_uD, mM_uDj, u2_dd, u2_d0, u2_0d]
end GIV6
