/-! ===== hole ===== -/
/-- the frame of cutting -/
def HF (w a n : Nat) (I I2 : Nat → Nat → Int32) : Prop := (∀ c, c ≠ 149 + a + 1 → c ≠ 149 + a + 2 → c ≠ 149 + a + 3 → c ≠ 84 → c ≠ 86 → I2 c = I c)
theorem HF.refl {w a n : Nat} (I : Nat → Nat → Int32) : HF w a n I I := fun _ _ _ _ _ _ => rfl
theorem HF.trans {w a n : Nat} {I I2 I3 : Nat → Nat → Int32} (h : HF w a n I I2) (h2 : HF w a n I2 I3) : HF w a n I I3 := fun c a b d e f => by rw [h2 c a b d e f, h c a b d e f]
section HOLE
variable {b : Nat} {F : Nat → Option AE} {D E : Nat → Option KD} {I : Nat → Nat → Int32} {L : Nat → Nat → Int64} {P : Nat → Nat → Option Nat} {nx us : Nat}
theorem hole1 {nw nk nt w i j : Nat} {q wd hg ow : Nat → Nat} (hA : WA nw q wd hg ow E (P 2)) (h16 : nw ≤ 16) (hw : w < nw) (hi : i < wd w) (hj : j < hg w) (hW : WALL nw nk nt q wd hg I) (h80 : I 80 w = -2) :
    ∃ (v : Int32) (I2 : Nat → Nat → Int32), WALL nw nk nt q wd hg I2 ∧ HF w (q w) (wd w * hg w) I I2 ∧
    (∀ (J : Nat → Nat → Int32) (fu : Nat) (k20 : Nat → Int32 → Int32 → Int32 → Int32 → Int32 → Int32 → AH → Option (Int32 × AH)) (x y ww hh n : Int32), ¬ x + ww ≤ Int32.ofNat i → f_X8_cut_32 k20 (fu + 1) (ad b (149 + q w)) x y ww hh n (Int32.ofNat j) (Int32.ofNat i) (lay b F E (mX J I) L P nx us) = f_X8_cut_32 k20 fu (ad b (149 + q w)) x y ww hh (n + v) (Int32.ofNat j) (Int32.ofNat (i + 1)) (lay b F E (mX J I2) L P nx us)) ∧
    (∀ (J : Nat → Nat → Int32) (fu : Nat) (k114 : Nat → Int32 → Int32 → Int32 → Int32 → Int32 → Int32 → Int32 → AH → Option (Int32 × AH)) (x y ww hh n : Int32), ¬ x + ww ≤ Int32.ofNat i → f_X15_hole_126 k114 (fu + 1) (ad b 72) (Int32.ofNat w) x y ww hh n (Int32.ofNat j) (Int32.ofNat i) (lay b F E (mM J I) L P nx us) = f_X15_hole_126 k114 fu (ad b 72) (Int32.ofNat w) x y ww hh (n + v) (Int32.ofNat j) (Int32.ofNat (i + 1)) (lay b F E (mM J I2) L P nx us)) := by
  have hW0 := hW
  obtain ⟨hB, hC, hD, hE, hF, hG, hH, hI, hU⟩ := hW
  obtain ⟨-, hK, a1, a2, a3, a4, a5, a6⟩ := hA w hw
  obtain ⟨k0, k1, k2, k3, k4⟩ := WKk hK
  have h192 := n192 a2 a4
  obtain ⟨b1, b2', b3, b4⟩ := hB w hw
  have b1' : I (149 + q w) 0 = Int32.ofNat (wd w) := b1
  have hp := plc hi hj
  have e0 : iN (Int32.ofNat w) 16 = some w := iN_oN (by omega) (by omega)
  have e1 : iN (Int32.ofNat (j * wd w + i)) (wd w * hg w) = some (j * wd w + i) := iN_oN hp (by omega)
  have e2 : iN (Int32.ofNat (192 * w + (j * wd w + i))) 3072 = some (192 * w + (j * wd w + i)) := iN_oN (by omega) (by omega)
  have e4 : Int32.ofNat (192 * w) + Int32.ofNat (wd w) * Int32.ofNat j + Int32.ofNat i = Int32.ofNat (192 * w + (j * wd w + i)) := by
    rw [oN_mul, oN_add, oN_add, Nat.mul_comm (wd w) j, Nat.add_assoc]
  have e6 : (192 : Int32) * Int32.ofNat w = Int32.ofNat (192 * w) := oN_mul 192 w
  obtain ⟨f1, f2, -⟩ := hF w hw (j * wd w + i) (by omega)
  have f2 := f2 hp
  rw [dy1] at f2
  have w1 : aW 2 1 = 1 := by decide
  by_cases hz : I 84 (192 * w + (j * wd w + i)) = 0
  · -- a new one
    refine ⟨1, u2 (u2 (u2 (u2 (u2 I (149 + q w + 1) (upd (I (149 + q w + 1)) (j * wd w + i) 1)) (149 + q w + 2) (upd (I (149 + q w + 2)) (j * wd w + i) (-1))) (149 + q w + 3) (upd (I (149 + q w + 3)) (j * wd w + i) (-2))) 84 (upd (I 84) (192 * w + (j * wd w + i)) 1)) 86 (upd (I 86) (192 * w + (j * wd w + i)) (-1)), ?_, ?_, ?_, ?_⟩
    · have hoth : ∀ w', w' < nw → w' ≠ w → ∀ i, i < 5 → ∀ i', i' < 5 → q w' + i ≠ q w + i' := by
        intro w' hw' hne i hi i' hi'
        have := a5 w' hw' (Ne.symm hne)
        omega
      have dd : ∀ c, c ≠ q w + 1 → c ≠ q w + 2 → c ≠ q w + 3 → dyn (u2 (u2 (u2 (u2 (u2 I (149 + q w + 1) (upd (I (149 + q w + 1)) (j * wd w + i) 1)) (149 + q w + 2) (upd (I (149 + q w + 2)) (j * wd w + i) (-1))) (149 + q w + 3) (upd (I (149 + q w + 3)) (j * wd w + i) (-2))) 84 (upd (I 84) (192 * w + (j * wd w + i)) 1)) 86 (upd (I 86) (192 * w + (j * wd w + i)) (-1))) c = dyn I c := by
        intro c c1 c2 c3
        show u2 (u2 (u2 (u2 (u2 I _ _) _ _) _ _) _ _) _ _ (149 + c) = I (149 + c)
        rw [u2_ne (by omega), u2_ne (by omega), u2_ne (by omega), u2_ne (by omega), u2_ne (by omega)]
      generalize hII : u2 (u2 (u2 (u2 (u2 I (149 + q w + 1) (upd (I (149 + q w + 1)) (j * wd w + i) 1)) (149 + q w + 2) (upd (I (149 + q w + 2)) (j * wd w + i) (-1))) (149 + q w + 3) (upd (I (149 + q w + 3)) (j * wd w + i) (-2))) 84 (upd (I 84) (192 * w + (j * wd w + i)) 1)) 86 (upd (I 86) (192 * w + (j * wd w + i)) (-1)) = I2 at dd ⊢
      have d0 : ∀ w', w' < nw → dyn I2 (q w') = dyn I (q w') := by
        intro w' hw'
        by_cases hne : w' = w
        · subst hne; exact dd _ (by omega) (by omega) (by omega)
        · have t1 := hoth w' hw' hne 0 (by omega) 1 (by omega)
          have t2 := hoth w' hw' hne 0 (by omega) 2 (by omega)
          have t3 := hoth w' hw' hne 0 (by omega) 3 (by omega)
          exact dd _ (by omega) (by omega) (by omega)
      have d4 : ∀ w', w' < nw → w' ≠ w → ∀ e, e < 5 → dyn I2 (q w' + e) = dyn I (q w' + e) := by
        intro w' hw' hne e he
        exact dd _ (hoth w' hw' hne e he 1 (by omega)) (hoth w' hw' hne e he 2 (by omega)) (hoth w' hw' hne e he 3 (by omega))
      have rS : ∀ c, c < 149 → c ≠ 84 → c ≠ 86 → I2 c = I c := by
        intro c c1 c2 c3
        rw [← hII, u2_ne c3, u2_ne c2, u2_ne (by omega), u2_ne (by omega), u2_ne (by omega)]
      have r84 : I2 84 = upd (I 84) (192 * w + (j * wd w + i)) 1 := by rw [← hII]; simp (decide := true) only [u2_same, u2_ne, u2_u2, upd_same, upd_ne, mE, u2_dyn, dyn_u2, dyn_hi, u2_hi, u2_hj, u2_dynj, u2_dd, u2_d0, u2_0d]
      have r86 : I2 86 = upd (I 86) (192 * w + (j * wd w + i)) (-1) := by rw [← hII]; simp (decide := true) only [u2_same, u2_ne, u2_u2, upd_same, upd_ne, mE, u2_dyn, dyn_u2, dyn_hi, u2_hi, u2_hj, u2_dynj, u2_dd, u2_d0, u2_0d]
      have g1 : dyn I2 (q w + 1) = upd (I (149 + q w + 1)) (j * wd w + i) 1 := by rw [dy1, ← hII]; simp (decide := true) only [u2_same, u2_ne, u2_u2, upd_same, upd_ne, mE, u2_dyn, dyn_u2, dyn_hi, u2_hi, u2_hj, u2_dynj, u2_dd, u2_d0, u2_0d]
      have g2 : dyn I2 (q w + 2) = upd (I (149 + q w + 2)) (j * wd w + i) (-1) := by rw [dy2, ← hII]; simp (decide := true) only [u2_same, u2_ne, u2_u2, upd_same, upd_ne, mE, u2_dyn, dyn_u2, dyn_hi, u2_hi, u2_hj, u2_dynj, u2_dd, u2_d0, u2_0d]
      have g3 : dyn I2 (q w + 3) = upd (I (149 + q w + 3)) (j * wd w + i) (-2) := by rw [dy3, ← hII]; simp (decide := true) only [u2_same, u2_ne, u2_u2, upd_same, upd_ne, mE, u2_dyn, dyn_u2, dyn_hi, u2_hi, u2_hj, u2_dynj, u2_dd, u2_d0, u2_0d]
      have n84 : ∀ w' c, c < 192 → w' ≠ w → 192 * w' + c ≠ 192 * w + (j * wd w + i) := by intro w' c h1 h2; omega
      unfold WALL
      rw [rS 73 (by decide) (by decide) (by decide), rS 74 (by decide) (by decide) (by decide), rS 75 (by decide) (by decide) (by decide), rS 76 (by decide) (by decide) (by decide), rS 79 (by decide) (by decide) (by decide), rS 72 (by decide) (by decide) (by decide), rS 77 (by decide) (by decide) (by decide), rS 78 (by decide) (by decide) (by decide), rS 83 (by decide) (by decide) (by decide), rS 80 (by decide) (by decide) (by decide), rS 81 (by decide) (by decide) (by decide), rS 82 (by decide) (by decide) (by decide), rS 123 (by decide) (by decide) (by decide), rS 129 (by decide) (by decide) (by decide), rS 87 (by decide) (by decide) (by decide), rS 88 (by decide) (by decide) (by decide), rS 132 (by decide) (by decide) (by decide), r84, r86]
      refine ⟨?_, ?_, ?_, ⟨?_, hE.2⟩, ?_, ?_, ?_, ?_, ?_⟩
      · intro w' hw'; rw [d0 w' hw']; exact hB w' hw'
      · intro w' hw'; rw [d0 w' hw']; exact hC w' hw'
      · intro w' hw'; rw [d0 w' hw']; exact hD w' hw'
      · intro w' hw'; rw [d0 w' hw']; exact hE.1 w' hw'
      · intro w' hw' c hc
        by_cases hne : w' = w
        · subst hne
          rw [g1]
          by_cases hcc : c = j * wd w' + i
          · subst hcc
            rw [upd_same, upd_same]
            exact ⟨Or.inr rfl, fun _ => rfl, fun h => by omega⟩
          · rw [upd_ne (show 192 * w' + c ≠ 192 * w' + (j * wd w' + i) by omega), upd_ne hcc]
            exact hF w' hw' c hc
        · rw [d4 w' hw' hne 1 (by omega), upd_ne (n84 w' c hc hne)]
          exact hF w' hw' c hc
      · intro w' hw' c hc
        obtain ⟨-, -, c1, c2, c3, c4, -, -⟩ := hA w' hw'
        have h192' := n192 c2 c4
        by_cases hne : w' = w
        · subst hne
          rw [g2]
          by_cases hcc : c = j * wd w' + i
          · subst hcc
            rw [upd_same, upd_same, upd_same]
            exact ⟨rfl, by decide, by decide, fun _ => rfl⟩
          · rw [upd_ne (show 192 * w' + c ≠ 192 * w' + (j * wd w' + i) by omega), upd_ne (show 192 * w' + c ≠ 192 * w' + (j * wd w' + i) by omega), upd_ne hcc]
            exact hG w' hw' c hc
        · rw [d4 w' hw' hne 2 (by omega), upd_ne (n84 w' c (by omega) hne), upd_ne (n84 w' c (by omega) hne)]
          exact hG w' hw' c hc
      · intro w' hw' c hc
        obtain ⟨-, -, c1, c2, c3, c4, -, -⟩ := hA w' hw'
        have h192' := n192 c2 c4
        by_cases hne : w' = w
        · subst hne
          rw [g3]
          by_cases hcc : c = j * wd w' + i
          · subst hcc
            rw [upd_same, upd_same]
            exact ⟨fun _ => rfl, fun h => absurd rfl h⟩
          · rw [upd_ne (show 192 * w' + c ≠ 192 * w' + (j * wd w' + i) by omega), upd_ne hcc]
            exact hH w' hw' c hc
        · rw [d4 w' hw' hne 3 (by omega), upd_ne (n84 w' c (by omega) hne)]
          exact hH w' hw' c hc
      · intro w' hw' k hk hm c hc
        obtain ⟨-, -, c1, c2, c3, c4, -, -⟩ := hA w' hw'
        have h192' := n192 c2 c4
        by_cases hne : w' = w
        · subst hne
          rw [h80] at hm
          exact absurd hm.symm (oN_m2 (by omega))
        · rw [d4 w' hw' hne 4 (by omega), upd_ne (n84 w' c (by omega) hne)]
          exact hI w' hw' k hk hm c hc
      · intro w' h1 h2
        obtain ⟨u1, u2', u3⟩ := hU w' h1 h2
        refine ⟨u1, u2', fun c hc => ?_⟩
        rw [upd_ne (n84 w' c hc (by omega)), upd_ne (n84 w' c hc (by omega))]
        exact u3 c hc
    · intro c c1 c2 c3 c4 c5
      rw [u2_ne c5, u2_ne c4, u2_ne c3, u2_ne c2, u2_ne c1]
    · intro J fu k20 x y ww hh n hc
      rw [hz] at f2
      simp (decide := true) only [f_X8_cut_32, f_X8_cut_88, f_X8_placeOf, hc, k0, b1', oN_mul, oN_add, aI_d k1 (by decide), sI_d k1 (by decide), sI_d k2 (by decide), sI_d k3 (by decide), e1, f2, w1, by_m1.2, by_m2.2, oN_succ, isO_s, gI_s, gA_s, gL_s, pI_s, pZ_s, pL_s, aI_s, aL_s, aN_s, aQ_s, sI_s, sL_s, cr, LNs, Option.map_some, Option.map_none, Option.bind_some, b2, tr, lt, if_true, if_false, ckZ, X_within, M_in, inR_z, X_refuse, X_tell, X_deny, X_grant, M_refused, M_denied, M_done, M_granted, u2_same, u2_ne, u2_u2, upd_same, upd_ne, aW0, ixR_z, ixR_1, M_isWall, M_isPainter, M_isWork, X_has4, X_has10, X_at, or_false, false_or, or_true, true_or, not_true, not_false_iff, Option.isSome_some, isO_d, gI_d, gA_d, pI_d, ne_eq, not_false_eq_true, u2_hi, u2_hj, u2_dyn, u2_dynj, Nat.reduceAdd, mX_r, mX_rD, mX_rDj, mM_r, mX_u, mX_uM, mX_uD, mX_uDj, mM_u, mM_uX, mM_uD, mM_uDj, u2_dd, u2_d0, u2_0d]
    · intro J fu k114 x y ww hh n hc
      simp (decide := true) only [f_X15_hole_126, f_X15_hole_163, f_X15_cellOf, hc, e0, b3, e6, e4, e2, hz, w1, oN_succ, isO_s, gI_s, gA_s, gL_s, pI_s, pZ_s, pL_s, aI_s, aL_s, aN_s, aQ_s, sI_s, sL_s, cr, LNs, Option.map_some, Option.map_none, Option.bind_some, b2, tr, lt, if_true, if_false, ckZ, X_within, M_in, inR_z, X_refuse, X_tell, X_deny, X_grant, M_refused, M_denied, M_done, M_granted, u2_same, u2_ne, u2_u2, upd_same, upd_ne, aW0, ixR_z, ixR_1, M_isWall, M_isPainter, M_isWork, X_has4, X_has10, X_at, or_false, false_or, or_true, true_or, not_true, not_false_iff, Option.isSome_some, isO_d, gI_d, gA_d, pI_d, ne_eq, not_false_eq_true, u2_hi, u2_hj, u2_dyn, u2_dynj, Nat.reduceAdd, mX_r, mX_rD, mX_rDj, mM_r, mX_u, mX_uM, mX_uD, mX_uDj, mM_u, mM_uX, mM_uD, mM_uDj, u2_dd, u2_d0, u2_0d]
  · have hz1 := f1.resolve_left hz
    obtain ⟨-, -, -, g4⟩ := hG w hw (j * wd w + i) hp
    have g4 := g4 hz
    refine ⟨0, I, hW0, HF.refl I, ?_, ?_⟩
    · intro J fu k20 x y ww hh n hc
      rw [hz1] at f2
      simp (decide := true) only [f_X8_cut_32, f_X8_cut_88, f_X8_placeOf, hc, k0, b1', oN_mul, oN_add, aI_d k1 (by decide), e1, f2, oN_succ, Int32.add_zero, isO_s, gI_s, gA_s, gL_s, pI_s, pZ_s, pL_s, aI_s, aL_s, aN_s, aQ_s, sI_s, sL_s, cr, LNs, Option.map_some, Option.map_none, Option.bind_some, b2, tr, lt, if_true, if_false, ckZ, X_within, M_in, inR_z, X_refuse, X_tell, X_deny, X_grant, M_refused, M_denied, M_done, M_granted, u2_same, u2_ne, u2_u2, upd_same, upd_ne, aW0, ixR_z, ixR_1, M_isWall, M_isPainter, M_isWork, X_has4, X_has10, X_at, or_false, false_or, or_true, true_or, not_true, not_false_iff, Option.isSome_some, isO_d, gI_d, gA_d, pI_d, ne_eq, not_false_eq_true, u2_hi, u2_hj, u2_dyn, u2_dynj, Nat.reduceAdd, mX_r, mX_rD, mX_rDj, mM_r, mX_u, mX_uM, mX_uD, mX_uDj, mM_u, mM_uX, mM_uD, mM_uDj, u2_dd, u2_d0, u2_0d]
    · intro J fu k114 x y ww hh n hc
      simp (decide := true) only [f_X15_hole_126, f_X15_hole_163, f_X15_cellOf, hc, e0, b3, e6, e4, e2, hz1, w1, oN_succ, Int32.add_zero, isO_s, gI_s, gA_s, gL_s, pI_s, pZ_s, pL_s, aI_s, aL_s, aN_s, aQ_s, sI_s, sL_s, cr, LNs, Option.map_some, Option.map_none, Option.bind_some, b2, tr, lt, if_true, if_false, ckZ, X_within, M_in, inR_z, X_refuse, X_tell, X_deny, X_grant, M_refused, M_denied, M_done, M_granted, u2_same, u2_ne, u2_u2, upd_same, upd_ne, aW0, ixR_z, ixR_1, M_isWall, M_isPainter, M_isWork, X_has4, X_has10, X_at, or_false, false_or, or_true, true_or, not_true, not_false_iff, Option.isSome_some, isO_d, gI_d, gA_d, pI_d, ne_eq, not_false_eq_true, u2_hi, u2_hj, u2_dyn, u2_dynj, Nat.reduceAdd, mX_r, mX_rD, mX_rDj, mM_r, mX_u, mX_uM, mX_uD, mX_uDj, mM_u, mM_uX, mM_uD, mM_uDj, u2_dd, u2_d0, u2_0d]
      rw [upd_id hz1, u2_id' (c := 84) (by simp (decide := true) only [isO_s, gI_s, gA_s, gL_s, pI_s, pZ_s, pL_s, aI_s, aL_s, aN_s, aQ_s, sI_s, sL_s, cr, LNs, Option.map_some, Option.map_none, Option.bind_some, b2, tr, lt, if_true, if_false, ckZ, X_within, M_in, inR_z, X_refuse, X_tell, X_deny, X_grant, M_refused, M_denied, M_done, M_granted, u2_same, u2_ne, u2_u2, upd_same, upd_ne, aW0, ixR_z, ixR_1, M_isWall, M_isPainter, M_isWork, X_has4, X_has10, X_at, or_false, false_or, or_true, true_or, not_true, not_false_iff, Option.isSome_some, isO_d, gI_d, gA_d, pI_d, ne_eq, not_false_eq_true, u2_hi, u2_hj, u2_dyn, u2_dynj, Nat.reduceAdd, mX_r, mX_rD, mX_rDj, mM_r, mX_u, mX_uM, mX_uD, mX_uDj, mM_u, mM_uX, mM_uD, mM_uDj, u2_dd, u2_d0, u2_0d]), upd_id g4, u2_id' (c := 86) (by simp (decide := true) only [isO_s, gI_s, gA_s, gL_s, pI_s, pZ_s, pL_s, aI_s, aL_s, aN_s, aQ_s, sI_s, sL_s, cr, LNs, Option.map_some, Option.map_none, Option.bind_some, b2, tr, lt, if_true, if_false, ckZ, X_within, M_in, inR_z, X_refuse, X_tell, X_deny, X_grant, M_refused, M_denied, M_done, M_granted, u2_same, u2_ne, u2_u2, upd_same, upd_ne, aW0, ixR_z, ixR_1, M_isWall, M_isPainter, M_isWork, X_has4, X_has10, X_at, or_false, false_or, or_true, true_or, not_true, not_false_iff, Option.isSome_some, isO_d, gI_d, gA_d, pI_d, ne_eq, not_false_eq_true, u2_hi, u2_hj, u2_dyn, u2_dynj, Nat.reduceAdd, mX_r, mX_rD, mX_rDj, mM_r, mX_u, mX_uM, mX_uD, mX_uDj, mM_u, mM_uX, mM_uD, mM_uDj, u2_dd, u2_d0, u2_0d])]
end HOLE
