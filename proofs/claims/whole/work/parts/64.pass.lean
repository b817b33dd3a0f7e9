/-! ===== pass ===== -/
section PASS
variable {b : Nat} {F : Nat → Option AE} {D E : Nat → Option KD} {I : Nat → Nat → Int32} {L : Nat → Nat → Int64} {P : Nat → Nat → Option Nat} {nx us : Nat}
/-- all that is done is finished -/
theorem dayFin {nw nk nt np ndr td : Nat} {q wd hg ow : Nat → Nat} (hA : WA nw q wd hg ow E (P 2)) (h40 : nk ≤ 40) : ∀ (m i : Nat), i + m = nk → ∀ I, PRm nw nk nt np ndr td q wd hg I → (∀ j, j < i → I 126 j = 3 → I 129 j ≠ -2) →
    ∃ I2 : Nat → Nat → Int32, PRm nw nk nt np ndr td q wd hg I2 ∧ GWo nk (I2 126) (I2 129) ∧ FinF ow I I2 ∧
    (∀ (J : Nat → Nat → Int32) (fu : Nat) (n : Int32), m < fu → f_X10_finishDone_4 fu (ad b 13) n (Int32.ofNat i) (lay b F E (mX J I) L P nx us) = some (n + sm (fun k => if I 129 k = -2 ∧ I 126 k = 3 then 1 else 0) i m, lay b F E (mX J I2) L P nx us)) ∧
    (∀ (J : Nat → Nat → Int32) (fu : Nat) (k37 : Nat → Int32 → Int32 → Int32 → AH → Option (Int32 × AH)) (i1 i2 i3 : Int32), m < fu → f_X15_pass_71 k37 fu (ad b 72) i1 i2 i3 (Int32.ofNat i) (lay b F E (mM J I) L P nx us) = f_X15_pass_115 k37 (ad b 72) i1 i2 i3 (lay b F E (mM J I2) L P nx us)) := by
  intro m
  induction m with
  | zero =>
    intro i hi I hP hd
    have hi' : i = nk := by omega
    subst hi'
    have hnk := hP.2.1
    refine ⟨I, hP, hd, FinF.refl I, ?_, ?_⟩
    · intro J fu n hfu
      obtain ⟨fu, rfl⟩ : ∃ z, fu = z + 1 := ⟨fu - 1, by omega⟩
      rw [sm_zero]
      simp (decide := true) only [f_X10_finishDone_4, hnk.2.1, Int32.le_refl, isO_s, gI_s, gA_s, gL_s, pI_s, pZ_s, pL_s, aI_s, aL_s, aN_s, aQ_s, sI_s, sL_s, cr, LNs, Option.map_some, Option.map_none, Option.bind_some, b2, tr, lt, if_true, if_false, ckZ, X_within, M_in, inR_z, X_refuse, X_tell, X_deny, X_grant, M_refused, M_denied, M_done, M_granted, u2_same, u2_ne, u2_u2, upd_same, upd_ne, aW0, ixR_z, ixR_1, M_isWall, M_isPainter, M_isWork, X_has4, X_has10, X_at, or_false, false_or, or_true, true_or, not_true, not_false_iff, Option.isSome_some, isO_d, gI_d, gA_d, pI_d, ne_eq, not_false_eq_true, u2_hi, u2_hj, u2_dyn, u2_dynj, Nat.reduceAdd, mX_r, mX_rD, mX_rDj, mM_r, mX_u, mX_uM, mX_uD, mX_uDj, mM_u, mM_uX, mM_uD, mM_uDj, u2_dd, u2_d0, u2_0d]
    · intro J fu k37 i1 i2 i3 hfu
      obtain ⟨fu, rfl⟩ : ∃ z, fu = z + 1 := ⟨fu - 1, by omega⟩
      simp (decide := true) only [f_X15_pass_71, hnk.2.2, Int32.le_refl, isO_s, gI_s, gA_s, gL_s, pI_s, pZ_s, pL_s, aI_s, aL_s, aN_s, aQ_s, sI_s, sL_s, cr, LNs, Option.map_some, Option.map_none, Option.bind_some, b2, tr, lt, if_true, if_false, ckZ, X_within, M_in, inR_z, X_refuse, X_tell, X_deny, X_grant, M_refused, M_denied, M_done, M_granted, u2_same, u2_ne, u2_u2, upd_same, upd_ne, aW0, ixR_z, ixR_1, M_isWall, M_isPainter, M_isWork, X_has4, X_has10, X_at, or_false, false_or, or_true, true_or, not_true, not_false_iff, Option.isSome_some, isO_d, gI_d, gA_d, pI_d, ne_eq, not_false_eq_true, u2_hi, u2_hj, u2_dyn, u2_dynj, Nat.reduceAdd, mX_r, mX_rD, mX_rDj, mM_r, mX_u, mX_uM, mX_uD, mX_uDj, mM_u, mM_uX, mM_uD, mM_uDj, u2_dd, u2_d0, u2_0d]
  | succ m ih =>
    intro i hi I hP hd
    have hik : i < nk := by omega
    have hnk := hP.2.1
    obtain ⟨g1, -, g3, g4, g5, g6, g7, g8, g9, -⟩ := hP.2.2.2.2.2.1 i hik
    have hov := WST_over g7
    have e2 := oN_leF hik (by omega)
    have e3 : iN (Int32.ofNat i) 40 = some i := iN_oN (by omega) (by omega)
    by_cases hc : I 129 i = -2 ∧ I 126 i = 3
    · obtain ⟨c1, c2⟩ := hc
      obtain ⟨I1, p1, p2, p3, p4, p5⟩ := finish1 (b := b) (F := F) (E := E) (L := L) (P := P) (nx := nx) (us := us) hA hP hik c2 c1
      have r126 : I1 126 = I 126 := p3.1 126 (by decide) (by decide)
      have htd := hP.2.2.2.1.1
      obtain ⟨I2, z1, z2, z3, z4, z5⟩ := ih (i + 1) (by omega) I1 p1 (by
        intro j hj h3
        rw [p2]
        by_cases hz : j = i
        · subst hz; rw [upd_same]; exact oN_m2 (by omega)
        · rw [upd_ne hz]; rw [r126] at h3; exact hd j (by omega) h3)
      have hsm : sm (fun k => if I 129 k = -2 ∧ I 126 k = 3 then 1 else 0) (i + 1) m = sm (fun k => if I1 129 k = -2 ∧ I1 126 k = 3 then (1 : Int32) else 0) (i + 1) m := by
        refine sm_congr _ _ ?_
        intro k hk1 hk2
        rw [p2, r126, upd_ne (show k ≠ i by omega)]
      refine ⟨I2, z1, z2, p3.trans z3, ?_, ?_⟩
      · intro J fu n hfu
        obtain ⟨fu, rfl⟩ : ∃ z, fu = z + 1 := ⟨fu - 1, by omega⟩
        have h5 : ¬ I 18 i < I 17 i := fun q => hov.mp q c2
        have c1' : I 20 i = -2 := by rw [g8]; exact c1
        have z4 := z4 J fu (n + 1) (by omega)
        rw [← sm_step, if_pos ⟨c1, c2⟩, hsm, ← z4]
        simp (decide := true) only [f_X10_finishDone_4, f_X10_finishDone_46, hnk.2.1, e2, e3, c1', h5, p4 J, oN_succ, isO_s, gI_s, gA_s, gL_s, pI_s, pZ_s, pL_s, aI_s, aL_s, aN_s, aQ_s, sI_s, sL_s, cr, LNs, Option.map_some, Option.map_none, Option.bind_some, b2, tr, lt, if_true, if_false, ckZ, X_within, M_in, inR_z, X_refuse, X_tell, X_deny, X_grant, M_refused, M_denied, M_done, M_granted, u2_same, u2_ne, u2_u2, upd_same, upd_ne, aW0, ixR_z, ixR_1, M_isWall, M_isPainter, M_isWork, X_has4, X_has10, X_at, or_false, false_or, or_true, true_or, not_true, not_false_iff, Option.isSome_some, isO_d, gI_d, gA_d, pI_d, ne_eq, not_false_eq_true, u2_hi, u2_hj, u2_dyn, u2_dynj, Nat.reduceAdd, mX_r, mX_rD, mX_rDj, mM_r, mX_u, mX_uM, mX_uD, mX_uDj, mM_u, mM_uX, mM_uD, mM_uDj, u2_dd, u2_d0, u2_0d]
      · intro J fu k37 i1 i2 i3 hfu
        obtain ⟨fu, rfl⟩ : ∃ z, fu = z + 1 := ⟨fu - 1, by omega⟩
        have z5 := z5 J fu k37 i1 i2 i3 (by omega)
        simp (decide := true) only [f_X15_pass_71, f_X15_pass_109, hnk.2.2, e2, e3, c1, c2, p5 J, oN_succ, isO_s, gI_s, gA_s, gL_s, pI_s, pZ_s, pL_s, aI_s, aL_s, aN_s, aQ_s, sI_s, sL_s, cr, LNs, Option.map_some, Option.map_none, Option.bind_some, b2, tr, lt, if_true, if_false, ckZ, X_within, M_in, inR_z, X_refuse, X_tell, X_deny, X_grant, M_refused, M_denied, M_done, M_granted, u2_same, u2_ne, u2_u2, upd_same, upd_ne, aW0, ixR_z, ixR_1, M_isWall, M_isPainter, M_isWork, X_has4, X_has10, X_at, or_false, false_or, or_true, true_or, not_true, not_false_iff, Option.isSome_some, isO_d, gI_d, gA_d, pI_d, ne_eq, not_false_eq_true, u2_hi, u2_hj, u2_dyn, u2_dynj, Nat.reduceAdd, mX_r, mX_rD, mX_rDj, mM_r, mX_u, mX_uM, mX_uD, mX_uDj, mM_u, mM_uX, mM_uD, mM_uDj, u2_dd, u2_d0, u2_0d]
        exact z5
    · obtain ⟨I2, z1, z2, z3, z4, z5⟩ := ih (i + 1) (by omega) I hP (by
        intro j hj h3
        by_cases hz : j = i
        · subst hz; exact fun q => hc ⟨q, h3⟩
        · exact hd j (by omega) h3)
      refine ⟨I2, z1, z2, z3, ?_, ?_⟩
      · intro J fu n hfu
        obtain ⟨fu, rfl⟩ : ∃ z, fu = z + 1 := ⟨fu - 1, by omega⟩
        have z4 := z4 J fu n (by omega)
        rw [← sm_step, if_neg hc, Int32.add_zero, ← z4]
        by_cases c1 : I 20 i = -2
        · have h5 : I 18 i < I 17 i := hov.mpr (fun q => hc ⟨by rw [← g8]; exact c1, q⟩)
          simp (decide := true) only [f_X10_finishDone_4, f_X10_finishDone_46, hnk.2.1, e2, e3, c1, h5, oN_succ, isO_s, gI_s, gA_s, gL_s, pI_s, pZ_s, pL_s, aI_s, aL_s, aN_s, aQ_s, sI_s, sL_s, cr, LNs, Option.map_some, Option.map_none, Option.bind_some, b2, tr, lt, if_true, if_false, ckZ, X_within, M_in, inR_z, X_refuse, X_tell, X_deny, X_grant, M_refused, M_denied, M_done, M_granted, u2_same, u2_ne, u2_u2, upd_same, upd_ne, aW0, ixR_z, ixR_1, M_isWall, M_isPainter, M_isWork, X_has4, X_has10, X_at, or_false, false_or, or_true, true_or, not_true, not_false_iff, Option.isSome_some, isO_d, gI_d, gA_d, pI_d, ne_eq, not_false_eq_true, u2_hi, u2_hj, u2_dyn, u2_dynj, Nat.reduceAdd, mX_r, mX_rD, mX_rDj, mM_r, mX_u, mX_uM, mX_uD, mX_uDj, mM_u, mM_uX, mM_uD, mM_uDj, u2_dd, u2_d0, u2_0d]
        · simp (decide := true) only [f_X10_finishDone_4, f_X10_finishDone_46, hnk.2.1, e2, e3, c1, oN_succ, isO_s, gI_s, gA_s, gL_s, pI_s, pZ_s, pL_s, aI_s, aL_s, aN_s, aQ_s, sI_s, sL_s, cr, LNs, Option.map_some, Option.map_none, Option.bind_some, b2, tr, lt, if_true, if_false, ckZ, X_within, M_in, inR_z, X_refuse, X_tell, X_deny, X_grant, M_refused, M_denied, M_done, M_granted, u2_same, u2_ne, u2_u2, upd_same, upd_ne, aW0, ixR_z, ixR_1, M_isWall, M_isPainter, M_isWork, X_has4, X_has10, X_at, or_false, false_or, or_true, true_or, not_true, not_false_iff, Option.isSome_some, isO_d, gI_d, gA_d, pI_d, ne_eq, not_false_eq_true, u2_hi, u2_hj, u2_dyn, u2_dynj, Nat.reduceAdd, mX_r, mX_rD, mX_rDj, mM_r, mX_u, mX_uM, mX_uD, mX_uDj, mM_u, mM_uX, mM_uD, mM_uDj, u2_dd, u2_d0, u2_0d]
      · intro J fu k37 i1 i2 i3 hfu
        obtain ⟨fu, rfl⟩ : ∃ z, fu = z + 1 := ⟨fu - 1, by omega⟩
        have z5 := z5 J fu k37 i1 i2 i3 (by omega)
        by_cases c2 : I 126 i = 3
        · have c1 : ¬ I 129 i = -2 := fun q => hc ⟨q, c2⟩
          simp (decide := true) only [f_X15_pass_71, f_X15_pass_109, hnk.2.2, e2, e3, c1, c2, oN_succ, isO_s, gI_s, gA_s, gL_s, pI_s, pZ_s, pL_s, aI_s, aL_s, aN_s, aQ_s, sI_s, sL_s, cr, LNs, Option.map_some, Option.map_none, Option.bind_some, b2, tr, lt, if_true, if_false, ckZ, X_within, M_in, inR_z, X_refuse, X_tell, X_deny, X_grant, M_refused, M_denied, M_done, M_granted, u2_same, u2_ne, u2_u2, upd_same, upd_ne, aW0, ixR_z, ixR_1, M_isWall, M_isPainter, M_isWork, X_has4, X_has10, X_at, or_false, false_or, or_true, true_or, not_true, not_false_iff, Option.isSome_some, isO_d, gI_d, gA_d, pI_d, ne_eq, not_false_eq_true, u2_hi, u2_hj, u2_dyn, u2_dynj, Nat.reduceAdd, mX_r, mX_rD, mX_rDj, mM_r, mX_u, mX_uM, mX_uD, mX_uDj, mM_u, mM_uX, mM_uD, mM_uDj, u2_dd, u2_d0, u2_0d]
          exact z5
        · simp (decide := true) only [f_X15_pass_71, f_X15_pass_109, hnk.2.2, e2, e3, c2, oN_succ, isO_s, gI_s, gA_s, gL_s, pI_s, pZ_s, pL_s, aI_s, aL_s, aN_s, aQ_s, sI_s, sL_s, cr, LNs, Option.map_some, Option.map_none, Option.bind_some, b2, tr, lt, if_true, if_false, ckZ, X_within, M_in, inR_z, X_refuse, X_tell, X_deny, X_grant, M_refused, M_denied, M_done, M_granted, u2_same, u2_ne, u2_u2, upd_same, upd_ne, aW0, ixR_z, ixR_1, M_isWall, M_isPainter, M_isWork, X_has4, X_has10, X_at, or_false, false_or, or_true, true_or, not_true, not_false_iff, Option.isSome_some, isO_d, gI_d, gA_d, pI_d, ne_eq, not_false_eq_true, u2_hi, u2_hj, u2_dyn, u2_dynj, Nat.reduceAdd, mX_r, mX_rD, mX_rDj, mM_r, mX_u, mX_uM, mX_uD, mX_uDj, mM_u, mM_uX, mM_uD, mM_uDj, u2_dd, u2_d0, u2_0d]
          exact z5
/-- the frame of a day -/
def DayF (ow : Nat → Nat) (I I2 : Nat → Nat → Int32) : Prop := (∀ c, c < 149 → [13, 18, 20, 22, 25, 72, 80, 81, 86, 87, 88, 126, 127, 129, 131, 136].contains c = false → I2 c = I c) ∧ (∀ j, j ≠ 14 → I2 13 j = I 13 j) ∧ (∀ j, j ≠ 5 → I2 72 j = I 72 j) ∧ ∀ c, ow c ≠ 1 → I2 (149 + c) = I (149 + c)
theorem DayF.refl {ow : Nat → Nat} (I : Nat → Nat → Int32) : DayF ow I I := ⟨fun _ _ _ => rfl, fun _ _ => rfl, fun _ _ => rfl, fun _ _ => rfl⟩
theorem DayF.trans {ow : Nat → Nat} {I I2 I3 : Nat → Nat → Int32} (h : DayF ow I I2) (h2 : DayF ow I2 I3) : DayF ow I I3 := ⟨fun c a b => by rw [h2.1 c a b, h.1 c a b], fun j a => by rw [h2.2.1 j a, h.2.1 j a], fun j a => by rw [h2.2.2.1 j a, h.2.2.1 j a], fun c a => by rw [h2.2.2.2 c a, h.2.2.2 c a]⟩
theorem oN_div365 {a c : Nat} (h : a ≤ c) (hc : c < 4000) : Int32.ofNat a / 365 ≤ Int32.ofNat c / 365 := by
  rw [show Int32.ofNat a / 365 = Int32.ofNat (a / 365) from oN_div (c := 365) (by omega) (by omega), show Int32.ofNat c / 365 = Int32.ofNat (c / 365) from oN_div (c := 365) (by omega) (by omega)]
  exact oN_leL (Nat.div_le_div_right h) (by omega)
/-- the day's number goes up -/
theorem PRm.next {nw nk nt np ndr td : Nat} {q wd hg : Nat → Nat} (h : PRm nw nk nt np ndr td q wd hg I) (hl : td < 3649) : PRm nw nk nt np ndr (td + 1) q wd hg (u2 (u2 I 13 (upd (I 13) 14 (Int32.ofNat (td + 1)))) 72 (upd (I 72) 5 (Int32.ofNat (td + 1)))) := by
  obtain ⟨hnw, hnk, hnt, htd, hTin, hWrk, hB, hC, hD, hE, hF, hG, hH, hI, hU⟩ := h
  unfold PRm WALL
  simp (decide := true) only [u2_same, u2_ne, u2_u2, upd_same, upd_ne, mE, u2_dyn, dyn_u2, dyn_hi, u2_hi, u2_hj, u2_dynj, u2_dd, u2_d0, u2_0d]
  refine ⟨hnw, hnk, hnt, ⟨by omega, rfl, rfl⟩, hTin, ?_, hB, hC, ?_, hE, hF, hG, hH, hI, hU⟩
  · intro k hk
    obtain ⟨g1, g2, g3, g4, g5, g6, g7, g8, g9, g10, g11, g12⟩ := hWrk k hk
    refine ⟨g1, g2, g3, g4, g5, g6, g7, g8, g9, ?_, g11, g12⟩
    rcases g10 with g10 | ⟨d, h1, h2⟩
    · exact Or.inl g10
    · exact Or.inr ⟨d, by omega, h2⟩
  · intro w hw
    obtain ⟨d1, d2, d3⟩ := hD w hw
    refine ⟨d1, d2, fun y hy => d3 y (Int32.le_trans ?_ hy)⟩
    rw [htd.2.2]
    exact oN_div365 (by omega) (by omega)
/-- one day -/
theorem oneDay {nw nk nt np ndr td : Nat} {q wd hg ow : Nat → Nat} (hA : WA nw q wd hg ow E (P 2)) (hl : td < 3649) (hP : PRm nw nk nt np ndr td q wd hg I) (hO : GWo nk (I 126) (I 129)) (hL : GLift (I 13 13) (I 72 78)) (hWe : GWea (I 23) (I 13 12) (I 133) (I 134)) :
    ∃ (v : Int32) (I2 : Nat → Nat → Int32), PRm nw nk nt np ndr (td + 1) q wd hg I2 ∧ GWo nk (I2 126) (I2 129) ∧ DayF ow I I2 ∧
    (∀ (J : Nat → Nat → Int32) (fu : Nat) (dy n i : Int32), ¬ dy ≤ i → f_X10_goBy_4 (fu + 1) (ad b 13) dy n i (lay b F E (mX J I) L P nx us) = f_X10_goBy_4 fu (ad b 13) dy (n + v) (i + 1) (lay b F E (mX J I2) L P nx us)) ∧
    (∀ (J : Nat → Nat → Int32) (fu : Nat) (dy n i : Int32), ¬ dy ≤ i → f_X15_pass_37 (fu + 1) (ad b 72) dy n i (lay b F E (mM J I) L P nx us) = f_X15_pass_37 fu (ad b 72) dy (n + v) (i + 1) (lay b F E (mM J I2) L P nx us)) := by
  have hP0 := hP
  obtain ⟨hnw, hnk, hnt, htd, hTin, hWrk, hWall⟩ := hP
  have htd3 : ¬ (3649 : Int32) ≤ Int32.ofNat td := by rw [show ((3649 : Int32) ≤ Int32.ofNat td) = False from oN_leF (c := 3649) hl (by omega)]; exact fun q => q
  have hd' : td < 3650 := by omega
  obtain ⟨g1, g2⟩ := hWe.2.2 td hd'
  have hf : (0 : Int32) ≤ I 72 78 := Int32.le_trans (by decide) hL.2.1
  by_cases hgg : gdD (I 133 td) (I 134 td)
  · have hb : (I 23 (td / 32) >>> (Int32.ofNat (td % 32) &&& 31)) &&& 1 = 1 := g1.mpr hgg
    obtain ⟨did1, st1, lf1, y1, y2, y3⟩ := day0 (b := b) (F := F) (E := E) (L := L) (P := P) (nx := nx) (us := us) (nd := I 17) (co := I 128) hnk.1 (I 72 78) (I 18) (I 126) (I 127) hf (fun k hk => (hWrk k hk).2.2.2.2.2.2.1)
    let I1 : Nat → Nat → Int32 := u2 (u2 (u2 I 18 did1) 126 st1) 127 lf1
    have hP1 : PRm nw nk nt np ndr td q wd hg I1 := by
      unfold PRm WALL
      simp (decide := true) only [I1, u2_same, u2_ne, u2_u2, upd_same, upd_ne, mE, u2_dyn, dyn_u2, dyn_hi, u2_hi, u2_hj, u2_dynj, u2_dd, u2_d0, u2_0d]
      refine ⟨hnw, hnk, hnt, htd, hTin, ?_, hWall⟩
      intro k hk
      obtain ⟨w1, w2, w3, w4, w5, w6, w7, w8, w9, w10, w11, w12⟩ := hWrk k hk
      refine ⟨w1, w2, w3, w4, w5, w6, (y3 k hk).1, w8, ?_, w10, w11, w12⟩
      intro h
      exact w9 (fun q => h ((y3 k hk).2 q).1)
    obtain ⟨I2, z1, z2, z3, z4, z5⟩ := dayFin (b := b) (F := F) (E := E) (L := L) (P := P) (nx := nx) (us := us) hA hnk.1 nk 0 (by omega) I1 hP1 (fun j hj => by omega)
    have hv : sm (fun k => if I1 129 k = -2 ∧ I1 126 k = 3 then 1 else 0) 0 nk = sm (fun k => if I 126 k ≠ 3 ∧ st1 k = 3 then (1 : Int32) else 0) 0 nk := by
      refine sm_congr _ _ ?_
      intro k _ hk
      have hk' : k < nk := by omega
      have r1 : I1 129 = I 129 := by simp (decide := true) only [I1, u2_same, u2_ne, u2_u2, upd_same, upd_ne, mE, u2_dyn, dyn_u2, dyn_hi, u2_hi, u2_hj, u2_dynj, u2_dd, u2_d0, u2_0d]
      have r2 : I1 126 = st1 := by simp (decide := true) only [I1, u2_same, u2_ne, u2_u2, upd_same, upd_ne, mE, u2_dyn, dyn_u2, dyn_hi, u2_hi, u2_hj, u2_dynj, u2_dd, u2_d0, u2_0d]
      rw [r1, r2]
      by_cases c1 : I 126 k = 3
      · have := hO k hk' c1
        simp only [this, c1, ne_eq, not_true, false_and, if_false]
      · have := (hWrk k hk').2.2.2.2.2.2.2.2.1 c1
        simp only [this, c1, ne_eq, not_false_eq_true, true_and]
    have r13 : I2 13 = I 13 := by rw [z3.1 13 (by decide) (by decide)]; simp (decide := true) only [I1, u2_same, u2_ne, u2_u2, upd_same, upd_ne, mE, u2_dyn, dyn_u2, dyn_hi, u2_hi, u2_hj, u2_dynj, u2_dd, u2_d0, u2_0d]
    have r72 : I2 72 = I 72 := by rw [z3.1 72 (by decide) (by decide)]; simp (decide := true) only [I1, u2_same, u2_ne, u2_u2, upd_same, upd_ne, mE, u2_dyn, dyn_u2, dyn_hi, u2_hi, u2_hj, u2_dynj, u2_dd, u2_d0, u2_0d]
    refine ⟨sm (fun k => if I 126 k ≠ 3 ∧ st1 k = 3 then 1 else 0) 0 nk, u2 (u2 I2 13 (upd (I2 13) 14 (Int32.ofNat (td + 1)))) 72 (upd (I2 72) 5 (Int32.ofNat (td + 1))), z1.next hl, ?_, ⟨?_, ?_, ?_, ?_⟩, ?_, ?_⟩
    · simp (decide := true) only [u2_same, u2_ne, u2_u2, upd_same, upd_ne, mE, u2_dyn, dyn_u2, dyn_hi, u2_hi, u2_hj, u2_dynj, u2_dd, u2_d0, u2_0d]; exact z2
    · intro c c1 c2
      simp at c2
      rw [u2_ne (by omega), u2_ne (by omega), z3.1 c c1 (by simp; omega)]
      show u2 (u2 (u2 I 18 did1) 126 st1) 127 lf1 c = _
      rw [u2_ne (by omega), u2_ne (by omega), u2_ne (by omega)]
    · intro j hj
      simp (decide := true) only [u2_same, u2_ne, u2_u2, upd_same, upd_ne, mE, u2_dyn, dyn_u2, dyn_hi, u2_hi, u2_hj, u2_dynj, u2_dd, u2_d0, u2_0d]
      rw [upd_ne hj, r13]
    · intro j hj
      simp (decide := true) only [u2_same, u2_ne, u2_u2, upd_same, upd_ne, mE, u2_dyn, dyn_u2, dyn_hi, u2_hi, u2_hj, u2_dynj, u2_dd, u2_d0, u2_0d]
      rw [upd_ne hj, r72]
    · intro c hc
      rw [u2_ne (by omega), u2_ne (by omega), z3.2 c hc]
      show u2 (u2 (u2 I 18 did1) 126 st1) 127 lf1 (149 + c) = _
      rw [u2_ne (by omega), u2_ne (by omega), u2_ne (by omega)]
    · intro J fu dy n i hdi
      have hx1 := y1 (mX J I) 18 (by decide) (by decide) (by decide) (by decide) (by simp (decide := true) only [isO_s, gI_s, gA_s, gL_s, pI_s, pZ_s, pL_s, aI_s, aL_s, aN_s, aQ_s, sI_s, sL_s, cr, LNs, Option.map_some, Option.map_none, Option.bind_some, b2, tr, lt, if_true, if_false, ckZ, X_within, M_in, inR_z, X_refuse, X_tell, X_deny, X_grant, M_refused, M_denied, M_done, M_granted, u2_same, u2_ne, u2_u2, upd_same, upd_ne, aW0, ixR_z, ixR_1, M_isWall, M_isPainter, M_isWork, X_has4, X_has10, X_at, or_false, false_or, or_true, true_or, not_true, not_false_iff, Option.isSome_some, isO_d, gI_d, gA_d, pI_d, ne_eq, not_false_eq_true, u2_hi, u2_hj, u2_dyn, u2_dynj, Nat.reduceAdd, mX_r, mX_rD, mX_rDj, mM_r, mX_u, mX_uM, mX_uD, mX_uDj, mM_u, mM_uX, mM_uD, mM_uDj, u2_dd, u2_d0, u2_0d]) (by simp (decide := true) only [isO_s, gI_s, gA_s, gL_s, pI_s, pZ_s, pL_s, aI_s, aL_s, aN_s, aQ_s, sI_s, sL_s, cr, LNs, Option.map_some, Option.map_none, Option.bind_some, b2, tr, lt, if_true, if_false, ckZ, X_within, M_in, inR_z, X_refuse, X_tell, X_deny, X_grant, M_refused, M_denied, M_done, M_granted, u2_same, u2_ne, u2_u2, upd_same, upd_ne, aW0, ixR_z, ixR_1, M_isWall, M_isPainter, M_isWork, X_has4, X_has10, X_at, or_false, false_or, or_true, true_or, not_true, not_false_iff, Option.isSome_some, isO_d, gI_d, gA_d, pI_d, ne_eq, not_false_eq_true, u2_hi, u2_hj, u2_dyn, u2_dynj, Nat.reduceAdd, mX_r, mX_rD, mX_rDj, mM_r, mX_u, mX_uM, mX_uD, mX_uDj, mM_u, mM_uX, mM_uD, mM_uDj, u2_dd, u2_d0, u2_0d]) (by simp (decide := true) only [isO_s, gI_s, gA_s, gL_s, pI_s, pZ_s, pL_s, aI_s, aL_s, aN_s, aQ_s, sI_s, sL_s, cr, LNs, Option.map_some, Option.map_none, Option.bind_some, b2, tr, lt, if_true, if_false, ckZ, X_within, M_in, inR_z, X_refuse, X_tell, X_deny, X_grant, M_refused, M_denied, M_done, M_granted, u2_same, u2_ne, u2_u2, upd_same, upd_ne, aW0, ixR_z, ixR_1, M_isWall, M_isPainter, M_isWork, X_has4, X_has10, X_at, or_false, false_or, or_true, true_or, not_true, not_false_iff, Option.isSome_some, isO_d, gI_d, gA_d, pI_d, ne_eq, not_false_eq_true, u2_hi, u2_hj, u2_dyn, u2_dynj, Nat.reduceAdd, mX_r, mX_rD, mX_rDj, mM_r, mX_u, mX_uM, mX_uD, mX_uDj, mM_u, mM_uX, mM_uD, mM_uDj, u2_dd, u2_d0, u2_0d]; exact hnk.2.1) (by simp (decide := true) only [isO_s, gI_s, gA_s, gL_s, pI_s, pZ_s, pL_s, aI_s, aL_s, aN_s, aQ_s, sI_s, sL_s, cr, LNs, Option.map_some, Option.map_none, Option.bind_some, b2, tr, lt, if_true, if_false, ckZ, X_within, M_in, inR_z, X_refuse, X_tell, X_deny, X_grant, M_refused, M_denied, M_done, M_granted, u2_same, u2_ne, u2_u2, upd_same, upd_ne, aW0, ixR_z, ixR_1, M_isWall, M_isPainter, M_isWork, X_has4, X_has10, X_at, or_false, false_or, or_true, true_or, not_true, not_false_iff, Option.isSome_some, isO_d, gI_d, gA_d, pI_d, ne_eq, not_false_eq_true, u2_hi, u2_hj, u2_dyn, u2_dynj, Nat.reduceAdd, mX_r, mX_rD, mX_rDj, mM_r, mX_u, mX_uM, mX_uD, mX_uDj, mM_u, mM_uX, mM_uD, mM_uDj, u2_dd, u2_d0, u2_0d]; exact hL.1)
      have hI1 : u2 (mX J I) 18 did1 = mX J I1 := by simp (decide := true) only [I1, isO_s, gI_s, gA_s, gL_s, pI_s, pZ_s, pL_s, aI_s, aL_s, aN_s, aQ_s, sI_s, sL_s, cr, LNs, Option.map_some, Option.map_none, Option.bind_some, b2, tr, lt, if_true, if_false, ckZ, X_within, M_in, inR_z, X_refuse, X_tell, X_deny, X_grant, M_refused, M_denied, M_done, M_granted, u2_same, u2_ne, u2_u2, upd_same, upd_ne, aW0, ixR_z, ixR_1, M_isWall, M_isPainter, M_isWork, X_has4, X_has10, X_at, or_false, false_or, or_true, true_or, not_true, not_false_iff, Option.isSome_some, isO_d, gI_d, gA_d, pI_d, ne_eq, not_false_eq_true, u2_hi, u2_hj, u2_dyn, u2_dynj, Nat.reduceAdd, mX_r, mX_rD, mX_rDj, mM_r, mX_u, mX_uM, mX_uD, mX_uDj, mM_u, mM_uX, mM_uD, mM_uDj, u2_dd, u2_d0, u2_0d]
      rw [hI1] at hx1
      have hfd := z4 J FU 0 (by have := hnk.1; unfold FU; omega)
      rw [hv, sm_0] at hfd
      have hfd' : f_X10_finishDone_4 FU (ad b 13) 0 0 (lay b F E (mX J I1) L P nx us) = _ := hfd
      have hgd := X_good (b := b) (F := F) (E := E) (L := L) (P := P) (nx := nx) (us := us) (I := mX J I) hd'
      rw [mX_r (by decide), if_pos hb] at hgd
      have r13' := congrFun r13 14
      simp (decide := true) only [f_X10_goBy_4, f_X10_goBy_45, f_X10_finishDone_46, f_X10_finishDone, hdi, htd.2.1, htd3, hgd, hx1, hfd', r13', oN_succ, isO_s, gI_s, gA_s, gL_s, pI_s, pZ_s, pL_s, aI_s, aL_s, aN_s, aQ_s, sI_s, sL_s, cr, LNs, Option.map_some, Option.map_none, Option.bind_some, b2, tr, lt, if_true, if_false, ckZ, X_within, M_in, inR_z, X_refuse, X_tell, X_deny, X_grant, M_refused, M_denied, M_done, M_granted, u2_same, u2_ne, u2_u2, upd_same, upd_ne, aW0, ixR_z, ixR_1, M_isWall, M_isPainter, M_isWork, X_has4, X_has10, X_at, or_false, false_or, or_true, true_or, not_true, not_false_iff, Option.isSome_some, isO_d, gI_d, gA_d, pI_d, ne_eq, not_false_eq_true, u2_hi, u2_hj, u2_dyn, u2_dynj, Nat.reduceAdd, mX_r, mX_rD, mX_rDj, mM_r, mX_u, mX_uM, mX_uD, mX_uDj, mM_u, mM_uX, mM_uD, mM_uDj, u2_dd, u2_d0, u2_0d]
    · intro J fu dy n i hdi
      have hx1 := y2 (mM J I) 126 127 (by decide) (by decide) (by decide) (by decide) (by decide) (by decide) (by decide) (by decide) (by decide) (by simp (decide := true) only [isO_s, gI_s, gA_s, gL_s, pI_s, pZ_s, pL_s, aI_s, aL_s, aN_s, aQ_s, sI_s, sL_s, cr, LNs, Option.map_some, Option.map_none, Option.bind_some, b2, tr, lt, if_true, if_false, ckZ, X_within, M_in, inR_z, X_refuse, X_tell, X_deny, X_grant, M_refused, M_denied, M_done, M_granted, u2_same, u2_ne, u2_u2, upd_same, upd_ne, aW0, ixR_z, ixR_1, M_isWall, M_isPainter, M_isWork, X_has4, X_has10, X_at, or_false, false_or, or_true, true_or, not_true, not_false_iff, Option.isSome_some, isO_d, gI_d, gA_d, pI_d, ne_eq, not_false_eq_true, u2_hi, u2_hj, u2_dyn, u2_dynj, Nat.reduceAdd, mX_r, mX_rD, mX_rDj, mM_r, mX_u, mX_uM, mX_uD, mX_uDj, mM_u, mM_uX, mM_uD, mM_uDj, u2_dd, u2_d0, u2_0d]) (by simp (decide := true) only [isO_s, gI_s, gA_s, gL_s, pI_s, pZ_s, pL_s, aI_s, aL_s, aN_s, aQ_s, sI_s, sL_s, cr, LNs, Option.map_some, Option.map_none, Option.bind_some, b2, tr, lt, if_true, if_false, ckZ, X_within, M_in, inR_z, X_refuse, X_tell, X_deny, X_grant, M_refused, M_denied, M_done, M_granted, u2_same, u2_ne, u2_u2, upd_same, upd_ne, aW0, ixR_z, ixR_1, M_isWall, M_isPainter, M_isWork, X_has4, X_has10, X_at, or_false, false_or, or_true, true_or, not_true, not_false_iff, Option.isSome_some, isO_d, gI_d, gA_d, pI_d, ne_eq, not_false_eq_true, u2_hi, u2_hj, u2_dyn, u2_dynj, Nat.reduceAdd, mX_r, mX_rD, mX_rDj, mM_r, mX_u, mX_uM, mX_uD, mX_uDj, mM_u, mM_uX, mM_uD, mM_uDj, u2_dd, u2_d0, u2_0d]) (by simp (decide := true) only [isO_s, gI_s, gA_s, gL_s, pI_s, pZ_s, pL_s, aI_s, aL_s, aN_s, aQ_s, sI_s, sL_s, cr, LNs, Option.map_some, Option.map_none, Option.bind_some, b2, tr, lt, if_true, if_false, ckZ, X_within, M_in, inR_z, X_refuse, X_tell, X_deny, X_grant, M_refused, M_denied, M_done, M_granted, u2_same, u2_ne, u2_u2, upd_same, upd_ne, aW0, ixR_z, ixR_1, M_isWall, M_isPainter, M_isWork, X_has4, X_has10, X_at, or_false, false_or, or_true, true_or, not_true, not_false_iff, Option.isSome_some, isO_d, gI_d, gA_d, pI_d, ne_eq, not_false_eq_true, u2_hi, u2_hj, u2_dyn, u2_dynj, Nat.reduceAdd, mX_r, mX_rD, mX_rDj, mM_r, mX_u, mX_uM, mX_uD, mX_uDj, mM_u, mM_uX, mM_uD, mM_uDj, u2_dd, u2_d0, u2_0d]) (by simp (decide := true) only [isO_s, gI_s, gA_s, gL_s, pI_s, pZ_s, pL_s, aI_s, aL_s, aN_s, aQ_s, sI_s, sL_s, cr, LNs, Option.map_some, Option.map_none, Option.bind_some, b2, tr, lt, if_true, if_false, ckZ, X_within, M_in, inR_z, X_refuse, X_tell, X_deny, X_grant, M_refused, M_denied, M_done, M_granted, u2_same, u2_ne, u2_u2, upd_same, upd_ne, aW0, ixR_z, ixR_1, M_isWall, M_isPainter, M_isWork, X_has4, X_has10, X_at, or_false, false_or, or_true, true_or, not_true, not_false_iff, Option.isSome_some, isO_d, gI_d, gA_d, pI_d, ne_eq, not_false_eq_true, u2_hi, u2_hj, u2_dyn, u2_dynj, Nat.reduceAdd, mX_r, mX_rD, mX_rDj, mM_r, mX_u, mX_uM, mX_uD, mX_uDj, mM_u, mM_uX, mM_uD, mM_uDj, u2_dd, u2_d0, u2_0d]; exact hnk.2.2) (by simp (decide := true) only [isO_s, gI_s, gA_s, gL_s, pI_s, pZ_s, pL_s, aI_s, aL_s, aN_s, aQ_s, sI_s, sL_s, cr, LNs, Option.map_some, Option.map_none, Option.bind_some, b2, tr, lt, if_true, if_false, ckZ, X_within, M_in, inR_z, X_refuse, X_tell, X_deny, X_grant, M_refused, M_denied, M_done, M_granted, u2_same, u2_ne, u2_u2, upd_same, upd_ne, aW0, ixR_z, ixR_1, M_isWall, M_isPainter, M_isWork, X_has4, X_has10, X_at, or_false, false_or, or_true, true_or, not_true, not_false_iff, Option.isSome_some, isO_d, gI_d, gA_d, pI_d, ne_eq, not_false_eq_true, u2_hi, u2_hj, u2_dyn, u2_dynj, Nat.reduceAdd, mX_r, mX_rD, mX_rDj, mM_r, mX_u, mX_uM, mX_uD, mX_uDj, mM_u, mM_uX, mM_uD, mM_uDj, u2_dd, u2_d0, u2_0d])
      have hI1 : u2 (u2 (mM J I) 126 st1) 127 lf1 = mM J I1 := by simp (decide := true) only [I1, isO_s, gI_s, gA_s, gL_s, pI_s, pZ_s, pL_s, aI_s, aL_s, aN_s, aQ_s, sI_s, sL_s, cr, LNs, Option.map_some, Option.map_none, Option.bind_some, b2, tr, lt, if_true, if_false, ckZ, X_within, M_in, inR_z, X_refuse, X_tell, X_deny, X_grant, M_refused, M_denied, M_done, M_granted, u2_same, u2_ne, u2_u2, upd_same, upd_ne, aW0, ixR_z, ixR_1, M_isWall, M_isPainter, M_isWork, X_has4, X_has10, X_at, or_false, false_or, or_true, true_or, not_true, not_false_iff, Option.isSome_some, isO_d, gI_d, gA_d, pI_d, ne_eq, not_false_eq_true, u2_hi, u2_hj, u2_dyn, u2_dynj, Nat.reduceAdd, mX_r, mX_rD, mX_rDj, mM_r, mX_u, mX_uM, mX_uD, mX_uDj, mM_u, mM_uX, mM_uD, mM_uDj, u2_dd, u2_d0, u2_0d]
      rw [hI1] at hx1
      have hfd := fun k37 i1 i2 i3 => z5 J FU k37 i1 i2 i3 (by have := hnk.1; unfold FU; omega)
      have hfd' : ∀ k37 i1 i2 i3, f_X15_pass_71 k37 FU (ad b 72) i1 i2 i3 0 (lay b F E (mM J I1) L P nx us) = _ := hfd
      have hgd := M_good1 (b := b) (F := F) (E := E) (L := L) (P := P) (nx := nx) (us := us) (I := mM J I) hd' (by simp (decide := true) only [isO_s, gI_s, gA_s, gL_s, pI_s, pZ_s, pL_s, aI_s, aL_s, aN_s, aQ_s, sI_s, sL_s, cr, LNs, Option.map_some, Option.map_none, Option.bind_some, b2, tr, lt, if_true, if_false, ckZ, X_within, M_in, inR_z, X_refuse, X_tell, X_deny, X_grant, M_refused, M_denied, M_done, M_granted, u2_same, u2_ne, u2_u2, upd_same, upd_ne, aW0, ixR_z, ixR_1, M_isWall, M_isPainter, M_isWork, X_has4, X_has10, X_at, or_false, false_or, or_true, true_or, not_true, not_false_iff, Option.isSome_some, isO_d, gI_d, gA_d, pI_d, ne_eq, not_false_eq_true, u2_hi, u2_hj, u2_dyn, u2_dynj, Nat.reduceAdd, mX_r, mX_rD, mX_rDj, mM_r, mX_u, mX_uM, mX_uD, mX_uDj, mM_u, mM_uX, mM_uD, mM_uDj, u2_dd, u2_d0, u2_0d]; exact hgg)
      have r72' := congrFun r72 5
      simp (decide := true) only [f_X15_pass_37, f_X15_pass_115, hdi, htd.2.2, hgd, hx1, hfd', r72', oN_succ, isO_s, gI_s, gA_s, gL_s, pI_s, pZ_s, pL_s, aI_s, aL_s, aN_s, aQ_s, sI_s, sL_s, cr, LNs, Option.map_some, Option.map_none, Option.bind_some, b2, tr, lt, if_true, if_false, ckZ, X_within, M_in, inR_z, X_refuse, X_tell, X_deny, X_grant, M_refused, M_denied, M_done, M_granted, u2_same, u2_ne, u2_u2, upd_same, upd_ne, aW0, ixR_z, ixR_1, M_isWall, M_isPainter, M_isWork, X_has4, X_has10, X_at, or_false, false_or, or_true, true_or, not_true, not_false_iff, Option.isSome_some, isO_d, gI_d, gA_d, pI_d, ne_eq, not_false_eq_true, u2_hi, u2_hj, u2_dyn, u2_dynj, Nat.reduceAdd, mX_r, mX_rD, mX_rDj, mM_r, mX_u, mX_uM, mX_uD, mX_uDj, mM_u, mM_uX, mM_uD, mM_uDj, u2_dd, u2_d0, u2_0d]
  · have hb : ¬ (I 23 (td / 32) >>> (Int32.ofNat (td % 32) &&& 31)) &&& 1 = 1 := fun q => hgg (g1.mp q)
    refine ⟨0, u2 (u2 I 13 (upd (I 13) 14 (Int32.ofNat (td + 1)))) 72 (upd (I 72) 5 (Int32.ofNat (td + 1))), hP0.next hl, ?_, ⟨?_, ?_, ?_, ?_⟩, ?_, ?_⟩
    · simp (decide := true) only [u2_same, u2_ne, u2_u2, upd_same, upd_ne, mE, u2_dyn, dyn_u2, dyn_hi, u2_hi, u2_hj, u2_dynj, u2_dd, u2_d0, u2_0d]; exact hO
    · intro c c1 c2
      simp at c2
      rw [u2_ne (by omega), u2_ne (by omega)]
    · intro j hj
      simp (decide := true) only [u2_same, u2_ne, u2_u2, upd_same, upd_ne, mE, u2_dyn, dyn_u2, dyn_hi, u2_hi, u2_hj, u2_dynj, u2_dd, u2_d0, u2_0d]
      rw [upd_ne hj]
    · intro j hj
      simp (decide := true) only [u2_same, u2_ne, u2_u2, upd_same, upd_ne, mE, u2_dyn, dyn_u2, dyn_hi, u2_hi, u2_hj, u2_dynj, u2_dd, u2_d0, u2_0d]
      rw [upd_ne hj]
    · intro c hc
      rw [u2_ne (by omega), u2_ne (by omega)]
    · intro J fu dy n i hdi
      have hgd := X_good (b := b) (F := F) (E := E) (L := L) (P := P) (nx := nx) (us := us) (I := mX J I) hd'
      rw [mX_r (by decide), if_neg hb] at hgd
      simp (decide := true) only [f_X10_goBy_4, f_X10_goBy_45, hdi, htd.2.1, htd3, hgd, oN_succ, Int32.add_zero, isO_s, gI_s, gA_s, gL_s, pI_s, pZ_s, pL_s, aI_s, aL_s, aN_s, aQ_s, sI_s, sL_s, cr, LNs, Option.map_some, Option.map_none, Option.bind_some, b2, tr, lt, if_true, if_false, ckZ, X_within, M_in, inR_z, X_refuse, X_tell, X_deny, X_grant, M_refused, M_denied, M_done, M_granted, u2_same, u2_ne, u2_u2, upd_same, upd_ne, aW0, ixR_z, ixR_1, M_isWall, M_isPainter, M_isWork, X_has4, X_has10, X_at, or_false, false_or, or_true, true_or, not_true, not_false_iff, Option.isSome_some, isO_d, gI_d, gA_d, pI_d, ne_eq, not_false_eq_true, u2_hi, u2_hj, u2_dyn, u2_dynj, Nat.reduceAdd, mX_r, mX_rD, mX_rDj, mM_r, mX_u, mX_uM, mX_uD, mX_uDj, mM_u, mM_uX, mM_uD, mM_uDj, u2_dd, u2_d0, u2_0d]
    · intro J fu dy n i hdi
      have hgd := M_good0 (b := b) (F := F) (E := E) (L := L) (P := P) (nx := nx) (us := us) (I := mM J I) hd' (by simp (decide := true) only [isO_s, gI_s, gA_s, gL_s, pI_s, pZ_s, pL_s, aI_s, aL_s, aN_s, aQ_s, sI_s, sL_s, cr, LNs, Option.map_some, Option.map_none, Option.bind_some, b2, tr, lt, if_true, if_false, ckZ, X_within, M_in, inR_z, X_refuse, X_tell, X_deny, X_grant, M_refused, M_denied, M_done, M_granted, u2_same, u2_ne, u2_u2, upd_same, upd_ne, aW0, ixR_z, ixR_1, M_isWall, M_isPainter, M_isWork, X_has4, X_has10, X_at, or_false, false_or, or_true, true_or, not_true, not_false_iff, Option.isSome_some, isO_d, gI_d, gA_d, pI_d, ne_eq, not_false_eq_true, u2_hi, u2_hj, u2_dyn, u2_dynj, Nat.reduceAdd, mX_r, mX_rD, mX_rDj, mM_r, mX_u, mX_uM, mX_uD, mX_uDj, mM_u, mM_uX, mM_uD, mM_uDj, u2_dd, u2_d0, u2_0d]; exact hgg)
      simp (decide := true) only [f_X15_pass_37, f_X15_pass_115, hdi, htd.2.2, hgd, oN_succ, Int32.add_zero, isO_s, gI_s, gA_s, gL_s, pI_s, pZ_s, pL_s, aI_s, aL_s, aN_s, aQ_s, sI_s, sL_s, cr, LNs, Option.map_some, Option.map_none, Option.bind_some, b2, tr, lt, if_true, if_false, ckZ, X_within, M_in, inR_z, X_refuse, X_tell, X_deny, X_grant, M_refused, M_denied, M_done, M_granted, u2_same, u2_ne, u2_u2, upd_same, upd_ne, aW0, ixR_z, ixR_1, M_isWall, M_isPainter, M_isWork, X_has4, X_has10, X_at, or_false, false_or, or_true, true_or, not_true, not_false_iff, Option.isSome_some, isO_d, gI_d, gA_d, pI_d, ne_eq, not_false_eq_true, u2_hi, u2_hj, u2_dyn, u2_dynj, Nat.reduceAdd, mX_r, mX_rD, mX_rDj, mM_r, mX_u, mX_uM, mX_uD, mX_uDj, mM_u, mM_uX, mM_uD, mM_uDj, u2_dd, u2_d0, u2_0d]
/-- all the days -/
theorem days {nw nk nt np ndr dy : Nat} {q wd hg ow : Nat → Nat} (hA : WA nw q wd hg ow E (P 2)) (hdy : dy < 200) : ∀ (m i td : Nat), i + m = dy → td + m ≤ 3649 → ∀ I, PRm nw nk nt np ndr td q wd hg I → GWo nk (I 126) (I 129) → GLift (I 13 13) (I 72 78) → GWea (I 23) (I 13 12) (I 133) (I 134) →
    ∃ (v : Int32) (I2 : Nat → Nat → Int32), PRm nw nk nt np ndr (td + m) q wd hg I2 ∧ GWo nk (I2 126) (I2 129) ∧ DayF ow I I2 ∧
    (∀ (J : Nat → Nat → Int32) (fu : Nat) (n : Int32), m < fu → f_X10_goBy_4 fu (ad b 13) (Int32.ofNat dy) n (Int32.ofNat i) (lay b F E (mX J I) L P nx us) = some (n + v, lay b F E (mX J I2) L P nx us)) ∧
    (∀ (J : Nat → Nat → Int32) (fu : Nat) (n : Int32), m < fu → f_X15_pass_37 fu (ad b 72) (Int32.ofNat dy) n (Int32.ofNat i) (lay b F E (mM J I) L P nx us) = b2 (f_X15_done (ad b 72) (n + v) (lay b F E (mM J I2) L P nx us)) fun x h => some (x, h)) := by
  intro m
  induction m with
  | zero =>
    intro i td hi htd I hP hO hL hWe
    have hi' : i = dy := by omega
    subst hi'
    refine ⟨0, I, hP, hO, DayF.refl I, ?_, ?_⟩
    · intro J fu n hfu
      obtain ⟨fu, rfl⟩ : ∃ z, fu = z + 1 := ⟨fu - 1, by omega⟩
      simp (decide := true) only [f_X10_goBy_4, f_X10_goBy_61, Int32.le_refl, Int32.add_zero, isO_s, gI_s, gA_s, gL_s, pI_s, pZ_s, pL_s, aI_s, aL_s, aN_s, aQ_s, sI_s, sL_s, cr, LNs, Option.map_some, Option.map_none, Option.bind_some, b2, tr, lt, if_true, if_false, ckZ, X_within, M_in, inR_z, X_refuse, X_tell, X_deny, X_grant, M_refused, M_denied, M_done, M_granted, u2_same, u2_ne, u2_u2, upd_same, upd_ne, aW0, ixR_z, ixR_1, M_isWall, M_isPainter, M_isWork, X_has4, X_has10, X_at, or_false, false_or, or_true, true_or, not_true, not_false_iff, Option.isSome_some, isO_d, gI_d, gA_d, pI_d, ne_eq, not_false_eq_true, u2_hi, u2_hj, u2_dyn, u2_dynj, Nat.reduceAdd, mX_r, mX_rD, mX_rDj, mM_r, mX_u, mX_uM, mX_uD, mX_uDj, mM_u, mM_uX, mM_uD, mM_uDj, u2_dd, u2_d0, u2_0d]
    · intro J fu n hfu
      obtain ⟨fu, rfl⟩ : ∃ z, fu = z + 1 := ⟨fu - 1, by omega⟩
      simp (decide := true) only [f_X15_pass_37, Int32.le_refl, Int32.add_zero, isO_s, gI_s, gA_s, gL_s, pI_s, pZ_s, pL_s, aI_s, aL_s, aN_s, aQ_s, sI_s, sL_s, cr, LNs, Option.map_some, Option.map_none, Option.bind_some, b2, tr, lt, if_true, if_false, ckZ, X_within, M_in, inR_z, X_refuse, X_tell, X_deny, X_grant, M_refused, M_denied, M_granted, u2_same, u2_ne, u2_u2, upd_same, upd_ne, aW0, ixR_z, ixR_1, M_isWall, M_isPainter, M_isWork, X_has4, X_has10, X_at, or_false, false_or, or_true, true_or, not_true, not_false_iff, Option.isSome_some, isO_d, gI_d, gA_d, pI_d, ne_eq, not_false_eq_true, u2_hi, u2_hj, u2_dyn, u2_dynj, Nat.reduceAdd, mX_r, mX_rD, mX_rDj, mM_r, mX_u, mX_uM, mX_uD, mX_uDj, mM_u, mM_uX, mM_uD, mM_uDj, u2_dd, u2_d0, u2_0d]
  | succ m ih =>
    intro i td hi htd I hP hO hL hWe
    obtain ⟨v1, I1, p1, p2, p3, p4, p5⟩ := oneDay (b := b) (F := F) (E := E) (L := L) (P := P) (nx := nx) (us := us) hA (by omega) hP hO hL hWe
    have hL1 : GLift (I1 13 13) (I1 72 78) := by rw [p3.2.1 13 (by decide), p3.2.2.1 78 (by decide)]; exact hL
    have hWe1 : GWea (I1 23) (I1 13 12) (I1 133) (I1 134) := by rw [p3.1 23 (by decide) (by decide), p3.2.1 12 (by decide), p3.1 133 (by decide) (by decide), p3.1 134 (by decide) (by decide)]; exact hWe
    obtain ⟨v2, I2, z1, z2, z3, z4, z5⟩ := ih (i + 1) (td + 1) (by omega) (by omega) I1 p1 p2 hL1 hWe1
    have hlt : ¬ Int32.ofNat dy ≤ Int32.ofNat i := by rw [oN_leF (show i < dy by omega) (by omega)]; exact fun q => q
    refine ⟨v1 + v2, I2, ?_, z2, p3.trans z3, ?_, ?_⟩
    · rw [show td + (m + 1) = td + 1 + m by omega]; exact z1
    · intro J fu n hfu
      obtain ⟨fu, rfl⟩ : ∃ z, fu = z + 1 := ⟨fu - 1, by omega⟩
      rw [p4 J fu _ n _ hlt, oN_succ, z4 J fu _ (by omega), Int32.add_assoc]
    · intro J fu n hfu
      obtain ⟨fu, rfl⟩ : ∃ z, fu = z + 1 := ⟨fu - 1, by omega⟩
      rw [p5 J fu _ n _ hlt, oN_succ, z5 J fu _ (by omega), Int32.add_assoc]
theorem call_pass (p : Int32) {nw nk nt np ndr td : Nat} {q wd hg ow : Nat → Nat} (hT : GTI I) (hA : WA nw q wd hg ow E (P 2)) (hP : PRm nw nk nt np ndr td q wd hg I) (hO : GWo nk (I 126) (I 129)) (hL : GLift (I 13 13) (I 72 78)) (hWe : GWea (I 23) (I 13 12) (I 133) (I 134)) : RunS b F E L P nx us (f_X11_pass (ad b 0) p) (f_X15_pass (ad b 72) p) I (fun I2 => ∃ td2, td ≤ td2 ∧ PRm nw nk nt np ndr td2 q wd hg I2 ∧ GWo nk (I2 126) (I2 129) ∧ DayF ow (rf I 0) I2) := by
  have htd := hP.2.2.2.1
  by_cases hp : (p < 1 ∨ 100 < p)
  · exact Or.inl ⟨2, by decide, -1, u2 I 0 (upd (I 0) 16 2), by (simp (decide := true) only [f_X11_pass_25, f_X11_pass, hp, isO_s, gI_s, gA_s, gL_s, pI_s, pZ_s, pL_s, aI_s, aL_s, aN_s, aQ_s, sI_s, sL_s, cr, LNs, Option.map_some, Option.map_none, Option.bind_some, b2, tr, lt, if_true, if_false, ckZ, X_within, M_in, inR_z, X_refuse, X_tell, X_deny, X_grant, M_refused, M_denied, M_done, M_granted, u2_same, u2_ne, u2_u2, upd_same, upd_ne, aW0, ixR_z, ixR_1, M_isWall, M_isPainter, M_isWork, X_has4, X_has10, X_at, or_false, false_or, or_true, true_or, not_true, not_false_iff, Option.isSome_some, isO_d, gI_d, gA_d, pI_d, ne_eq, not_false_eq_true, u2_hi, u2_hj, u2_dyn, u2_dynj, Nat.reduceAdd, mX_r, mX_rD, mX_rDj, mM_r, mX_u, mX_uM, mX_uD, mX_uDj, mM_u, mM_uX, mM_uD, mM_uDj, u2_dd, u2_d0, u2_0d]; try exact rfl), by (simp (decide := true) only [f_X15_pass_115, f_X15_pass_109, f_X15_pass_27, f_X15_pass, hp, isO_s, gI_s, gA_s, gL_s, pI_s, pZ_s, pL_s, aI_s, aL_s, aN_s, aQ_s, sI_s, sL_s, cr, LNs, Option.map_some, Option.map_none, Option.bind_some, b2, tr, lt, if_true, if_false, ckZ, X_within, M_in, inR_z, X_refuse, X_tell, X_deny, X_grant, M_refused, M_denied, M_done, M_granted, u2_same, u2_ne, u2_u2, upd_same, upd_ne, aW0, ixR_z, ixR_1, M_isWall, M_isPainter, M_isWork, X_has4, X_has10, X_at, or_false, false_or, or_true, true_or, not_true, not_false_iff, Option.isSome_some, isO_d, gI_d, gA_d, pI_d, ne_eq, not_false_eq_true, u2_hi, u2_hj, u2_dyn, u2_dynj, Nat.reduceAdd, mX_r, mX_rD, mX_rDj, mM_r, mX_u, mX_uM, mX_uD, mX_uDj, mM_u, mM_uX, mM_uD, mM_uDj, u2_dd, u2_d0, u2_0d]; try exact rfl)⟩
  obtain ⟨dy, d1, d2, rfl⟩ := lo_1 (n := 100) hp (by decide)
  have e1 : (3649 : Int32) - Int32.ofNat td = Int32.ofNat (3649 - td) := oN_sub htd.1
  have e2 : Int32.ofNat td + Int32.ofNat dy = Int32.ofNat (td + dy) := oN_add td dy
  by_cases hd : dy ≤ 3649 - td
  · have c1 : (Int32.ofNat dy ≤ Int32.ofNat (3649 - td)) = True := eq_true (oN_leL hd (by omega))
    have c2 : (Int32.ofNat (td + dy) < 3650) = True := oN_ltT (c := 3650) (by have := htd.1; omega) (by omega)
    -- the reference's thrown is set first
    let I0 : Nat → Nat → Int32 := u2 I 72 (upd (I 72) 0 0)
    have hP0 : PRm nw nk nt np ndr td q wd hg I0 := by
      unfold PRm WALL
      simp (decide := true) only [I0, u2_same, u2_ne, u2_u2, upd_same, upd_ne, mE, u2_dyn, dyn_u2, dyn_hi, u2_hi, u2_hj, u2_dynj, u2_dd, u2_d0, u2_0d]
      exact hP
    obtain ⟨v, I2, z1, z2, z3, z4, z5⟩ := days (b := b) (F := F) (E := E) (L := L) (P := P) (nx := nx) (us := us) hA (show dy < 200 by omega) dy 0 td (by omega) (by have := htd.1; omega) I0 hP0 (by simp (decide := true) only [I0, u2_same, u2_ne, u2_u2, upd_same, upd_ne, mE, u2_dyn, dyn_u2, dyn_hi, u2_hi, u2_hj, u2_dynj, u2_dd, u2_d0, u2_0d]; exact hO) (by simp (decide := true) only [I0, u2_same, u2_ne, u2_u2, upd_same, upd_ne, mE, u2_dyn, dyn_u2, dyn_hi, u2_hi, u2_hj, u2_dynj, u2_dd, u2_d0, u2_0d]; exact hL) (by simp (decide := true) only [I0, u2_same, u2_ne, u2_u2, upd_same, upd_ne, mE, u2_dyn, dyn_u2, dyn_hi, u2_hi, u2_hj, u2_dynj, u2_dd, u2_d0, u2_0d]; exact hWe)
    have z4 := z4 I FU 0 (by unfold FU; omega)
    have z5 := z5 (u2 (mX I I2) 0 (upd (I2 0) 16 0)) FU 0 (by unfold FU; omega)
    rw [Int32.zero_add] at z4 z5
    have r0 : I2 0 = I 0 := by rw [z3.1 0 (by decide) (by decide)]; simp (decide := true) only [I0, u2_same, u2_ne, u2_u2, upd_same, upd_ne, mE, u2_dyn, dyn_u2, dyn_hi, u2_hi, u2_hj, u2_dynj, u2_dd, u2_d0, u2_0d]
    have hx : mX I I0 = I := by
      show mX I (u2 I 72 _) = I
      rw [mX_uM (by decide), mX_id]
    have hm : mM (u2 (mX I I2) 0 (upd (I2 0) 16 0)) I0 = u2 (u2 (mX I I2) 0 (upd (I2 0) 16 0)) 72 (upd (I 72) 0 0) := by
      funext c
      unfold mM mX u2
      by_cases h1 : c = 72
      · subst h1; simp (decide := true) only [I0, u2_same, if_true]
      · by_cases h2 : 72 ≤ c ∧ c < 148
        · have h3 : ¬ c = 0 := by omega
          simp only [h1, h2, h3, and_self, if_true, if_false]
          show u2 I 72 _ c = I c
          exact u2_ne h1
        · simp only [h1, h2, if_false]
    have hm2 : mM (u2 (mX I I2) 0 (upd (I2 0) 16 0)) I2 = u2 I2 0 (upd (I2 0) 16 0) := by
      funext c
      unfold mM mX u2
      by_cases h1 : c = 0
      · subst h1; simp (decide := true) only [if_true, if_false]
      · by_cases h2 : 72 ≤ c ∧ c < 148
        · simp only [h1, h2, and_self, if_true, if_false]
        · simp only [h1, h2, if_false]
    rw [hx] at z4
    rw [hm, hm2] at z5
    have z4' : f_X10_goBy_4 FU (ad b 13) (Int32.ofNat dy) 0 0 (lay b F E I L P nx us) = _ := z4
    have z5' : f_X15_pass_37 FU (ad b 72) (Int32.ofNat dy) 0 0 _ = _ := z5
    refine Or.inr ⟨u2 (u2 I2 0 (upd (I2 0) 16 0)) 72 (mE (I2 72) 0), ⟨v, u2 (mX I I2) 0 (upd (I2 0) 16 0), ?_, ?_⟩, ?_, td + dy, by omega, ?_, ?_, ?_⟩
    · simp (decide := true) only [f_X11_pass_25, f_X11_pass, f_X10_goBy_61, f_X10_goBy_45, f_X10_goBy, hp, htd.2.1, e1, c1, z4', isO_s, gI_s, gA_s, gL_s, pI_s, pZ_s, pL_s, aI_s, aL_s, aN_s, aQ_s, sI_s, sL_s, cr, LNs, Option.map_some, Option.map_none, Option.bind_some, b2, tr, lt, if_true, if_false, ckZ, X_within, M_in, inR_z, X_refuse, X_tell, X_deny, X_grant, M_refused, M_denied, M_done, M_granted, u2_same, u2_ne, u2_u2, upd_same, upd_ne, aW0, ixR_z, ixR_1, M_isWall, M_isPainter, M_isWork, X_has4, X_has10, X_at, or_false, false_or, or_true, true_or, not_true, not_false_iff, Option.isSome_some, isO_d, gI_d, gA_d, pI_d, ne_eq, not_false_eq_true, u2_hi, u2_hj, u2_dyn, u2_dynj, Nat.reduceAdd, mX_r, mX_rD, mX_rDj, mM_r, mX_u, mX_uM, mX_uD, mX_uDj, mM_u, mM_uX, mM_uD, mM_uDj, u2_dd, u2_d0, u2_0d]
    · have hmx : mX I I2 72 = I 72 := if_pos (by decide)
      simp (decide := true) only [f_X15_pass_115, f_X15_pass_109, f_X15_pass_27, f_X15_pass, hp, hmx, htd.2.2, e2, c2, z5', isO_s, gI_s, gA_s, gL_s, pI_s, pZ_s, pL_s, aI_s, aL_s, aN_s, aQ_s, sI_s, sL_s, cr, LNs, Option.map_some, Option.map_none, Option.bind_some, b2, tr, lt, if_true, if_false, ckZ, X_within, M_in, inR_z, X_refuse, X_tell, X_deny, X_grant, M_refused, M_denied, M_done, M_granted, u2_same, u2_ne, u2_u2, upd_same, upd_ne, aW0, ixR_z, ixR_1, M_isWall, M_isPainter, M_isWork, X_has4, X_has10, X_at, or_false, false_or, or_true, true_or, not_true, not_false_iff, Option.isSome_some, isO_d, gI_d, gA_d, pI_d, ne_eq, not_false_eq_true, u2_hi, u2_hj, u2_dyn, u2_dynj, Nat.reduceAdd, mX_r, mX_rD, mX_rDj, mM_r, mX_u, mX_uM, mX_uD, mX_uDj, mM_u, mM_uX, mM_uD, mM_uDj, u2_dd, u2_d0, u2_0d]
    · have r1 : I2 72 3 = I 72 3 := by rw [z3.2.2.1 3 (by decide)]; simp (decide := true) only [I0, u2_same, u2_ne, u2_u2, upd_same, upd_ne, mE, u2_dyn, dyn_u2, dyn_hi, u2_hi, u2_hj, u2_dynj, u2_dd, u2_d0, u2_0d]
      simp (decide := true) only [GTI, u2_same, u2_ne, u2_u2, upd_same, upd_ne, mE, u2_dyn, dyn_u2, dyn_hi, u2_hi, u2_hj, u2_dynj, u2_dd, u2_d0, u2_0d]
      rw [r0, r1]
      exact GT_end hT (by decide)
    · unfold PRm WALL
      simp (decide := true) only [u2_same, u2_ne, u2_u2, upd_same, upd_ne, mE, u2_dyn, dyn_u2, dyn_hi, u2_hi, u2_hj, u2_dynj, u2_dd, u2_d0, u2_0d]
      exact z1
    · simp (decide := true) only [u2_same, u2_ne, u2_u2, upd_same, upd_ne, mE, u2_dyn, dyn_u2, dyn_hi, u2_hi, u2_hj, u2_dynj, u2_dd, u2_d0, u2_0d]
      exact z2
    · refine ⟨?_, ?_, ?_, ?_⟩
      · intro c k1 k2
        by_cases h0 : c = 0
        · subst h0
          simp (decide := true) only [rf, u2_same, u2_ne, u2_u2, upd_same, upd_ne, mE, u2_dyn, dyn_u2, dyn_hi, u2_hi, u2_hj, u2_dynj, u2_dd, u2_d0, u2_0d]
          rw [r0]
        · have k2' := k2
          simp at k2'
          rw [u2_ne (by omega), u2_ne h0, z3.1 c k1 k2]
          show u2 I 72 _ c = rf I 0 c
          unfold rf
          rw [u2_ne (by omega), u2_ne (by omega), u2_ne h0]
      · intro j hj
        simp (decide := true) only [rf, u2_same, u2_ne, u2_u2, upd_same, upd_ne, mE, u2_dyn, dyn_u2, dyn_hi, u2_hi, u2_hj, u2_dynj, u2_dd, u2_d0, u2_0d]
        rw [z3.2.1 j hj]
        simp (decide := true) only [I0, u2_same, u2_ne, u2_u2, upd_same, upd_ne, mE, u2_dyn, dyn_u2, dyn_hi, u2_hi, u2_hj, u2_dynj, u2_dd, u2_d0, u2_0d]
      · intro j hj
        simp (decide := true) only [rf, u2_same, u2_ne, u2_u2, upd_same, upd_ne, mE, u2_dyn, dyn_u2, dyn_hi, u2_hi, u2_hj, u2_dynj, u2_dd, u2_d0, u2_0d]
        unfold upd
        split
        · rfl
        · split
          · rfl
          · rw [z3.2.2.1 j hj]
            simp (decide := true) only [I0, u2_same, u2_ne, u2_u2, upd_same, upd_ne, mE, u2_dyn, dyn_u2, dyn_hi, u2_hi, u2_hj, u2_dynj, u2_dd, u2_d0, u2_0d]
            rfl
      · intro c hc
        rw [u2_ne (by omega), u2_ne (by omega), z3.2.2.2 c hc]
        show u2 I 72 _ (149 + c) = rf I 0 (149 + c)
        unfold rf
        rw [u2_ne (by omega), u2_ne (by omega), u2_ne (by omega)]
  · have c1 : (Int32.ofNat dy ≤ Int32.ofNat (3649 - td)) = False := oN_leF (by omega) (by omega)
    have c2 : (Int32.ofNat (td + dy) < 3650) = False := oN_ltF (c := 3650) (by have := htd.1; omega) (by have := htd.1; omega)
    exact Or.inl ⟨2, by decide, -1, u2 I 0 (upd (I 0) 16 2), by (simp (decide := true) only [f_X11_pass_25, f_X11_pass, hp, htd.2.1, e1, c1, isO_s, gI_s, gA_s, gL_s, pI_s, pZ_s, pL_s, aI_s, aL_s, aN_s, aQ_s, sI_s, sL_s, cr, LNs, Option.map_some, Option.map_none, Option.bind_some, b2, tr, lt, if_true, if_false, ckZ, X_within, M_in, inR_z, X_refuse, X_tell, X_deny, X_grant, M_refused, M_denied, M_done, M_granted, u2_same, u2_ne, u2_u2, upd_same, upd_ne, aW0, ixR_z, ixR_1, M_isWall, M_isPainter, M_isWork, X_has4, X_has10, X_at, or_false, false_or, or_true, true_or, not_true, not_false_iff, Option.isSome_some, isO_d, gI_d, gA_d, pI_d, ne_eq, not_false_eq_true, u2_hi, u2_hj, u2_dyn, u2_dynj, Nat.reduceAdd, mX_r, mX_rD, mX_rDj, mM_r, mX_u, mX_uM, mX_uD, mX_uDj, mM_u, mM_uX, mM_uD, mM_uDj, u2_dd, u2_d0, u2_0d]; try exact rfl), by (simp (decide := true) only [f_X15_pass_115, f_X15_pass_109, f_X15_pass_27, f_X15_pass, hp, htd.2.2, e2, c2, isO_s, gI_s, gA_s, gL_s, pI_s, pZ_s, pL_s, aI_s, aL_s, aN_s, aQ_s, sI_s, sL_s, cr, LNs, Option.map_some, Option.map_none, Option.bind_some, b2, tr, lt, if_true, if_false, ckZ, X_within, M_in, inR_z, X_refuse, X_tell, X_deny, X_grant, M_refused, M_denied, M_done, M_granted, u2_same, u2_ne, u2_u2, upd_same, upd_ne, aW0, ixR_z, ixR_1, M_isWall, M_isPainter, M_isWork, X_has4, X_has10, X_at, or_false, false_or, or_true, true_or, not_true, not_false_iff, Option.isSome_some, isO_d, gI_d, gA_d, pI_d, ne_eq, not_false_eq_true, u2_hi, u2_hj, u2_dyn, u2_dynj, Nat.reduceAdd, mX_r, mX_rD, mX_rDj, mM_r, mX_u, mX_uM, mX_uD, mX_uDj, mM_u, mM_uX, mM_uD, mM_uDj, u2_dd, u2_d0, u2_0d]; try exact rfl)⟩
end PASS
