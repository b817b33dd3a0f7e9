/-! ===== drawing: the class reads rect, disc, say ===== -/
/-- a tint -/
def TN (x y : Int32) : Prop := x = y ∧ ∃ v, v < 8 ∧ y = Int32.ofNat v
theorem hd6 {t : RW} {n i s : Nat} {D : DSt} : dHd t n i s 6 D = dThen (dTint t n i s D) fun i D => dSums t n s (fun i D => .inr (i, D)) 4 0 i D := by
  unfold dHd
  rw [if_pos rfl]
  simp only [dSums, dt_r]
theorem hd7 {t : RW} {n i s : Nat} {D : DSt} : dHd t n i s 7 D = dThen (dTint t n i s D) fun i D => dSums t n s (fun i D => .inr (i, D)) 3 0 i D := by
  unfold dHd
  rw [if_neg (by decide), if_pos rfl]
  simp only [dSums, dt_r]
theorem hd8 {t : RW} {n i s : Nat} {D : DSt} : dHd t n i s 8 D = dThen (dTint t n i s D) fun i D => dThen (dWrd t n i s D) fun i D => dThen (dSum t n i s 0 D) fun i D => dSum t n i s 1 D := by
  unfold dHd
  rw [if_neg (by decide), if_neg (by decide), if_pos rfl]
theorem hd9 {t : RW} {n i s : Nat} {D : DSt} : dHd t n i s 9 D = dThen (dVar t n i s D) fun i D => dThen (dNeed t n i 9 D) fun i D => dThen (dSum t n i s 0 D) fun i D => dThen (dNeed t n i 10 D) fun i D => dSum t n i s 1 D := by
  unfold dHd
  rw [if_neg (by decide), if_neg (by decide), if_neg (by decide), if_pos rfl]
theorem hd11 {t : RW} {n i s : Nat} {D : DSt} : dHd t n i s 11 D = dThen (dSum t n i s 0 D) fun i D => dThen (dHow t n i s D) fun i D => dSum t n i s 1 D := by
  unfold dHd
  rw [if_neg (by decide), if_neg (by decide), if_neg (by decide), if_neg (by decide)]
/-- what the head of step s leaves alone -/
def FRD (s : Nat) (D D1 : DSt) : Prop := D1.1 = D.1 ∧ (∀ x, x ≠ s → D1.2.2.2.2 x = D.2.2.2.2 x) ∧ (∀ j, 1 ≤ j → j ≤ 6 → ∀ x, x ≠ s → D1.2.2.2.1 j x = D.2.2.2.1 j x) ∧ D1.2.2.2.1 1 = D.2.2.2.1 1 ∧ D1.2.2.2.1 5 = D.2.2.2.1 5 ∧ (∀ x, (x < 4 * s ∨ 4 * s + 4 ≤ x) → D1.2.2.2.1 7 x = D.2.2.2.1 7 x ∧ D1.2.2.2.1 8 x = D.2.2.2.1 8 x) ∧ D.2.2.1 ≤ D1.2.2.1 ∧ ∀ x, x < D.2.2.1 → D1.2.2.2.1 9 x = D.2.2.2.1 9 x ∧ D1.2.2.2.1 10 x = D.2.2.2.1 10 x
theorem FRD.refl {s : Nat} {D : DSt} : FRD s D D := ⟨rfl, fun _ _ => rfl, fun _ _ _ _ _ => rfl, rfl, rfl, fun _ _ => ⟨rfl, rfl⟩, Nat.le_refl _, fun _ _ => ⟨rfl, rfl⟩⟩
theorem FRD.trans {s : Nat} {D C B : DSt} (h : FRD s D C) (h' : FRD s C B) : FRD s D B := ⟨h'.1.trans h.1, fun x hx => (h'.2.1 x hx).trans (h.2.1 x hx), fun j j1 j2 x hx => (h'.2.2.1 j j1 j2 x hx).trans (h.2.2.1 j j1 j2 x hx), h'.2.2.2.1.trans h.2.2.2.1, h'.2.2.2.2.1.trans h.2.2.2.2.1, fun x hx => ⟨(h'.2.2.2.2.2.1 x hx).1.trans (h.2.2.2.2.2.1 x hx).1, (h'.2.2.2.2.2.1 x hx).2.trans (h.2.2.2.2.2.1 x hx).2⟩, Nat.le_trans h.2.2.2.2.2.2.1 h'.2.2.2.2.2.2.1, fun x hx => ⟨(h'.2.2.2.2.2.2.2 x (Nat.lt_of_lt_of_le hx h.2.2.2.2.2.2.1)).1.trans (h.2.2.2.2.2.2.2 x hx).1, (h'.2.2.2.2.2.2.2 x (Nat.lt_of_lt_of_le hx h.2.2.2.2.2.2.1)).2.trans (h.2.2.2.2.2.2.2 x hx).2⟩⟩
theorem FRD_R {s j : Nat} {x : Int32} {D : DSt} (h : j = 2 ∨ j = 3 ∨ j = 4 ∨ j = 6) : FRD s D (dR D j s x) := by
  refine ⟨rfl, fun _ _ => rfl, ?_, ?_, ?_, ?_, Nat.le_refl _, ?_⟩
  · intro j' _ _ y hy
    show u2 D.2.2.2.1 j (upd (D.2.2.2.1 j) s x) j' y = _
    by_cases hj : j' = j
    · subst hj; rw [u2_same, upd_ne hy]
    · rw [u2_ne hj]
  · exact u2_ne (by omega)
  · exact u2_ne (by omega)
  · intro y _
    show u2 D.2.2.2.1 j _ 7 y = _ ∧ u2 D.2.2.2.1 j _ 8 y = _
    rw [u2_ne (by omega), u2_ne (by omega)]
    exact ⟨rfl, rfl⟩
  · intro y _
    show u2 D.2.2.2.1 j _ 9 y = _ ∧ u2 D.2.2.2.1 j _ 10 y = _
    rw [u2_ne (by omega), u2_ne (by omega)]
    exact ⟨rfl, rfl⟩
theorem FRD_W {s : Nat} {x : Int64} {D : DSt} : FRD s D (dW D s x) := ⟨rfl, fun y hy => if_neg hy, fun _ _ _ _ _ => rfl, rfl, rfl, fun _ _ => ⟨rfl, rfl⟩, Nat.le_refl _, fun _ _ => ⟨rfl, rfl⟩⟩
theorem FRD_S {t : RW} {n i s k i1 : Nat} {D D1 : DSt} (hk : k < 4) (h : dSum t n i s k D = .inr (i1, D1)) : FRD s D D1 := by
  obtain ⟨s1, f1, f2, f3, f4, f5, f6, f7, f8, f9, f10⟩ := dSum_fr h
  have hfr := pS_fr 5000 0 i 0 (dSs D) i1 s1 f1
  refine ⟨f6, fun x _ => by rw [f7], fun j j1 j2 x _ => by rw [f8 j (by omega) (by omega) (by omega) (by omega)], f8 1 (by decide) (by decide) (by decide) (by decide), f8 5 (by decide) (by decide) (by decide) (by decide), ?_, by rw [f3]; exact hfr.1, fun x hx => by rw [f4, f5]; exact hfr.2 x hx⟩
  intro x hx
  rw [f9, f10, upd_ne (by omega), upd_ne (by omega)]
  exact ⟨rfl, rfl⟩
section STP7
variable {b : Nat} {F : Nat → Option AE} {D E : Nat → Option KD} {I : Nat → Nat → Int32} {L : Nat → Nat → Int64} {P : Nat → Nat → Option Nat} {nx us : Nat}
theorem X_shape {z : ZX} {t : RW} {n la i s bl dl wc w N : Nat} {D : DSt} (hz : GZ b F z) (hLA : LA t n la) (hla : la ≤ 400) (hN : N ≤ 4) (hw : w < 100) (hD : DB la i D) (hdl : dl ≤ 118 + D.2.2.1) (h : XDs t n la i D.1 D.2.1 bl dl wc I L) : match dThen (dTint t n i s D) (fun i D => dSums t n s (fun i D => .inr (i, D)) N 0 i D) with
    | .inl (x, j) => ∃ K, f_X2_readShape (ad b 44) (Int32.ofNat w) (Int32.ofNat N) (lay b F E I L P nx us) = some (0, lay b F E (aF K x (pl t n j)) L P nx us) ∧ FXs 0 dl I K
    | .inr (i1, D1) => ∃ K d, f_X2_readShape (ad b 44) (Int32.ofNat w) (Int32.ofNat N) (lay b F E I L P nx us) = some (1, lay b F E K L P nx us) ∧ XDs t n la i1 D1.1 D1.2.1 bl (d + 1) wc K L ∧ FXs 0 dl I K ∧ dl ≤ d ∧ d + D.2.2.1 = dl + D1.2.2.1 ∧ SumsAt D1.2.2.2.1 (K 46) (K 47) D1.2.2.1 s N 0 dl d ∧ K 46 d = Int32.ofNat w ∧ TN (K 47 d) (D1.2.2.2.1 2 s) ∧ FRD s D D1 ∧ DB la i1 D1 := by
  have hcol := X_colour (b := b) (F := F) (E := E) (P := P) (nx := nx) (us := us) hLA h
  cases hout : dTint t n i s D with
  | inl q =>
    obtain ⟨x, j⟩ := q
    unfold dTint at hout
    split at hout
    · rename_i c3
      cases hout
      rw [if_pos c3] at hcol
      refine ⟨I, ?_, FXs.refl⟩
      simp (decide := true) only [f_X2_readShape, hcol, isO_s, gI_s, gA_s, gL_s, pI_s, pZ_s, pL_s, aI_s, aL_s, aN_s, aQ_s, sI_s, sL_s, cr, LNs, Option.map_some, Option.map_none, Option.bind_some, b2, tr, lt, if_true, if_false, ckZ, X_within, M_in, inR_z, X_refuse, X_tell, X_deny, X_grant, M_refused, M_denied, M_done, M_granted, u2_same, u2_ne, u2_u2, upd_same, upd_ne, aW0, ixR_z, ixR_1, M_isWall, M_isPainter, M_isWork, X_has4, X_has10, X_at, or_false, false_or, or_true, true_or, not_true, not_false_iff, Option.isSome_some, isO_d, gI_d, gA_d, pI_d, ne_eq, not_false_eq_true, u2_hi, u2_hj, u2_dyn, u2_dynj, Nat.reduceAdd, mX_r, mX_rD, mX_rDj, mM_r, mX_u, mX_uM, mX_uD, mX_uDj, mM_u, mM_uX, mM_uD, mM_uDj, u2_dd, u2_d0, u2_0d]
    · rename_i c3
      split at hout
      · rename_i c8
        cases hout
        rw [if_neg c3, if_pos c8] at hcol
        refine ⟨I, ?_, FXs.refl⟩
        simp (decide := true) only [f_X2_readShape, hcol, isO_s, gI_s, gA_s, gL_s, pI_s, pZ_s, pL_s, aI_s, aL_s, aN_s, aQ_s, sI_s, sL_s, cr, LNs, Option.map_some, Option.map_none, Option.bind_some, b2, tr, lt, if_true, if_false, ckZ, X_within, M_in, inR_z, X_refuse, X_tell, X_deny, X_grant, M_refused, M_denied, M_done, M_granted, u2_same, u2_ne, u2_u2, upd_same, upd_ne, aW0, ixR_z, ixR_1, M_isWall, M_isPainter, M_isWork, X_has4, X_has10, X_at, or_false, false_or, or_true, true_or, not_true, not_false_iff, Option.isSome_some, isO_d, gI_d, gA_d, pI_d, ne_eq, not_false_eq_true, u2_hi, u2_hj, u2_dyn, u2_dynj, Nat.reduceAdd, mX_r, mX_rD, mX_rDj, mM_r, mX_u, mX_uM, mX_uD, mX_uDj, mM_u, mM_uX, mM_uD, mM_uDj, u2_dd, u2_d0, u2_0d]
      · cases hout
  | inr q =>
    obtain ⟨i1, D1⟩ := q
    have hb := dTint_b hLA hD hout
    unfold dTint at hout
    split at hout
    · cases hout
    · rename_i c3
      split at hout
      · cases hout
      · rename_i c8
        cases hout
        rw [if_neg c3, if_neg c8] at hcol
        have c3' := Classical.not_not.mp c3
        obtain ⟨v, hv, hnv⟩ := num_N c3'
        have hv8 : v < 8 := by
          have hq := Classical.not_not.mp c8
          rw [hnv] at hq
          exact (oN_lt (c := 8) (by omega) (by omega)).mp hq
        have nm1 : (num t n i = -1) = False := eq_false (fun q => by rw [hnv] at q; have := oN_neg (w := v) (by omega); rw [q] at this; exact this ▸ (by decide))
        have hil := LA_lt hLA hD.1 (show kd t n (pl t n i) ≠ 0 by omega) (show kd t n (pl t n i) ≠ 1 by omega)
        have hX := h.adv hil
        have e0 : (dR D 2 s (num t n i)).1 = D.1 := rfl
        have e1 : (dR D 2 s (num t n i)).2.1 = D.2.1 := rfl
        have g := X_shp (b := b) (F := F) (E := E) (L := L) (P := P) (nx := nx) (us := us) (s := s) (bl := bl) (wc := wc) (w := w) (c := num t n i) hz hLA hla hN hw (Or.inr ⟨v, hv, hnv⟩) N 0 (by omega) FU (i + 1) dl dl (dR D 2 s (num t n i)) (aVv I (i + 1)) (by unfold FU; omega) hb.1 hdl hX rfl
        have hrun : f_X2_readShape (ad b 44) (Int32.ofNat w) (Int32.ofNat N) (lay b F E I L P nx us) = f_X2_readShape_15 FU (ad b 44) (Int32.ofNat w) (Int32.ofNat N) (num t n i) (Int32.ofNat 0) (lay b F E (aVv I (i + 1)) L P nx us) := by
          simp (decide := true) only [f_X2_readShape, hcol, nm1, isO_s, gI_s, gA_s, gL_s, pI_s, pZ_s, pL_s, aI_s, aL_s, aN_s, aQ_s, sI_s, sL_s, cr, LNs, Option.map_some, Option.map_none, Option.bind_some, b2, tr, lt, if_true, if_false, ckZ, X_within, M_in, inR_z, X_refuse, X_tell, X_deny, X_grant, M_refused, M_denied, M_done, M_granted, u2_same, u2_ne, u2_u2, upd_same, upd_ne, aW0, ixR_z, ixR_1, M_isWall, M_isPainter, M_isWork, X_has4, X_has10, X_at, or_false, false_or, or_true, true_or, not_true, not_false_iff, Option.isSome_some, isO_d, gI_d, gA_d, pI_d, ne_eq, not_false_eq_true, u2_hi, u2_hj, u2_dyn, u2_dynj, Nat.reduceAdd, mX_r, mX_rD, mX_rDj, mM_r, mX_u, mX_uM, mX_uD, mX_uDj, mM_u, mM_uX, mM_uD, mM_uDj, u2_dd, u2_d0, u2_0d]
          rfl
        rw [hrun]
        show match dSums t n s (fun i D => .inr (i, D)) N 0 (i + 1) (dR D 2 s (num t n i)) with
          | .inl (x, j) => _
          | .inr (i1, D1) => _
        cases hout2 : dSums t n s (fun i D => .inr (i, D)) N 0 (i + 1) (dR D 2 s (num t n i)) with
        | inl q =>
          obtain ⟨x, j⟩ := q
          rw [hout2] at g
          obtain ⟨K, g1, g2⟩ := g
          exact ⟨K, g1, FXs_V.trans g2 (Nat.le_refl _) (Nat.le_refl _)⟩
        | inr q =>
          obtain ⟨i2, D2⟩ := q
          rw [hout2] at g
          obtain ⟨K, d, y1, y2, y3, y4, y5, y6, y7, y8, y9, ya, yb, yc, yd, ye, yf⟩ := g
          refine ⟨K, d, y1, y2, FXs_V.trans y3 (Nat.le_refl _) (Nat.le_refl _), y4, y5, y6, y7, ?_, FRD.trans (FRD_R (Or.inl rfl)) ⟨y9, fun x _ => by rw [ya], fun j j1 j2 x _ => by rw [yb j (by omega) (by omega) (by omega) (by omega)], yb 1 (by decide) (by decide) (by decide) (by decide), yb 5 (by decide) (by decide) (by decide) (by decide), fun x hx => yc x (by omega), yd, ye⟩, yf⟩
          have e2 : D2.2.2.2.1 2 s = num t n i := by
            rw [yb 2 (by decide) (by decide) (by decide) (by decide)]
            show u2 D.2.2.2.1 2 (upd (D.2.2.2.1 2) s (num t n i)) 2 s = _
            rw [u2_same, upd_same]
          exact ⟨by rw [y8, e2], v, hv8, by rw [e2]; exact hnv⟩
end STP7
