/-! ===== drawing: the class reads each and if up to their brackets ===== -/
def xOpn (bl d i : Nat) (w v : Int32) (I : Nat → Nat → Int32) : Nat → Nat → Int32 := aVv (xPt d w v (u2 (u2 I 50 (upd (I 50) bl (Int32.ofNat d))) 44 (upd (I 44) 5 (Int32.ofNat (bl + 1))))) (i + 1)
section STP9
variable {b : Nat} {F : Nat → Option AE} {D E : Nat → Option KD} {I : Nat → Nat → Int32} {L : Nat → Nat → Int64} {P : Nat → Nat → Option Nat} {nx us : Nat}
theorem X_open {t : RW} {n la i st pa bl d wc w : Nat} {v : Int32} (hLA : LA t n la) (hbl : bl ≤ 6) (hw : w < 100) (hv : VL v) (hd : d < 360) (h : XDs t n la i st pa bl d wc I L) : f_X2_openBracket (ad b 44) (Int32.ofNat w) v (lay b F E I L P nx us) = if ¬ isC t n i 91 then some (0, lay b F E (aF I 1 (pl t n i)) L P nx us) else if bl = 6 then some (0, lay b F E (aF I 4 (pl t n i)) L P nx us) else some (1, lay b F E (xOpn bl d i (Int32.ofNat w) v I) L P nx us) := by
  obtain ⟨a1, a2, a3, a4, a5, a6, a7, a8, a9⟩ := h
  have hsg := X_sign (b := b) (F := F) (E := E) (P := P) (nx := nx) (us := us) a1 a2 a3
  have hsc : (sgn t n i = 91) = isC t n i 91 := sgn_c (by decide)
  have hfl := fun c => X_failF (b := b) (F := F) (E := E) (P := P) (nx := nx) (us := us) c a1 a2 a3
  by_cases c91 : isC t n i 91
  · have cT : isC t n i 91 = True := eq_true c91
    have hil := isC_lt hLA a2 c91
    rw [if_neg (fun q => q c91)]
    by_cases h6 : bl = 6
    · have e : (Int32.ofNat bl < Int32.ofNat 6) = False := by rw [h6]; decide
      rw [if_pos h6]
      simp (decide := true) only [f_X2_openBracket, hsg, hsc, cT, a7, e, hfl 4, isO_s, gI_s, gA_s, gL_s, pI_s, pZ_s, pL_s, aI_s, aL_s, aN_s, aQ_s, sI_s, sL_s, cr, LNs, Option.map_some, Option.map_none, Option.bind_some, b2, tr, lt, if_true, if_false, ckZ, X_within, M_in, inR_z, X_refuse, X_tell, X_deny, X_grant, M_refused, M_denied, M_done, M_granted, u2_same, u2_ne, u2_u2, upd_same, upd_ne, aW0, ixR_z, ixR_1, M_isWall, M_isPainter, M_isWork, X_has4, X_has10, X_at, or_false, false_or, or_true, true_or, not_true, not_false_iff, Option.isSome_some, isO_d, gI_d, gA_d, pI_d, ne_eq, not_false_eq_true, u2_hi, u2_hj, u2_dyn, u2_dynj, Nat.reduceAdd, mX_r, mX_rD, mX_rDj, mM_r, mX_u, mX_uM, mX_uD, mX_uDj, mM_u, mM_uX, mM_uD, mM_uDj, u2_dd, u2_d0, u2_0d]
    · have e : (Int32.ofNat bl < Int32.ofNat 6) = True := eq_true ((oN_lt (by omega) (by omega)).mpr (by omega))
      have e2 : iN (Int32.ofNat bl) 6 = some bl := iN_oN (by omega) (by omega)
      rw [if_neg h6]
      have hpt := X_dput (b := b) (F := F) (E := E) (L := L) (P := P) (nx := nx) (us := us) (I := u2 (u2 I 50 (upd (I 50) bl (Int32.ofNat d))) 44 (upd (I 44) 5 (Int32.ofNat (bl + 1)))) (dl := d) w hw hv (by simp (decide := true) only [u2_same, u2_ne, u2_u2, upd_same, upd_ne, mE, u2_dyn, dyn_u2, dyn_hi, u2_hi, u2_hj, u2_dynj, u2_dd, u2_d0, u2_0d]; exact a8) hd
      have tx : TX t n la (xPt d (Int32.ofNat w) v (u2 (u2 I 50 (upd (I 50) bl (Int32.ofNat d))) 44 (upd (I 44) 5 (Int32.ofNat (bl + 1))))) L := a1.fr (by rw [xPt_ne (by decide) (by decide) (by decide) (by decide)]; simp (decide := true) only [u2_same, u2_ne, u2_u2, upd_same, upd_ne, mE, u2_dyn, dyn_u2, dyn_hi, u2_hi, u2_hj, u2_dynj, u2_dd, u2_d0, u2_0d]) (by rw [xPt_ne (by decide) (by decide) (by decide) (by decide)]; simp (decide := true) only [u2_same, u2_ne, u2_u2, upd_same, upd_ne, mE, u2_dyn, dyn_u2, dyn_hi, u2_hi, u2_hj, u2_dynj, u2_dd, u2_d0, u2_0d]) (by rw [xPt_ne (by decide) (by decide) (by decide) (by decide)]; simp (decide := true) only [u2_same, u2_ne, u2_u2, upd_same, upd_ne, mE, u2_dyn, dyn_u2, dyn_hi, u2_hi, u2_hj, u2_dynj, u2_dd, u2_d0, u2_0d]) (by rw [xPt_ne (by decide) (by decide) (by decide) (by decide)]; simp (decide := true) only [u2_same, u2_ne, u2_u2, upd_same, upd_ne, mE, u2_dyn, dyn_u2, dyn_hi, u2_hi, u2_hj, u2_dynj, u2_dd, u2_d0, u2_0d])
      have hav := X_advV (b := b) (F := F) (E := E) (P := P) (nx := nx) (us := us) tx hil (by rw [xPt_ne (by decide) (by decide) (by decide) (by decide)]; simp (decide := true) only [u2_same, u2_ne, u2_u2, upd_same, upd_ne, mE, u2_dyn, dyn_u2, dyn_hi, u2_hi, u2_hj, u2_dynj, u2_dd, u2_d0, u2_0d]; exact a3)
      unfold xOpn
      simp (decide := true) only [f_X2_openBracket, hsg, hsc, cT, a7, a8, e, e2, oN_succ, hpt, hav, isO_s, gI_s, gA_s, gL_s, pI_s, pZ_s, pL_s, aI_s, aL_s, aN_s, aQ_s, sI_s, sL_s, cr, LNs, Option.map_some, Option.map_none, Option.bind_some, b2, tr, lt, if_true, if_false, ckZ, X_within, M_in, inR_z, X_refuse, X_tell, X_deny, X_grant, M_refused, M_denied, M_done, M_granted, u2_same, u2_ne, u2_u2, upd_same, upd_ne, aW0, ixR_z, ixR_1, M_isWall, M_isPainter, M_isWork, X_has4, X_has10, X_at, or_false, false_or, or_true, true_or, not_true, not_false_iff, Option.isSome_some, isO_d, gI_d, gA_d, pI_d, ne_eq, not_false_eq_true, u2_hi, u2_hj, u2_dyn, u2_dynj, Nat.reduceAdd, mX_r, mX_rD, mX_rDj, mM_r, mX_u, mX_uM, mX_uD, mX_uDj, mM_u, mM_uX, mM_uD, mM_uDj, u2_dd, u2_d0, u2_0d]
  · have cT : isC t n i 91 = False := eq_false c91
    rw [if_pos c91]
    simp (decide := true) only [f_X2_openBracket, hsg, hsc, cT, hfl 1, isO_s, gI_s, gA_s, gL_s, pI_s, pZ_s, pL_s, aI_s, aL_s, aN_s, aQ_s, sI_s, sL_s, cr, LNs, Option.map_some, Option.map_none, Option.bind_some, b2, tr, lt, if_true, if_false, ckZ, X_within, M_in, inR_z, X_refuse, X_tell, X_deny, X_grant, M_refused, M_denied, M_done, M_granted, u2_same, u2_ne, u2_u2, upd_same, upd_ne, aW0, ixR_z, ixR_1, M_isWall, M_isPainter, M_isWork, X_has4, X_has10, X_at, or_false, false_or, or_true, true_or, not_true, not_false_iff, Option.isSome_some, isO_d, gI_d, gA_d, pI_d, ne_eq, not_false_eq_true, u2_hi, u2_hj, u2_dyn, u2_dynj, Nat.reduceAdd, mX_r, mX_rD, mX_rDj, mM_r, mX_u, mX_uM, mX_uD, mX_uDj, mM_u, mM_uX, mM_uD, mM_uDj, u2_dd, u2_d0, u2_0d]
theorem X_each {z : ZX} {t : RW} {n la i s bl dl wc : Nat} {D : DSt} (hz : GZ b F z) (hLA : LA t n la) (hla : la ≤ 400) (hD : DB la i D) (hdl : dl ≤ 118 + D.2.2.1) (h : XDs t n la i D.1 D.2.1 bl dl wc I L) : match dHd t n i s 9 D with
    | .inl (x, j) => ∃ K, f_X2_readEach (ad b 44) (lay b F E I L P nx us) = some (0, lay b F E (aF K x (pl t n j)) L P nx us) ∧ FXs 0 dl I K
    | .inr (i1, D1) => ∃ K d, f_X2_readEach (ad b 44) (lay b F E I L P nx us) = (b2 (f_X2_openBracket (ad b 44) 9 (D1.2.2.2.1 3 s) (lay b F E K L P nx us)) fun x19 h20 => if x19 = 0 then f_X2_readEach_119 h20 else f_X2_readEach_120 1 h20) ∧ XDs t n la i1 D1.1 D1.2.1 bl d wc K L ∧ FXs 0 dl I K ∧ dl ≤ d ∧ d + D.2.2.1 = dl + D1.2.2.1 ∧ SumsAt D1.2.2.2.1 (K 46) (K 47) D1.2.2.1 s 2 0 dl d ∧ (∃ v, v < 5 ∧ D1.2.2.2.1 3 s = Int32.ofNat v) ∧ FRD s D D1 ∧ DB la i1 D1 := by
  rw [hd9]
  have hnm := X_name (b := b) (F := F) (E := E) (P := P) (nx := nx) (us := us) h.1 h.2.1 h.2.2.1
  have e10 : ((1 : Int32) = 0) = False := by decide
  by_cases c : varV t n i = -1
  · have e : dVar t n i s D = .inl (1, i) := by unfold dVar; rw [if_pos c]
    rw [e]
    have hfl := X_failF (b := b) (F := F) (E := E) (P := P) (nx := nx) (us := us) 1 h.1 h.2.1 h.2.2.1
    have hI : (inR (nmT t n i) 7 11 = 0) = True := by rw [var_I]; exact eq_true c
    refine ⟨I, ?_, FXs.refl⟩
    simp (decide := true) only [f_X2_readEach, hnm, X_isv, hI, hfl, isO_s, gI_s, gA_s, gL_s, pI_s, pZ_s, pL_s, aI_s, aL_s, aN_s, aQ_s, sI_s, sL_s, cr, LNs, Option.map_some, Option.map_none, Option.bind_some, b2, tr, lt, if_true, if_false, ckZ, X_within, M_in, X_refuse, X_tell, X_deny, X_grant, M_refused, M_denied, M_done, M_granted, u2_same, u2_ne, u2_u2, upd_same, upd_ne, aW0, ixR_z, ixR_1, M_isWall, M_isPainter, M_isWork, X_has4, X_has10, X_at, or_false, false_or, or_true, true_or, not_true, not_false_iff, Option.isSome_some, isO_d, gI_d, gA_d, pI_d, ne_eq, not_false_eq_true, u2_hi, u2_hj, u2_dyn, u2_dynj, Nat.reduceAdd, mX_r, mX_rD, mX_rDj, mM_r, mX_u, mX_uM, mX_uD, mX_uDj, mM_u, mM_uX, mM_uD, mM_uDj, u2_dd, u2_d0, u2_0d]
  · have e : dVar t n i s D = .inr (i + 1, dR D 3 s (varV t n i)) := by unfold dVar; rw [if_neg c]
    have hI : (inR (nmT t n i) 7 11 = 0) = False := by rw [var_I]; exact eq_false c
    have hsub := var_T.2 c
    have hb := dVar_b hLA hD e
    rw [e]
    have k2 := varV_2 c
    have hil := LA_lt hLA hD.1 (show kd t n (pl t n i) ≠ 0 by omega) (show kd t n (pl t n i) ≠ 1 by omega)
    have hav := X_advV (b := b) (F := F) (E := E) (P := P) (nx := nx) (us := us) h.1 hil h.2.2.1
    have hX := h.adv hil
    have hvN := (varV_N (t := t) (n := n) (i := i)).resolve_left c
    generalize hC : dR D 3 s (varV t n i) = C at *
    have hC1 : C.1 = D.1 := by rw [← hC]; rfl
    have hC2 : C.2.1 = D.2.1 := by rw [← hC]; rfl
    have hC3 : C.2.2.1 = D.2.2.1 := by rw [← hC]; rfl
    have hCr : C.2.2.2.1 3 s = varV t n i := by rw [← hC]; show u2 D.2.2.2.1 3 (upd (D.2.2.2.1 3) s (varV t n i)) 3 s = _; rw [u2_same, upd_same]
    have hCf : FRD s D C := by rw [← hC]; exact FRD_R (Or.inr (Or.inl rfl))
    have hnm2 := X_name (b := b) (F := F) (E := E) (P := P) (nx := nx) (us := us) hX.1 hX.2.1 hX.2.2.1
    show match dThen (dNeed t n (i + 1) 9 C) (fun i D => dThen (dSum t n i s 0 D) fun i D => dThen (dNeed t n i 10 D) fun i D => dSum t n i s 1 D) with
      | .inl (x, j) => _
      | .inr (i1, D1) => _
    by_cases c9 : isW t n (i + 1) 9
    · have n5 : (nmT t n (i + 1) = 5) = True := by rw [nmT_5]; exact eq_true c9
      have en9 : dNeed t n (i + 1) 9 C = .inr (i + 1 + 1, C) := by unfold dNeed; rw [if_pos c9]
      have b9 := dNeed_b hLA hb.1 en9
      rw [en9]
      have hil2 := LA_lt hLA hX.2.1 (show kd t n (pl t n (i + 1)) ≠ 0 by have := c9.1; omega) (show kd t n (pl t n (i + 1)) ≠ 1 by have := c9.1; omega)
      have hav2 := X_advV (b := b) (F := F) (E := E) (P := P) (nx := nx) (us := us) hX.1 hil2 hX.2.2.1
      have hX2 := hX.adv hil2
      rw [← hC1, ← hC2] at hX2
      have g0 := X_rs (b := b) (F := F) (E := E) (L := L) (P := P) (nx := nx) (us := us) (s := s) (k := 0) hz hLA hla b9.1 (by omega) hX2
      show match dThen (dSum t n (i + 1 + 1) s 0 C) (fun i D => dThen (dNeed t n i 10 D) fun i D => dSum t n i s 1 D) with
        | .inl (x, j) => _
        | .inr (i1, D1) => _
      cases ho0 : dSum t n (i + 1 + 1) s 0 C with
      | inl q =>
        obtain ⟨x, j⟩ := q
        rw [ho0] at g0
        obtain ⟨K, g1, g2⟩ := g0
        refine ⟨K, ?_, (FXs_V.trans FXs_V (Nat.le_refl _) (Nat.le_refl _)).trans g2 (Nat.le_refl _) (Nat.le_refl _)⟩
        simp (decide := true) only [f_X2_readEach, hnm, X_isv, hI, hsub, hav, hnm2, n5, e10, hav2, g1, isO_s, gI_s, gA_s, gL_s, pI_s, pZ_s, pL_s, aI_s, aL_s, aN_s, aQ_s, sI_s, sL_s, cr, LNs, Option.map_some, Option.map_none, Option.bind_some, b2, tr, lt, if_true, if_false, ckZ, X_within, M_in, X_refuse, X_tell, X_deny, X_grant, M_refused, M_denied, M_done, M_granted, u2_same, u2_ne, u2_u2, upd_same, upd_ne, aW0, ixR_z, ixR_1, M_isWall, M_isPainter, M_isWork, X_has4, X_has10, X_at, or_false, false_or, or_true, true_or, not_true, not_false_iff, Option.isSome_some, isO_d, gI_d, gA_d, pI_d, ne_eq, not_false_eq_true, u2_hi, u2_hj, u2_dyn, u2_dynj, Nat.reduceAdd, mX_r, mX_rD, mX_rDj, mM_r, mX_u, mX_uM, mX_uD, mX_uDj, mM_u, mM_uX, mM_uD, mM_uDj, u2_dd, u2_d0, u2_0d]
      | inr q =>
        obtain ⟨i3, D3⟩ := q
        rw [ho0] at g0
        obtain ⟨K, dl1, g1, g2, g3, g4, g5, g6⟩ := g0
        have b3 := dSum_b hLA b9.1 ho0
        have f3 := FRD_S (k := 0) (by decide) ho0
        obtain ⟨s3, -, -, q3, -, -, -, -, q8, q9, q10⟩ := dSum_fr ho0
        have hnm3 := X_name (b := b) (F := F) (E := E) (P := P) (nx := nx) (us := us) g2.1 g2.2.1 g2.2.2.1
        have hf1 : FXs 0 dl I K := (FXs_V.trans FXs_V (Nat.le_refl _) (Nat.le_refl _)).trans g3 (Nat.le_refl _) (Nat.le_refl _)
        show match dThen (dNeed t n i3 10 D3) (fun i D => dSum t n i s 1 D) with
          | .inl (x, j) => _
          | .inr (i1, D1) => _
        by_cases c10 : isW t n i3 10
        · have n6 : (nmT t n i3 = 6) = True := by rw [nmT_6]; exact eq_true c10
          have en10 : dNeed t n i3 10 D3 = .inr (i3 + 1, D3) := by unfold dNeed; rw [if_pos c10]
          have b10 := dNeed_b hLA b3.1 en10
          rw [en10]
          have hil3 := LA_lt hLA g2.2.1 (show kd t n (pl t n i3) ≠ 0 by have := c10.1; omega) (show kd t n (pl t n i3) ≠ 1 by have := c10.1; omega)
          have hav3 := X_advV (b := b) (F := F) (E := E) (P := P) (nx := nx) (us := us) g2.1 hil3 g2.2.2.1
          have hX3 := g2.adv hil3
          have g7 := X_rs (b := b) (F := F) (E := E) (L := L) (P := P) (nx := nx) (us := us) (s := s) (k := 1) hz hLA hla b10.1 (by omega) hX3
          show match dSum t n (i3 + 1) s 1 D3 with
            | .inl (x, j) => _
            | .inr (i1, D1) => _
          cases ho1 : dSum t n (i3 + 1) s 1 D3 with
          | inl q =>
            obtain ⟨x, j⟩ := q
            rw [ho1] at g7
            obtain ⟨K2, y1, y2⟩ := g7
            refine ⟨K2, ?_, (hf1.trans FXs_V (Nat.le_refl _) (Nat.le_refl _)).trans y2 (Nat.le_refl _) g4⟩
            simp (decide := true) only [f_X2_readEach, f_X2_readEach_119, f_X2_readEach_120, hnm, X_isv, hI, hsub, hav, hnm2, n5, e10, hav2, g1, hnm3, n6, hav3, y1, isO_s, gI_s, gA_s, gL_s, pI_s, pZ_s, pL_s, aI_s, aL_s, aN_s, aQ_s, sI_s, sL_s, cr, LNs, Option.map_some, Option.map_none, Option.bind_some, b2, tr, lt, if_true, if_false, ckZ, X_within, M_in, X_refuse, X_tell, X_deny, X_grant, M_refused, M_denied, M_done, M_granted, u2_same, u2_ne, u2_u2, upd_same, upd_ne, aW0, ixR_z, ixR_1, M_isWall, M_isPainter, M_isWork, X_has4, X_has10, X_at, or_false, false_or, or_true, true_or, not_true, not_false_iff, Option.isSome_some, isO_d, gI_d, gA_d, pI_d, ne_eq, not_false_eq_true, u2_hi, u2_hj, u2_dyn, u2_dynj, Nat.reduceAdd, mX_r, mX_rD, mX_rDj, mM_r, mX_u, mX_uM, mX_uD, mX_uDj, mM_u, mM_uX, mM_uD, mM_uDj, u2_dd, u2_d0, u2_0d]
          | inr q =>
            obtain ⟨i4, D4⟩ := q
            rw [ho1] at g7
            obtain ⟨K2, d, y1, y2, y3, y4, y5, y6⟩ := g7
            have b4 := dSum_b hLA b10.1 ho1
            have f4 := FRD_S (k := 1) (by decide) ho1
            obtain ⟨s4, -, -, r3, -, -, -, -, r8, r9, r10⟩ := dSum_fr ho1
            have hbd : D4.2.2.1 ≤ 240 := by have a := b4.1.2.2.2; have c := b4.1.2.2.1; omega
            have hbd3 : D3.2.2.1 ≤ 240 := by have a := b3.1.2.2.2; have c := b3.1.2.2.1; omega
            have r33 : D4.2.2.2.1 3 s = varV t n i := by rw [r8 3 (by decide) (by decide) (by decide) (by decide), q8 3 (by decide) (by decide) (by decide) (by decide)]; exact hCr
            refine ⟨K2, d, ?_, y2, (hf1.trans FXs_V (Nat.le_refl _) (Nat.le_refl _)).trans y3 (Nat.le_refl _) g4, by omega, by omega, ?_, by rw [r33]; exact hvN, (hCf.trans f3).trans f4, b4.1⟩
            · rw [r33]
              simp (decide := true) only [f_X2_readEach, hnm, X_isv, hI, hsub, hav, hnm2, n5, e10, hav2, g1, hnm3, n6, hav3, y1, isO_s, gI_s, gA_s, gL_s, pI_s, pZ_s, pL_s, aI_s, aL_s, aN_s, aQ_s, sI_s, sL_s, cr, LNs, Option.map_some, Option.map_none, Option.bind_some, b2, tr, lt, if_true, if_false, ckZ, X_within, M_in, X_refuse, X_tell, X_deny, X_grant, M_refused, M_denied, M_done, M_granted, u2_same, u2_ne, u2_u2, upd_same, upd_ne, aW0, ixR_z, ixR_1, M_isWall, M_isPainter, M_isWork, X_has4, X_has10, X_at, or_false, false_or, or_true, true_or, not_true, not_false_iff, Option.isSome_some, isO_d, gI_d, gA_d, pI_d, ne_eq, not_false_eq_true, u2_hi, u2_hj, u2_dyn, u2_dynj, Nat.reduceAdd, mX_r, mX_rD, mX_rDj, mM_r, mX_u, mX_uM, mX_uD, mX_uDj, mM_u, mM_uX, mM_uD, mM_uDj, u2_dd, u2_d0, u2_0d]
            · have h1 : SumsAt D3.2.2.2.1 (K 46) (K 47) D3.2.2.1 s 1 0 dl dl1 := ⟨dl1, ⟨D3.2.2.1, by rw [q10, upd_same, q3], Nat.le_refl _, hbd3⟩, g6, g4, rfl⟩
              have h1' : SumsAt D4.2.2.2.1 (K2 46) (K2 47) D4.2.2.1 s 1 0 dl dl1 := by
                refine SumsAt_fr f4.2.2.2.2.2.2.1 f4.2.2.2.2.2.2.2 1 0 dl dl1 ?_ ?_ h1
                · intro x _ x2
                  rw [r9, r10, upd_ne (by omega), upd_ne (by omega)]
                  exact ⟨rfl, rfl⟩
                · intro j _ j2
                  rw [(y3.2.2.2.2.1 j j2).1, (y3.2.2.2.2.1 j j2).2.1, aVv_ne (by decide), aVv_ne (by decide)]
                  exact ⟨rfl, rfl⟩
              exact SumsAt_snoc 1 0 dl dl1 d h1' ⟨D4.2.2.1, by rw [Nat.zero_add, r10, upd_same, r3], Nat.le_refl _, hbd⟩ y6 y4
        · have n6 : (nmT t n i3 = 6) = False := by rw [nmT_6]; exact eq_false c10
          have en10 : dNeed t n i3 10 D3 = .inl (1, i3) := by unfold dNeed; rw [if_neg c10]
          rw [en10]
          have hfl := X_failF (b := b) (F := F) (E := E) (P := P) (nx := nx) (us := us) 1 g2.1 g2.2.1 g2.2.2.1
          refine ⟨K, ?_, hf1⟩
          simp (decide := true) only [f_X2_readEach, hnm, X_isv, hI, hsub, hav, hnm2, n5, e10, hav2, g1, hnm3, n6, hfl, isO_s, gI_s, gA_s, gL_s, pI_s, pZ_s, pL_s, aI_s, aL_s, aN_s, aQ_s, sI_s, sL_s, cr, LNs, Option.map_some, Option.map_none, Option.bind_some, b2, tr, lt, if_true, if_false, ckZ, X_within, M_in, X_refuse, X_tell, X_deny, X_grant, M_refused, M_denied, M_done, M_granted, u2_same, u2_ne, u2_u2, upd_same, upd_ne, aW0, ixR_z, ixR_1, M_isWall, M_isPainter, M_isWork, X_has4, X_has10, X_at, or_false, false_or, or_true, true_or, not_true, not_false_iff, Option.isSome_some, isO_d, gI_d, gA_d, pI_d, ne_eq, not_false_eq_true, u2_hi, u2_hj, u2_dyn, u2_dynj, Nat.reduceAdd, mX_r, mX_rD, mX_rDj, mM_r, mX_u, mX_uM, mX_uD, mX_uDj, mM_u, mM_uX, mM_uD, mM_uDj, u2_dd, u2_d0, u2_0d]
    · have n5 : (nmT t n (i + 1) = 5) = False := by rw [nmT_5]; exact eq_false c9
      have en9 : dNeed t n (i + 1) 9 C = .inl (1, i + 1) := by unfold dNeed; rw [if_neg c9]
      rw [en9]
      have hfl := X_failF (b := b) (F := F) (E := E) (P := P) (nx := nx) (us := us) 1 hX.1 hX.2.1 hX.2.2.1
      refine ⟨aVv I (i + 1), ?_, FXs_V⟩
      simp (decide := true) only [f_X2_readEach, hnm, X_isv, hI, hsub, hav, hnm2, n5, hfl, isO_s, gI_s, gA_s, gL_s, pI_s, pZ_s, pL_s, aI_s, aL_s, aN_s, aQ_s, sI_s, sL_s, cr, LNs, Option.map_some, Option.map_none, Option.bind_some, b2, tr, lt, if_true, if_false, ckZ, X_within, M_in, X_refuse, X_tell, X_deny, X_grant, M_refused, M_denied, M_done, M_granted, u2_same, u2_ne, u2_u2, upd_same, upd_ne, aW0, ixR_z, ixR_1, M_isWall, M_isPainter, M_isWork, X_has4, X_has10, X_at, or_false, false_or, or_true, true_or, not_true, not_false_iff, Option.isSome_some, isO_d, gI_d, gA_d, pI_d, ne_eq, not_false_eq_true, u2_hi, u2_hj, u2_dyn, u2_dynj, Nat.reduceAdd, mX_r, mX_rD, mX_rDj, mM_r, mX_u, mX_uM, mX_uD, mX_uDj, mM_u, mM_uX, mM_uD, mM_uDj, u2_dd, u2_d0, u2_0d]
theorem X_if {z : ZX} {t : RW} {n la i s bl dl wc : Nat} {D : DSt} (hz : GZ b F z) (hLA : LA t n la) (hla : la ≤ 400) (hD : DB la i D) (hdl : dl ≤ 118 + D.2.2.1) (h : XDs t n la i D.1 D.2.1 bl dl wc I L) : match dHd t n i s 11 D with
    | .inl (x, j) => ∃ K, f_X2_readIf (ad b 44) (lay b F E I L P nx us) = some (0, lay b F E (aF K x (pl t n j)) L P nx us) ∧ FXs 0 dl I K
    | .inr (i1, D1) => ∃ K d c, f_X2_readIf (ad b 44) (lay b F E I L P nx us) = (b2 (f_X2_openBracket (ad b 44) 11 c (lay b F E K L P nx us)) fun x19 h20 => if x19 = 0 then f_X2_readIf_72 h20 else f_X2_readIf_73 1 h20) ∧ XDs t n la i1 D1.1 D1.2.1 bl d wc K L ∧ FXs 0 dl I K ∧ dl ≤ d ∧ d + D.2.2.1 = dl + D1.2.2.1 ∧ SumsAt D1.2.2.2.1 (K 46) (K 47) D1.2.2.1 s 2 0 dl d ∧ ((c = 60 ∧ D1.2.2.2.1 4 s = 0) ∨ (c = 61 ∧ D1.2.2.2.1 4 s = 1) ∨ (c = 62 ∧ D1.2.2.2.1 4 s = 2)) ∧ FRD s D D1 ∧ DB la i1 D1 := by
  rw [hd11]
  have e10 : ((1 : Int32) = 0) = False := by decide
  have g0 := X_rs (b := b) (F := F) (E := E) (L := L) (P := P) (nx := nx) (us := us) (s := s) (k := 0) hz hLA hla hD hdl h
  cases ho0 : dSum t n i s 0 D with
  | inl q =>
    obtain ⟨x, j⟩ := q
    rw [ho0] at g0
    obtain ⟨K, g1, g2⟩ := g0
    refine ⟨K, ?_, g2⟩
    simp (decide := true) only [f_X2_readIf, g1, isO_s, gI_s, gA_s, gL_s, pI_s, pZ_s, pL_s, aI_s, aL_s, aN_s, aQ_s, sI_s, sL_s, cr, LNs, Option.map_some, Option.map_none, Option.bind_some, b2, tr, lt, if_true, if_false, ckZ, X_within, M_in, inR_z, X_refuse, X_tell, X_deny, X_grant, M_refused, M_denied, M_done, M_granted, u2_same, u2_ne, u2_u2, upd_same, upd_ne, aW0, ixR_z, ixR_1, M_isWall, M_isPainter, M_isWork, X_has4, X_has10, X_at, or_false, false_or, or_true, true_or, not_true, not_false_iff, Option.isSome_some, isO_d, gI_d, gA_d, pI_d, ne_eq, not_false_eq_true, u2_hi, u2_hj, u2_dyn, u2_dynj, Nat.reduceAdd, mX_r, mX_rD, mX_rDj, mM_r, mX_u, mX_uM, mX_uD, mX_uDj, mM_u, mM_uX, mM_uD, mM_uDj, u2_dd, u2_d0, u2_0d]
  | inr q =>
    obtain ⟨i3, D3⟩ := q
    rw [ho0] at g0
    obtain ⟨K, dl1, g1, g2, g3, g4, g5, g6⟩ := g0
    have b3 := dSum_b hLA hD ho0
    have f3 := FRD_S (k := 0) (by decide) ho0
    obtain ⟨s3, -, -, q3, -, -, -, -, q8, q9, q10⟩ := dSum_fr ho0
    have hsg := X_sign (b := b) (F := F) (E := E) (P := P) (nx := nx) (us := us) g2.1 g2.2.1 g2.2.2.1
    have hsc : ∀ c : Int32, c ≠ 0 → (sgn t n i3 = c) = isC t n i3 c := fun c hc => sgn_c hc
    show match dThen (dHow t n i3 s D3) (fun i D => dSum t n i s 1 D) with
      | .inl (x, j) => _
      | .inr (i1, D1) => _
    have good : ∀ (c x : Int32), isC t n i3 c → dHow t n i3 s D3 = .inr (i3 + 1, dR D3 4 s x) → ((c = 60 ∧ x = 0) ∨ (c = 61 ∧ x = 1) ∨ (c = 62 ∧ x = 2)) → f_X2_readIf (ad b 44) (lay b F E I L P nx us) = f_X2_readIf_44 (ad b 44) c (lay b F E K L P nx us) → match dThen (dHow t n i3 s D3) (fun i D => dSum t n i s 1 D) with
        | .inl (x, j) => ∃ K, f_X2_readIf (ad b 44) (lay b F E I L P nx us) = some (0, lay b F E (aF K x (pl t n j)) L P nx us) ∧ FXs 0 dl I K
        | .inr (i1, D1) => ∃ K d c, f_X2_readIf (ad b 44) (lay b F E I L P nx us) = (b2 (f_X2_openBracket (ad b 44) 11 c (lay b F E K L P nx us)) fun x19 h20 => if x19 = 0 then f_X2_readIf_72 h20 else f_X2_readIf_73 1 h20) ∧ XDs t n la i1 D1.1 D1.2.1 bl d wc K L ∧ FXs 0 dl I K ∧ dl ≤ d ∧ d + D.2.2.1 = dl + D1.2.2.1 ∧ SumsAt D1.2.2.2.1 (K 46) (K 47) D1.2.2.1 s 2 0 dl d ∧ ((c = 60 ∧ D1.2.2.2.1 4 s = 0) ∨ (c = 61 ∧ D1.2.2.2.1 4 s = 1) ∨ (c = 62 ∧ D1.2.2.2.1 4 s = 2)) ∧ FRD s D D1 ∧ DB la i1 D1 := by
      intro c x hc hH hcx hrun
      have bh := dHow_b hLA b3.1 hH
      rw [hH, hrun]
      have hil := isC_lt hLA g2.2.1 hc
      have hav := X_advV (b := b) (F := F) (E := E) (P := P) (nx := nx) (us := us) g2.1 hil g2.2.2.1
      have hX := g2.adv hil
      generalize hC : dR D3 4 s x = C at *
      have hC1 : C.1 = D3.1 := by rw [← hC]; rfl
      have hC2 : C.2.1 = D3.2.1 := by rw [← hC]; rfl
      have hC3 : C.2.2.1 = D3.2.2.1 := by rw [← hC]; rfl
      have hCr : C.2.2.2.1 4 s = x := by rw [← hC]; show u2 D3.2.2.2.1 4 (upd (D3.2.2.2.1 4) s x) 4 s = _; rw [u2_same, upd_same]
      have hCf : FRD s D3 C := by rw [← hC]; exact FRD_R (Or.inr (Or.inr (Or.inl rfl)))
      have hCs : C.2.2.2.1 7 = D3.2.2.2.1 7 ∧ C.2.2.2.1 8 = D3.2.2.2.1 8 ∧ C.2.2.2.1 9 = D3.2.2.2.1 9 ∧ C.2.2.2.1 10 = D3.2.2.2.1 10 := by
        have ne : ∀ j, j ≠ 4 → C.2.2.2.1 j = D3.2.2.2.1 j := fun j hj => by rw [← hC]; exact (show u2 D3.2.2.2.1 4 (upd (D3.2.2.2.1 4) s x) j = D3.2.2.2.1 j from u2_ne hj)
        exact ⟨ne 7 (by decide), ne 8 (by decide), ne 9 (by decide), ne 10 (by decide)⟩
      rw [← hC1, ← hC2] at hX
      have g7 := X_rs (b := b) (F := F) (E := E) (L := L) (P := P) (nx := nx) (us := us) (s := s) (k := 1) hz hLA hla bh.1 (by omega) hX
      show match dSum t n (i3 + 1) s 1 C with
        | .inl (x, j) => _
        | .inr (i1, D1) => _
      cases ho1 : dSum t n (i3 + 1) s 1 C with
      | inl q =>
        obtain ⟨x, j⟩ := q
        rw [ho1] at g7
        obtain ⟨K2, y1, y2⟩ := g7
        refine ⟨K2, ?_, (g3.trans FXs_V (Nat.le_refl _) (Nat.le_refl _)).trans y2 (Nat.le_refl _) g4⟩
        simp (decide := true) only [f_X2_readIf_44, f_X2_readIf_72, f_X2_readIf_73, hav, y1, isO_s, gI_s, gA_s, gL_s, pI_s, pZ_s, pL_s, aI_s, aL_s, aN_s, aQ_s, sI_s, sL_s, cr, LNs, Option.map_some, Option.map_none, Option.bind_some, b2, tr, lt, if_true, if_false, ckZ, X_within, M_in, inR_z, X_refuse, X_tell, X_deny, X_grant, M_refused, M_denied, M_done, M_granted, u2_same, u2_ne, u2_u2, upd_same, upd_ne, aW0, ixR_z, ixR_1, M_isWall, M_isPainter, M_isWork, X_has4, X_has10, X_at, or_false, false_or, or_true, true_or, not_true, not_false_iff, Option.isSome_some, isO_d, gI_d, gA_d, pI_d, ne_eq, not_false_eq_true, u2_hi, u2_hj, u2_dyn, u2_dynj, Nat.reduceAdd, mX_r, mX_rD, mX_rDj, mM_r, mX_u, mX_uM, mX_uD, mX_uDj, mM_u, mM_uX, mM_uD, mM_uDj, u2_dd, u2_d0, u2_0d]
      | inr q =>
        obtain ⟨i4, D4⟩ := q
        rw [ho1] at g7
        obtain ⟨K2, d, y1, y2, y3, y4, y5, y6⟩ := g7
        have b4 := dSum_b hLA bh.1 ho1
        have f4 := FRD_S (k := 1) (by decide) ho1
        obtain ⟨s4, -, -, r3, -, -, -, -, r8, r9, r10⟩ := dSum_fr ho1
        have hbd : D4.2.2.1 ≤ 240 := by have a := b4.1.2.2.2; have c := b4.1.2.2.1; omega
        have hbd3 : D3.2.2.1 ≤ 240 := by have a := b3.1.2.2.2; have c := b3.1.2.2.1; omega
        have r44 : D4.2.2.2.1 4 s = x := by rw [r8 4 (by decide) (by decide) (by decide) (by decide)]; exact hCr
        refine ⟨K2, d, c, ?_, y2, (g3.trans FXs_V (Nat.le_refl _) (Nat.le_refl _)).trans y3 (Nat.le_refl _) g4, by omega, by omega, ?_, by rw [r44]; exact hcx, (f3.trans hCf).trans f4, b4.1⟩
        · simp (decide := true) only [f_X2_readIf_44, hav, y1, e10, isO_s, gI_s, gA_s, gL_s, pI_s, pZ_s, pL_s, aI_s, aL_s, aN_s, aQ_s, sI_s, sL_s, cr, LNs, Option.map_some, Option.map_none, Option.bind_some, b2, tr, lt, if_true, if_false, ckZ, X_within, M_in, inR_z, X_refuse, X_tell, X_deny, X_grant, M_refused, M_denied, M_done, M_granted, u2_same, u2_ne, u2_u2, upd_same, upd_ne, aW0, ixR_z, ixR_1, M_isWall, M_isPainter, M_isWork, X_has4, X_has10, X_at, or_false, false_or, or_true, true_or, not_true, not_false_iff, Option.isSome_some, isO_d, gI_d, gA_d, pI_d, ne_eq, not_false_eq_true, u2_hi, u2_hj, u2_dyn, u2_dynj, Nat.reduceAdd, mX_r, mX_rD, mX_rDj, mM_r, mX_u, mX_uM, mX_uD, mX_uDj, mM_u, mM_uX, mM_uD, mM_uDj, u2_dd, u2_d0, u2_0d]
        · have h1 : SumsAt D3.2.2.2.1 (K 46) (K 47) D3.2.2.1 s 1 0 dl dl1 := ⟨dl1, ⟨D3.2.2.1, by rw [q10, upd_same, q3], Nat.le_refl _, hbd3⟩, g6, g4, rfl⟩
          have h1' : SumsAt D4.2.2.2.1 (K2 46) (K2 47) D4.2.2.1 s 1 0 dl dl1 := by
            refine SumsAt_fr (by have := f4.2.2.2.2.2.2.1; omega) (fun x hx => by have := f4.2.2.2.2.2.2.2 x (by omega); rw [hCs.2.2.1, hCs.2.2.2] at this; exact this) 1 0 dl dl1 ?_ ?_ h1
            · intro x _ x2
              rw [r9, r10, hCs.1, hCs.2.1, upd_ne (by omega), upd_ne (by omega)]
              exact ⟨rfl, rfl⟩
            · intro j _ j2
              rw [(y3.2.2.2.2.1 j j2).1, (y3.2.2.2.2.1 j j2).2.1, aVv_ne (by decide), aVv_ne (by decide)]
              exact ⟨rfl, rfl⟩
          exact SumsAt_snoc 1 0 dl dl1 d h1' ⟨D4.2.2.1, by rw [Nat.zero_add, r10, upd_same, r3], Nat.le_refl _, hbd⟩ y6 y4
    have h60 := hsc 60 (by decide)
    have h61 := hsc 61 (by decide)
    have h62 := hsc 62 (by decide)
    by_cases q60 : isC t n i3 60
    · have cs : sgn t n i3 = 60 := by rw [h60]; exact q60
      exact good 60 0 q60 (by unfold dHow; rw [if_pos q60]) (Or.inl ⟨rfl, rfl⟩) (by simp (decide := true) only [f_X2_readIf, g1, e10, hsg, cs, isO_s, gI_s, gA_s, gL_s, pI_s, pZ_s, pL_s, aI_s, aL_s, aN_s, aQ_s, sI_s, sL_s, cr, LNs, Option.map_some, Option.map_none, Option.bind_some, b2, tr, lt, if_true, if_false, ckZ, X_within, M_in, inR_z, X_refuse, X_tell, X_deny, X_grant, M_refused, M_denied, M_done, M_granted, u2_same, u2_ne, u2_u2, upd_same, upd_ne, aW0, ixR_z, ixR_1, M_isWall, M_isPainter, M_isWork, X_has4, X_has10, X_at, or_false, false_or, or_true, true_or, not_true, not_false_iff, Option.isSome_some, isO_d, gI_d, gA_d, pI_d, ne_eq, not_false_eq_true, u2_hi, u2_hj, u2_dyn, u2_dynj, Nat.reduceAdd, mX_r, mX_rD, mX_rDj, mM_r, mX_u, mX_uM, mX_uD, mX_uDj, mM_u, mM_uX, mM_uD, mM_uDj, u2_dd, u2_d0, u2_0d])
    · have n60 : (sgn t n i3 = 60) = False := by rw [h60]; exact eq_false q60
      by_cases q61 : isC t n i3 61
      · have cs : sgn t n i3 = 61 := by rw [h61]; exact q61
        exact good 61 1 q61 (by unfold dHow; rw [if_neg q60, if_pos q61]) (Or.inr (Or.inl ⟨rfl, rfl⟩)) (by simp (decide := true) only [f_X2_readIf, g1, e10, hsg, cs, isO_s, gI_s, gA_s, gL_s, pI_s, pZ_s, pL_s, aI_s, aL_s, aN_s, aQ_s, sI_s, sL_s, cr, LNs, Option.map_some, Option.map_none, Option.bind_some, b2, tr, lt, if_true, if_false, ckZ, X_within, M_in, inR_z, X_refuse, X_tell, X_deny, X_grant, M_refused, M_denied, M_done, M_granted, u2_same, u2_ne, u2_u2, upd_same, upd_ne, aW0, ixR_z, ixR_1, M_isWall, M_isPainter, M_isWork, X_has4, X_has10, X_at, or_false, false_or, or_true, true_or, not_true, not_false_iff, Option.isSome_some, isO_d, gI_d, gA_d, pI_d, ne_eq, not_false_eq_true, u2_hi, u2_hj, u2_dyn, u2_dynj, Nat.reduceAdd, mX_r, mX_rD, mX_rDj, mM_r, mX_u, mX_uM, mX_uD, mX_uDj, mM_u, mM_uX, mM_uD, mM_uDj, u2_dd, u2_d0, u2_0d])
      · have n61 : (sgn t n i3 = 61) = False := by rw [h61]; exact eq_false q61
        by_cases q62 : isC t n i3 62
        · have cs : sgn t n i3 = 62 := by rw [h62]; exact q62
          exact good 62 2 q62 (by unfold dHow; rw [if_neg q60, if_neg q61, if_pos q62]) (Or.inr (Or.inr ⟨rfl, rfl⟩)) (by simp (decide := true) only [f_X2_readIf, g1, e10, hsg, cs, isO_s, gI_s, gA_s, gL_s, pI_s, pZ_s, pL_s, aI_s, aL_s, aN_s, aQ_s, sI_s, sL_s, cr, LNs, Option.map_some, Option.map_none, Option.bind_some, b2, tr, lt, if_true, if_false, ckZ, X_within, M_in, inR_z, X_refuse, X_tell, X_deny, X_grant, M_refused, M_denied, M_done, M_granted, u2_same, u2_ne, u2_u2, upd_same, upd_ne, aW0, ixR_z, ixR_1, M_isWall, M_isPainter, M_isWork, X_has4, X_has10, X_at, or_false, false_or, or_true, true_or, not_true, not_false_iff, Option.isSome_some, isO_d, gI_d, gA_d, pI_d, ne_eq, not_false_eq_true, u2_hi, u2_hj, u2_dyn, u2_dynj, Nat.reduceAdd, mX_r, mX_rD, mX_rDj, mM_r, mX_u, mX_uM, mX_uD, mX_uDj, mM_u, mM_uX, mM_uD, mM_uDj, u2_dd, u2_d0, u2_0d])
        · have n62 : (sgn t n i3 = 62) = False := by rw [h62]; exact eq_false q62
          have hH : dHow t n i3 s D3 = .inl (1, i3) := by unfold dHow; rw [if_neg q60, if_neg q61, if_neg q62]
          rw [hH]
          have hfl := X_failF (b := b) (F := F) (E := E) (P := P) (nx := nx) (us := us) 1 g2.1 g2.2.1 g2.2.2.1
          refine ⟨K, ?_, g3⟩
          simp (decide := true) only [f_X2_readIf, g1, e10, hsg, n60, n61, n62, hfl, isO_s, gI_s, gA_s, gL_s, pI_s, pZ_s, pL_s, aI_s, aL_s, aN_s, aQ_s, sI_s, sL_s, cr, LNs, Option.map_some, Option.map_none, Option.bind_some, b2, tr, lt, if_true, if_false, ckZ, X_within, M_in, inR_z, X_refuse, X_tell, X_deny, X_grant, M_refused, M_denied, M_done, M_granted, u2_same, u2_ne, u2_u2, upd_same, upd_ne, aW0, ixR_z, ixR_1, M_isWall, M_isPainter, M_isWork, X_has4, X_has10, X_at, or_false, false_or, or_true, true_or, not_true, not_false_iff, Option.isSome_some, isO_d, gI_d, gA_d, pI_d, ne_eq, not_false_eq_true, u2_hi, u2_hj, u2_dyn, u2_dynj, Nat.reduceAdd, mX_r, mX_rD, mX_rDj, mM_r, mX_u, mX_uM, mX_uD, mX_uDj, mM_u, mM_uX, mM_uD, mM_uDj, u2_dd, u2_d0, u2_0d]
end STP9
