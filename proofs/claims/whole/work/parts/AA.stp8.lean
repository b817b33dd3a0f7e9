/-! ===== drawing: the class reads say ===== -/
theorem TX.frL {t : RW} {n la : Nat} {I : Nat → Nat → Int32} {L M : Nat → Nat → Int64} (h : TX t n la I L) (h1 : M 43 = L 43) : TX t n la I M := by
  unfold TX at h ⊢
  rw [h1]
  exact h
def xSay (dl wc : Nat) (c : Int32) (I : Nat → Nat → Int32) : Nat → Nat → Int32 := u2 (u2 (xPt dl 8 c I) 48 (upd (xPt dl 8 c I 48) dl (Int32.ofNat wc))) 45 (upd (xPt dl 8 c I 45) 5 (Int32.ofNat (wc + 1)))
/-- a word of k letters -/
def LWd (R : Nat → RW) (W : Nat → Int64) (s : Nat) : Prop := ∃ k v, R 6 s = Int32.ofNat k ∧ W s = Int64.ofNat v ∧ 1 ≤ k ∧ k ≤ 8 ∧ v < 32 ^ k ∧ 32 ^ (k - 1) ≤ v
theorem wv_lo {t : RW} : ∀ (m k v : Nat), ∃ w, wvR t m k (Int64.ofNat v) = Int64.ofNat w ∧ w < (v + 1) * 32 ^ (rnE lB t m k - k) ∧ v * 32 ^ (rnE lB t m k - k) ≤ w ∧ (1 ≤ rnE lB t m k - k → (32 * v + 1) * 32 ^ (rnE lB t m k - k - 1) ≤ w) := by
  intro m
  induction m with
  | zero =>
    intro k v
    have e : rnE lB t 0 k - k = 0 := by show k - k = 0; omega
    rw [e]
    exact ⟨v, rfl, by omega, by omega, fun q => by omega⟩
  | succ m ih =>
    intro k v
    by_cases hl : lB (t k) = true
    · have eR : rnE lB t (m + 1) k = rnE lB t m (k + 1) := by show (if lB (t k) = true then _ else _) = _; rw [if_pos hl]
      have eV : wvR t (m + 1) k (Int64.ofNat v) = wvR t m (k + 1) (32 * Int64.ofNat v + (t k - 97 + 1).toInt64) := by show (if lB (t k) = true then _ else _) = _; rw [if_pos hl]
      obtain ⟨d, d1, d2, d3⟩ := lB_n hl
      have hge := (rnE_ge (q := lB) (t := t) m (k + 1)).1
      have e3 : 32 * Int64.ofNat v + (t k - 97 + 1).toInt64 = Int64.ofNat (32 * v + d) := by
        rw [d3, show (32 : Int64) = Int64.ofNat 32 from rfl, ← Int64.ofNat_mul, ← Int64.ofNat_add]
      obtain ⟨w, w1, w2, w3, -⟩ := ih (k + 1) (32 * v + d)
      rw [eR, eV, e3]
      have el : rnE lB t m (k + 1) - k = (rnE lB t m (k + 1) - (k + 1)) + 1 := by omega
      have h1 : (32 * v + 1) * 32 ^ (rnE lB t m (k + 1) - (k + 1)) ≤ w := Nat.le_trans (Nat.mul_le_mul_right _ (by omega)) w3
      refine ⟨w, w1, ?_, ?_, fun _ => ?_⟩
      · rw [el, Nat.pow_succ, Nat.mul_comm (32 ^ _) 32, ← Nat.mul_assoc]
        exact Nat.lt_of_lt_of_le w2 (Nat.mul_le_mul_right _ (by omega))
      · rw [el, Nat.pow_succ, Nat.mul_comm (32 ^ _) 32, ← Nat.mul_assoc]
        exact Nat.le_trans (Nat.mul_le_mul_right _ (by omega)) h1
      · rw [el]
        exact h1
    · have eR : rnE lB t (m + 1) k = k := by show (if lB (t k) = true then _ else _) = _; rw [if_neg hl]
      have eV : wvR t (m + 1) k (Int64.ofNat v) = Int64.ofNat v := by show (if lB (t k) = true then _ else _) = _; rw [if_neg hl]
      rw [eR, eV]
      refine ⟨v, rfl, by rw [Nat.sub_self]; omega, by rw [Nat.sub_self]; omega, fun q => by omega⟩
theorem wrd_L {t : RW} {n k : Nat} (h : kd t n k = 2) : ∃ v, vl t n k = Int64.ofNat v ∧ 1 ≤ en t n k - k ∧ en t n k - k ≤ 8 ∧ v < 32 ^ (en t n k - k) ∧ 32 ^ (en t n k - k - 1) ≤ v := by
  obtain ⟨h1, h2, h3, h4, h5⟩ := kd_2 h
  obtain ⟨w, w1, w2, w3, w4⟩ := wv_lo (t := t) (n - k) k 0
  have hgt := rnE_1 (q := lB) (t := t) h1 h2
  rw [h4]
  have w4' := w4 (by omega)
  refine ⟨w, h3.trans w1, by omega, h5, ?_, ?_⟩
  · rw [Nat.zero_add, Nat.one_mul] at w2; exact w2
  · rw [Nat.mul_zero, Nat.zero_add, Nat.one_mul] at w4'; exact w4'
section STP8
variable {b : Nat} {F : Nat → Option AE} {D E : Nat → Option KD} {I : Nat → Nat → Int32} {L : Nat → Nat → Int64} {P : Nat → Nat → Option Nat} {nx us : Nat}
theorem X_psay {dl wc : Nat} {c : Int32} (x : Int64) (hc : VL c) (h4 : I 45 4 = Int32.ofNat dl) (h5 : I 45 5 = Int32.ofNat wc) (hdl : dl < 360) (hwc : wc < 40) : f_X1_putSay (ad b 45) c x (lay b F E I L P nx us) = some (lay b F E (xSay dl wc c I) (u2 L 49 (vp_updL (L 49) wc x)) P nx us) := by
  have e1 : (Int32.ofNat 40 ≤ Int32.ofNat wc) = False := oN_leF (c := 40) hwc (by omega)
  have e2 : iN (Int32.ofNat wc) 40 = some wc := iN_oN hwc (by omega)
  have hpt := X_dput (b := b) (F := F) (E := E) (L := u2 L 49 (vp_updL (L 49) wc x)) (P := P) (nx := nx) (us := us) (I := I) (dl := dl) 8 (by decide) hc h4 hdl
  have hpt' : f_X1_put (ad b 45) 8 c (lay b F E I (u2 L 49 (vp_updL (L 49) wc x)) P nx us) = some (lay b F E (xPt dl 8 c I) (u2 L 49 (vp_updL (L 49) wc x)) P nx us) := hpt
  have q4 : xPt dl 8 c I 45 4 = Int32.ofNat (dl + 1) := by rw [xPt_r.1, upd_same]
  have q5 : xPt dl 8 c I 45 5 = Int32.ofNat wc := by rw [xPt_r.1, upd_ne (by decide)]; exact h5
  have e3 : (Int32.ofNat (dl + 1) ≤ 0) = False := eq_false (fun q => by have := (oN_le (c := 0) (by omega) (by omega)).mp q; omega)
  have e4 : iN (Int32.ofNat dl) 360 = some dl := iN_oN hdl (by omega)
  have e5 : aW 3 (Int32.ofNat wc).toInt16.toInt32 = Int32.ofNat wc := sh_v wc (by omega)
  unfold xSay
  simp (decide := true) only [f_X1_putSay_62, f_X1_putSay_52, f_X1_putSay, h5, e1, e2, hpt', q4, e3, oN_pred, q5, e4, e5, oN_succ, isO_s, gI_s, gA_s, gL_s, pI_s, pZ_s, pL_s, aI_s, aL_s, aN_s, aQ_s, sI_s, sL_s, cr, LNs, Option.map_some, Option.map_none, Option.bind_some, b2, tr, lt, if_true, if_false, ckZ, X_within, M_in, inR_z, X_refuse, X_tell, X_deny, X_grant, M_refused, M_denied, M_done, M_granted, u2_same, u2_ne, u2_u2, upd_same, upd_ne, aW0, ixR_z, ixR_1, M_isWall, M_isPainter, M_isWork, X_has4, X_has10, X_at, or_false, false_or, or_true, true_or, not_true, not_false_iff, Option.isSome_some, isO_d, gI_d, gA_d, pI_d, ne_eq, not_false_eq_true, u2_hi, u2_hj, u2_dyn, u2_dynj, Nat.reduceAdd, mX_r, mX_rD, mX_rDj, mM_r, mX_u, mX_uM, mX_uD, mX_uDj, mM_u, mM_uX, mM_uD, mM_uDj, u2_dd, u2_d0, u2_0d]
theorem X_say {z : ZX} {t : RW} {n la i s bl dl wc : Nat} {D : DSt} (hz : GZ b F z) (hLA : LA t n la) (hla : la ≤ 400) (hD : DB la i D) (hdl : dl ≤ 118 + D.2.2.1) (hwc : wc < 40) (h : XDs t n la i D.1 D.2.1 bl dl wc I L) : match dHd t n i s 8 D with
    | .inl (x, j) => ∃ K, f_X2_readSay (ad b 44) (lay b F E I L P nx us) = some (0, lay b F E (aF K x (pl t n j)) L P nx us) ∧ FXs 0 dl I K
    | .inr (i1, D1) => ∃ K M d, f_X2_readSay (ad b 44) (lay b F E I L P nx us) = some (1, lay b F E K M P nx us) ∧ XDs t n la i1 D1.1 D1.2.1 bl (d + 1) (wc + 1) K M ∧ FXd bl wc dl I K L M ∧ dl ≤ d ∧ d + D.2.2.1 = dl + D1.2.2.1 ∧ SumsAt D1.2.2.2.1 (K 46) (K 47) D1.2.2.1 s 2 0 dl d ∧ K 46 d = 8 ∧ TN (K 47 d) (D1.2.2.2.1 2 s) ∧ K 48 d = Int32.ofNat wc ∧ M 49 wc = D1.2.2.2.2 s ∧ LWd D1.2.2.2.1 D1.2.2.2.2 s ∧ FRD s D D1 ∧ DB la i1 D1 := by
  rw [hd8]
  have hcol := X_colour (b := b) (F := F) (E := E) (P := P) (nx := nx) (us := us) hLA h
  cases hout : dTint t n i s D with
  | inl q =>
    obtain ⟨x, j⟩ := q
    unfold dTint at hout
    split at hout
    · rename_i c3
      cases hout
      rw [if_pos c3] at hcol
      refine ⟨I, ?_, FXs.refl⟩
      simp (decide := true) only [f_X2_readSay, hcol, isO_s, gI_s, gA_s, gL_s, pI_s, pZ_s, pL_s, aI_s, aL_s, aN_s, aQ_s, sI_s, sL_s, cr, LNs, Option.map_some, Option.map_none, Option.bind_some, b2, tr, lt, if_true, if_false, ckZ, X_within, M_in, inR_z, X_refuse, X_tell, X_deny, X_grant, M_refused, M_denied, M_done, M_granted, u2_same, u2_ne, u2_u2, upd_same, upd_ne, aW0, ixR_z, ixR_1, M_isWall, M_isPainter, M_isWork, X_has4, X_has10, X_at, or_false, false_or, or_true, true_or, not_true, not_false_iff, Option.isSome_some, isO_d, gI_d, gA_d, pI_d, ne_eq, not_false_eq_true, u2_hi, u2_hj, u2_dyn, u2_dynj, Nat.reduceAdd, mX_r, mX_rD, mX_rDj, mM_r, mX_u, mX_uM, mX_uD, mX_uDj, mM_u, mM_uX, mM_uD, mM_uDj, u2_dd, u2_d0, u2_0d]
    · rename_i c3
      split at hout
      · rename_i c8
        cases hout
        rw [if_neg c3, if_pos c8] at hcol
        refine ⟨I, ?_, FXs.refl⟩
        simp (decide := true) only [f_X2_readSay, hcol, isO_s, gI_s, gA_s, gL_s, pI_s, pZ_s, pL_s, aI_s, aL_s, aN_s, aQ_s, sI_s, sL_s, cr, LNs, Option.map_some, Option.map_none, Option.bind_some, b2, tr, lt, if_true, if_false, ckZ, X_within, M_in, inR_z, X_refuse, X_tell, X_deny, X_grant, M_refused, M_denied, M_done, M_granted, u2_same, u2_ne, u2_u2, upd_same, upd_ne, aW0, ixR_z, ixR_1, M_isWall, M_isPainter, M_isWork, X_has4, X_has10, X_at, or_false, false_or, or_true, true_or, not_true, not_false_iff, Option.isSome_some, isO_d, gI_d, gA_d, pI_d, ne_eq, not_false_eq_true, u2_hi, u2_hj, u2_dyn, u2_dynj, Nat.reduceAdd, mX_r, mX_rD, mX_rDj, mM_r, mX_u, mX_uM, mX_uD, mX_uDj, mM_u, mM_uX, mM_uD, mM_uDj, u2_dd, u2_d0, u2_0d]
      · cases hout
  | inr q =>
    obtain ⟨i1, D1⟩ := q
    have hb := dTint_b hLA hD hout
    unfold dTint at hout
    split at hout
    · cases hout
    · rename_i c3
      split at hout
      · cases hout
      · rename_i c8
        cases hout
        rw [if_neg c3, if_neg c8] at hcol
        have c3' := Classical.not_not.mp c3
        obtain ⟨v, hv, hnv⟩ := num_N c3'
        have hv8 : v < 8 := by
          have hq := Classical.not_not.mp c8
          rw [hnv] at hq
          exact (oN_lt (c := 8) (by omega) (by omega)).mp hq
        have nm1 : (num t n i = -1) = False := eq_false (fun q => by rw [hnv] at q; have := oN_neg (w := v) (by omega); rw [q] at this; exact this ▸ (by decide))
        have hil := LA_lt hLA hD.1 (show kd t n (pl t n i) ≠ 0 by omega) (show kd t n (pl t n i) ≠ 1 by omega)
        have hX := h.adv hil
        generalize hC : dR D 2 s (num t n i) = C at *
        have hC1 : C.1 = D.1 := by rw [← hC]; rfl
        have hC2 : C.2.1 = D.2.1 := by rw [← hC]; rfl
        have hC3 : C.2.2.1 = D.2.2.1 := by rw [← hC]; rfl
        have hCr : C.2.2.2.1 2 s = num t n i := by rw [← hC]; show u2 D.2.2.2.1 2 (upd (D.2.2.2.1 2) s (num t n i)) 2 s = _; rw [u2_same, upd_same]
        have hCf : FRD s D C := by rw [← hC]; exact FRD_R (Or.inl rfl)
        have hkd := X_kind (b := b) (F := F) (E := E) (P := P) (nx := nx) (us := us) hX.1 hX.2.1 hX.2.2.1
        have hvl := X_value (b := b) (F := F) (E := E) (P := P) (nx := nx) (us := us) hX.1 hX.2.1 hX.2.2.1
        have hle := kd_le (t := t) (n := n) (k := pl t n (i + 1))
        have h2 : (Int32.ofNat (kd t n (pl t n (i + 1))) = 2) = (kd t n (pl t n (i + 1)) = 2) := propext (oN_eq (c := 2) (by omega) (by omega))
        show match dThen (dWrd t n (i + 1) s C) (fun i D => dThen (dSum t n i s 0 D) fun i D => dSum t n i s 1 D) with
          | .inl (x, j) => _
          | .inr (i1, D1) => _
        by_cases c2 : kd t n (pl t n (i + 1)) = 2
        · have hw : dWrd t n (i + 1) s C = .inr (i + 1 + 1, dR (dW C s (vl t n (pl t n (i + 1)))) 6 s (Int32.ofNat (en t n (pl t n (i + 1)) - pl t n (i + 1)))) := by unfold dWrd; rw [if_neg (fun q => q c2)]
          have hbw := dWrd_b hLA hb.1 hw
          rw [hw]
          generalize hB : dR (dW C s (vl t n (pl t n (i + 1)))) 6 s (Int32.ofNat (en t n (pl t n (i + 1)) - pl t n (i + 1))) = B at *
          have hB1 : B.1 = D.1 := by rw [← hB]; exact hC1
          have hB2 : B.2.1 = D.2.1 := by rw [← hB]; exact hC2
          have hB3 : B.2.2.1 = D.2.2.1 := by rw [← hB]; exact hC3
          have hBr2 : B.2.2.2.1 2 s = num t n i := by rw [← hB]; exact (congrFun (show u2 C.2.2.2.1 6 (upd (C.2.2.2.1 6) s (Int32.ofNat (en t n (pl t n (i + 1)) - pl t n (i + 1)))) 2 = C.2.2.2.1 2 from u2_ne (by decide)) s).trans hCr
          have hBr6 : B.2.2.2.1 6 s = Int32.ofNat (en t n (pl t n (i + 1)) - pl t n (i + 1)) := by rw [← hB]; show u2 C.2.2.2.1 6 (upd (C.2.2.2.1 6) s (Int32.ofNat (en t n (pl t n (i + 1)) - pl t n (i + 1)))) 6 s = _; rw [u2_same, upd_same]
          have hBw : B.2.2.2.2 s = vl t n (pl t n (i + 1)) := by rw [← hB]; exact if_pos rfl
          have hBf : FRD s D B := hCf.trans (by rw [← hB]; exact FRD.trans FRD_W (FRD_R (Or.inr (Or.inr (Or.inr rfl)))))
          have hil2 := LA_lt hLA hX.2.1 (show kd t n (pl t n (i + 1)) ≠ 0 by omega) (show kd t n (pl t n (i + 1)) ≠ 1 by omega)
          have hav := X_advV (b := b) (F := F) (E := E) (P := P) (nx := nx) (us := us) hX.1 hil2 hX.2.2.1
          have hX2 := hX.adv hil2
          rw [← hB1, ← hB2] at hX2
          have hv43 : L 43 (i + 1) = vl t n (pl t n (i + 1)) := (h.1.2.2.1 (i + 1) hX.2.1).2.2 (by omega)
          have g0 := X_rs (b := b) (F := F) (E := E) (L := L) (P := P) (nx := nx) (us := us) (s := s) (k := 0) hz hLA hla hbw.1 (by omega) hX2
          show match dThen (dSum t n (i + 1 + 1) s 0 B) (fun i D => dSum t n i s 1 D) with
            | .inl (x, j) => _
            | .inr (i1, D1) => _
          cases ho0 : dSum t n (i + 1 + 1) s 0 B with
          | inl q =>
            obtain ⟨x, j⟩ := q
            rw [ho0] at g0
            obtain ⟨K, g1, g2⟩ := g0
            refine ⟨K, ?_, (FXs_V.trans FXs_V (Nat.le_refl _) (Nat.le_refl _)).trans g2 (Nat.le_refl _) (Nat.le_refl _)⟩
            simp (decide := true) only [f_X2_readSay, f_X2_readSay_61, hcol, nm1, hkd, h2, c2, hvl, hav, g1, isO_s, gI_s, gA_s, gL_s, pI_s, pZ_s, pL_s, aI_s, aL_s, aN_s, aQ_s, sI_s, sL_s, cr, LNs, Option.map_some, Option.map_none, Option.bind_some, b2, tr, lt, if_true, if_false, ckZ, X_within, M_in, inR_z, X_refuse, X_tell, X_deny, X_grant, M_refused, M_denied, M_done, M_granted, u2_same, u2_ne, u2_u2, upd_same, upd_ne, aW0, ixR_z, ixR_1, M_isWall, M_isPainter, M_isWork, X_has4, X_has10, X_at, or_false, false_or, or_true, true_or, not_true, not_false_iff, Option.isSome_some, isO_d, gI_d, gA_d, pI_d, ne_eq, not_false_eq_true, u2_hi, u2_hj, u2_dyn, u2_dynj, Nat.reduceAdd, mX_r, mX_rD, mX_rDj, mM_r, mX_u, mX_uM, mX_uD, mX_uDj, mM_u, mM_uX, mM_uD, mM_uDj, u2_dd, u2_d0, u2_0d]
          | inr q =>
            obtain ⟨i3, D3⟩ := q
            rw [ho0] at g0
            obtain ⟨K, dl1, g1, g2, g3, g4, g5, g6⟩ := g0
            have b3 := dSum_b hLA hbw.1 ho0
            have f3 := FRD_S (k := 0) (by decide) ho0
            obtain ⟨s3, -, -, q3, -, -, -, -, q8, q9, q10⟩ := dSum_fr ho0
            have g7 := X_rs (b := b) (F := F) (E := E) (L := L) (P := P) (nx := nx) (us := us) (s := s) (k := 1) hz hLA hla b3.1 (by omega) g2
            have e10 : ((1 : Int32) = 0) = False := by decide
            show match dSum t n i3 s 1 D3 with
              | .inl (x, j) => _
              | .inr (i1, D1) => _
            cases ho1 : dSum t n i3 s 1 D3 with
            | inl q =>
              obtain ⟨x, j⟩ := q
              rw [ho1] at g7
              obtain ⟨K2, y1, y2⟩ := g7
              refine ⟨K2, ?_, ((FXs_V.trans FXs_V (Nat.le_refl _) (Nat.le_refl _)).trans g3 (Nat.le_refl _) (Nat.le_refl _)).trans y2 (Nat.le_refl _) g4⟩
              simp (decide := true) only [f_X2_readSay, f_X2_readSay_61, hcol, nm1, hkd, h2, c2, hvl, hav, g1, e10, y1, isO_s, gI_s, gA_s, gL_s, pI_s, pZ_s, pL_s, aI_s, aL_s, aN_s, aQ_s, sI_s, sL_s, cr, LNs, Option.map_some, Option.map_none, Option.bind_some, b2, tr, lt, if_true, if_false, ckZ, X_within, M_in, inR_z, X_refuse, X_tell, X_deny, X_grant, M_refused, M_denied, M_done, M_granted, u2_same, u2_ne, u2_u2, upd_same, upd_ne, aW0, ixR_z, ixR_1, M_isWall, M_isPainter, M_isWork, X_has4, X_has10, X_at, or_false, false_or, or_true, true_or, not_true, not_false_iff, Option.isSome_some, isO_d, gI_d, gA_d, pI_d, ne_eq, not_false_eq_true, u2_hi, u2_hj, u2_dyn, u2_dynj, Nat.reduceAdd, mX_r, mX_rD, mX_rDj, mM_r, mX_u, mX_uM, mX_uD, mX_uDj, mM_u, mM_uX, mM_uD, mM_uDj, u2_dd, u2_d0, u2_0d]
            | inr q =>
              obtain ⟨i4, D4⟩ := q
              rw [ho1] at g7
              obtain ⟨K2, d, y1, y2, y3, y4, y5, y6⟩ := g7
              have b4 := dSum_b hLA b3.1 ho1
              have f4 := FRD_S (k := 1) (by decide) ho1
              obtain ⟨s4, -, -, r3, -, -, -, -, r8, r9, r10⟩ := dSum_fr ho1
              have hbd : D4.2.2.1 ≤ 240 := by have a := b4.1.2.2.2; have c := b4.1.2.2.1; omega
              have hbd3 : D3.2.2.1 ≤ 240 := by have a := b3.1.2.2.2; have c := b3.1.2.2.1; omega
              have hps := X_psay (b := b) (F := F) (E := E) (L := L) (P := P) (nx := nx) (us := us) (I := K2) (dl := d) (wc := wc) (c := num t n i) (vl t n (pl t n (i + 1))) (Or.inr ⟨v, hv, hnv⟩) y2.2.2.2.2.2.2.2.1 y2.2.2.2.2.2.2.2.2 (by omega) hwc
              have hFR : FRD s D D4 := (hBf.trans f3).trans f4
              have s46 : xSay d wc (num t n i) K2 46 = upd (K2 46) d 8 := by unfold xSay; rw [u2_ne (by decide), u2_ne (by decide), xPt_r.2.1]
              have s47 : xSay d wc (num t n i) K2 47 = upd (K2 47) d (num t n i) := by unfold xSay; rw [u2_ne (by decide), u2_ne (by decide), xPt_r.2.2.1]
              have s48 : xSay d wc (num t n i) K2 48 = upd (upd (K2 48) d 0) d (Int32.ofNat wc) := by unfold xSay; rw [u2_ne (by decide), u2_same, xPt_r.2.2.2]
              have s45 : xSay d wc (num t n i) K2 45 = upd (upd (K2 45) 4 (Int32.ofNat (d + 1))) 5 (Int32.ofNat (wc + 1)) := by unfold xSay; rw [u2_same, xPt_r.1]
              have sne : ∀ c, c ≠ 45 → c ≠ 46 → c ≠ 47 → c ≠ 48 → xSay d wc (num t n i) K2 c = K2 c := fun c c1 c2 c3 c4 => by unfold xSay; rw [u2_ne c1, u2_ne c4, xPt_ne c1 c2 c3 c4]
              have hfI : FXs 0 dl I K2 := ((FXs_V.trans FXs_V (Nat.le_refl _) (Nat.le_refl _)).trans g3 (Nat.le_refl _) (Nat.le_refl _)).trans y3 (Nat.le_refl _) g4
              obtain ⟨z1, z2, z3, z4, z5, z6, z7, z8, z9⟩ := y2
              have e40 := sne 40 (by decide) (by decide) (by decide) (by decide)
              have e44 := sne 44 (by decide) (by decide) (by decide) (by decide)
              obtain ⟨wv, wv1, wv2, wv3, wv4, wv5⟩ := wrd_L c2
              have r26 : ∀ j, j = 2 ∨ j = 6 → D4.2.2.2.1 j = B.2.2.2.1 j := fun j hj => by rw [r8 j (by omega) (by omega) (by omega) (by omega), q8 j (by omega) (by omega) (by omega) (by omega)]
              have hW4 : D4.2.2.2.2 = B.2.2.2.2 := by
                obtain ⟨_, _, _, _, _, _, _, w7, _⟩ := dSum_fr ho1
                obtain ⟨_, _, _, _, _, _, _, w8, _⟩ := dSum_fr ho0
                exact w7.trans w8
              refine ⟨xSay d wc (num t n i) K2, u2 L 49 (vp_updL (L 49) wc (vl t n (pl t n (i + 1)))), d, ?_, ?_, ?_, by omega, by omega, ?_, ?_, ?_, ?_, ?_, ?_, hFR, b4.1⟩
              · simp (decide := true) only [f_X2_readSay, f_X2_readSay_61, hcol, nm1, hkd, h2, c2, hvl, hav, g1, e10, y1, hv43, hps, isO_s, gI_s, gA_s, gL_s, pI_s, pZ_s, pL_s, aI_s, aL_s, aN_s, aQ_s, sI_s, sL_s, cr, LNs, Option.map_some, Option.map_none, Option.bind_some, b2, tr, lt, if_true, if_false, ckZ, X_within, M_in, inR_z, X_refuse, X_tell, X_deny, X_grant, M_refused, M_denied, M_done, M_granted, u2_same, u2_ne, u2_u2, upd_same, upd_ne, aW0, ixR_z, ixR_1, M_isWall, M_isPainter, M_isWork, X_has4, X_has10, X_at, or_false, false_or, or_true, true_or, not_true, not_false_iff, Option.isSome_some, isO_d, gI_d, gA_d, pI_d, ne_eq, not_false_eq_true, u2_hi, u2_hj, u2_dyn, u2_dynj, Nat.reduceAdd, mX_r, mX_rD, mX_rDj, mM_r, mX_u, mX_uM, mX_uD, mX_uDj, mM_u, mM_uX, mM_uD, mM_uDj, u2_dd, u2_d0, u2_0d]
              · refine ⟨(z1.fr (by rw [e40]) (sne 41 (by decide) (by decide) (by decide) (by decide)) (sne 42 (by decide) (by decide) (by decide) (by decide)) (sne 148 (by decide) (by decide) (by decide) (by decide))).frL (u2_ne (by decide)), z2, by rw [e40]; exact z3, by rw [e40]; exact z4, by rw [e44]; exact z5, by rw [e44]; exact z6, by rw [e44]; exact z7, ?_, ?_⟩
                · rw [s45, upd_ne (by decide), upd_same]
                · rw [s45, upd_same]
              · have hd1 : FXd bl wc dl I K2 L L := hfI.d
                refine ⟨fun c c1 c2 c3 c4 c5 c6 c7 c8 => by rw [sne c c3 c4 c5 c6]; exact hd1.1 c c1 c2 c3 c4 c5 c6 c7 c8, by rw [e40]; exact hd1.2.1, fun j hj => ?_, fun j hj => by rw [sne 50 (by decide) (by decide) (by decide) (by decide)]; exact hd1.2.2.2.1 j hj, fun c hc => u2_ne hc, fun j hj => ?_, fun hT => TYp.wr (by rw [s46]; exact upd_or (by decide)) (by rw [s47]; exact upd_or (VL_f (Or.inr ⟨v, hv, hnv⟩))) (fun k => by rw [s48]; exact (upd_or (t := 3) (fs_v wc (by omega)) k).elim (fun q => (upd_or (t := 3) (v := 0) (by decide) k).elim (fun q2 => Or.inl (q.trans q2)) (fun q2 => Or.inr (by rw [q]; exact q2))) Or.inr) (hd1.2.2.2.2.2.2 hT)⟩
                · rw [s46, s47, s48, upd_ne (by omega), upd_ne (by omega), upd_ne (by omega), upd_ne (by omega)]
                  exact hd1.2.2.1 j hj
                · rw [u2_same]
                  exact if_neg (by omega)
              · have h1 : SumsAt D3.2.2.2.1 (K 46) (K 47) D3.2.2.1 s 1 0 dl dl1 := ⟨dl1, ⟨D3.2.2.1, by rw [q10, upd_same, q3], Nat.le_refl _, hbd3⟩, g6, g4, rfl⟩
                have h1' : SumsAt D4.2.2.2.1 (K2 46) (K2 47) D4.2.2.1 s 1 0 dl dl1 := by
                  refine SumsAt_fr f4.2.2.2.2.2.2.1 f4.2.2.2.2.2.2.2 1 0 dl dl1 ?_ ?_ h1
                  · intro x _ x2
                    rw [r9, r10, upd_ne (by omega), upd_ne (by omega)]
                    exact ⟨rfl, rfl⟩
                  · intro j _ j2
                    exact ⟨(y3.2.2.2.2.1 j j2).1, (y3.2.2.2.2.1 j j2).2.1⟩
                have h2' : SumsAt D4.2.2.2.1 (K2 46) (K2 47) D4.2.2.1 s 2 0 dl d := SumsAt_snoc 1 0 dl dl1 d h1' ⟨D4.2.2.1, by rw [Nat.zero_add, r10, upd_same, r3], Nat.le_refl _, hbd⟩ y6 y4
                refine SumsAt_fr (Nat.le_refl _) (fun _ _ => ⟨rfl, rfl⟩) 2 0 dl d (fun _ _ _ => ⟨rfl, rfl⟩) ?_ h2'
                intro j _ j2
                rw [s46, s47, upd_ne (by omega), upd_ne (by omega)]
                exact ⟨rfl, rfl⟩
              · rw [s46, upd_same]
              · exact ⟨by rw [s47, upd_same, r26 2 (Or.inl rfl), hBr2], v, hv8, by rw [r26 2 (Or.inl rfl), hBr2]; exact hnv⟩
              · rw [s48, upd_same]
              · rw [u2_same, hW4, hBw]
                exact if_pos rfl
              · exact ⟨en t n (pl t n (i + 1)) - pl t n (i + 1), wv, by rw [r26 6 (Or.inr rfl)]; exact hBr6, by rw [hW4, hBw]; exact wv1, wv2, wv3, wv4, wv5⟩
        · have hw : dWrd t n (i + 1) s C = .inl (1, i + 1) := by unfold dWrd; rw [if_pos c2]
          rw [hw]
          have hfl := X_failF (b := b) (F := F) (E := E) (P := P) (nx := nx) (us := us) 1 hX.1 hX.2.1 hX.2.2.1
          refine ⟨aVv I (i + 1), ?_, FXs_V⟩
          simp (decide := true) only [f_X2_readSay, hcol, nm1, hkd, h2, c2, hfl, isO_s, gI_s, gA_s, gL_s, pI_s, pZ_s, pL_s, aI_s, aL_s, aN_s, aQ_s, sI_s, sL_s, cr, LNs, Option.map_some, Option.map_none, Option.bind_some, b2, tr, lt, if_true, if_false, ckZ, X_within, M_in, inR_z, X_refuse, X_tell, X_deny, X_grant, M_refused, M_denied, M_done, M_granted, u2_same, u2_ne, u2_u2, upd_same, upd_ne, aW0, ixR_z, ixR_1, M_isWall, M_isPainter, M_isWork, X_has4, X_has10, X_at, or_false, false_or, or_true, true_or, not_true, not_false_iff, Option.isSome_some, isO_d, gI_d, gA_d, pI_d, ne_eq, not_false_eq_true, u2_hi, u2_hj, u2_dyn, u2_dynj, Nat.reduceAdd, mX_r, mX_rD, mX_rDj, mM_r, mX_u, mX_uM, mX_uD, mX_uDj, mM_u, mM_uX, mM_uD, mM_uDj, u2_dd, u2_d0, u2_0d]
end STP8
