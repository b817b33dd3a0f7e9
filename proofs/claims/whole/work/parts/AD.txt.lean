/-! ===== drawing: the class reads a text ===== -/
def pLp (z : ZX) (b T : Nat) (h : AH) : Option AH := f_X2_read_24 (FU - T) (ad b 44) (Int32.ofNat T) h
def pRs (z : ZX) (b T : Nat) (h5 : AH) : Option AH := (gA 2 h5 (ad b 44) 0).bind fun a6 => b2 (f_X7_sign a6 h5) fun x7 h8 => if x7 = 59 then (gA 2 h8 (ad b 44) 0).bind fun a9 => (f_X7_advance a9 h8).bind fun h10 => pLp z b (T + 1) h10 else (gI 2 h8 (ad b 44) 5).bind fun x11 => if 0 < x11 then f_X2_read_87 (ad b 44) h8 else (gA 2 h8 (ad b 44) 0).bind fun a12 => b2 (f_X7_kind a12 h8) fun x13 h14 => if x13 = 0 then f_X2_read_96 h14 else f_X2_read_87 (ad b 44) h14
def pA (z : ZX) (b T u : Nat) (h : AH) : Option AH := (f_X2_closeBrackets_0 u (ad b 44) h).bind (pRs z b T)
theorem pLp_s (z : ZX) (b T : Nat) (h : AH) (hT : T ≤ 40) : pLp z b T h = (gI 2 h (ad b 44) 5).bind fun x1 => b2 (f_X2_readStep (ad b 44) h) fun x2 h3 => if x2 = 0 then some h3 else (gI 2 h3 (ad b 44) 5).bind fun x4 => if x4 ≤ x1 then (f_X2_closeBrackets (ad b 44) h3).bind (pRs z b T) else pLp z b (T + 1) h3 := by
  have e : FU - T = (FU - T - 1) + 1 := by unfold FU; omega
  have e4 : ¬ ((40 : Int32) < Int32.ofNat T) := fun q => by have := (oN_lt (a := 40) (by omega) (by omega)).mp q; omega
  have e2 : FU - (T + 1) = FU - T - 1 := by omega
  have e3 : pRs z b T = fun h5 => (gA 2 h5 (ad b 44) 0).bind fun a6 => b2 (f_X7_sign a6 h5) fun x7 h8 => if x7 = 59 then (gA 2 h8 (ad b 44) 0).bind fun a9 => (f_X7_advance a9 h8).bind fun h10 => f_X2_read_104 (f_X2_read_24 (FU - T - 1)) (ad b 44) (Int32.ofNat T) h10 else (gI 2 h8 (ad b 44) 5).bind fun x11 => if 0 < x11 then f_X2_read_87 (ad b 44) h8 else (gA 2 h8 (ad b 44) 0).bind fun a12 => b2 (f_X7_kind a12 h8) fun x13 h14 => if x13 = 0 then f_X2_read_96 h14 else f_X2_read_87 (ad b 44) h14 := by
    funext h5
    unfold pRs pLp f_X2_read_104
    rw [e2, oN_succ]
  have e5 : ∀ h3, pLp z b (T + 1) h3 = f_X2_read_104 (f_X2_read_24 (FU - T - 1)) (ad b 44) (Int32.ofNat T) h3 := by
    intro h3
    unfold pLp f_X2_read_104
    rw [e2, oN_succ]
  rw [e3]
  simp only [e5]
  unfold pLp
  generalize hk : FU - T - 1 = k at e
  rw [e, f_X2_read_24, if_neg e4]
section TXT
variable {b : Nat} {F : Nat → Option AE} {D E : Nat → Option KD} {I : Nat → Nat → Int32} {L : Nat → Nat → Int64} {P : Nat → Nat → Option Nat} {nx us : Nat}
/-- a step begun -/
def xBeg (i st dl : Nat) (I : Nat → Nat → Int32) : Nat → Nat → Int32 := aVv (xPt dl 0 0 (u2 I 44 (upd (I 44) 2 (Int32.ofNat (st + 1))))) (i + 1)
theorem xBeg_f {i st dl bl wc : Nat} {L : Nat → Nat → Int64} : FXd bl wc dl I (xBeg i st dl I) L L := by
  have e : ∀ c, c ≠ 40 → c ≠ 44 → c ≠ 45 → c ≠ 46 → c ≠ 47 → c ≠ 48 → xBeg i st dl I c = I c := fun c c1 c2 c3 c4 c5 c6 => by unfold xBeg; rw [aVv_ne c1, xPt_ne c3 c4 c5 c6, u2_ne c2]
  refine ⟨fun c c1 c2 c3 c4 c5 c6 _ _ => e c c1 c2 c3 c4 c5 c6, ?_, fun j hj => ?_, fun j _ => by rw [e 50 (by decide) (by decide) (by decide) (by decide) (by decide) (by decide)], fun _ _ => rfl, fun _ _ => rfl, TYp.wr (fun k => ?_) (fun k => ?_) (fun k => ?_)⟩
  · unfold xBeg; rw [aVv_40 (by decide), xPt_ne (by decide) (by decide) (by decide) (by decide), u2_ne (by decide)]
  · unfold xBeg
    rw [aVv_ne (by decide), aVv_ne (by decide), aVv_ne (by decide), xPt_r.2.1, xPt_r.2.2.1, xPt_r.2.2.2, upd_ne (by omega), upd_ne (by omega), upd_ne (by omega), u2_ne (by decide), u2_ne (by decide), u2_ne (by decide)]
    exact ⟨rfl, rfl, rfl⟩
  · unfold xBeg; rw [aVv_ne (by decide), xPt_r.2.1, u2_ne (by decide)]; exact upd_or (by decide) k
  · unfold xBeg; rw [aVv_ne (by decide), xPt_r.2.2.1, u2_ne (by decide)]; exact upd_or (by decide) k
  · unfold xBeg; rw [aVv_ne (by decide), xPt_r.2.2.2, u2_ne (by decide)]; exact upd_or (by decide) k
theorem X_beg {z : ZX} {t : RW} {n la i st pa bl dl wc : Nat} (hz : GZ b F z) (hLA : LA t n la) (hst : st ≤ 40) (hdl : st < 40 → dl < 360) (h : XDs t n la i st pa bl dl wc I L) : (kd t n (pl t n i) ≠ 2 → f_X2_readStep (ad b 44) (lay b F E I L P nx us) = some (0, lay b F E (aF I 1 (pl t n i)) L P nx us)) ∧ (kd t n (pl t n i) = 2 → skV t n i = -1 → f_X2_readStep (ad b 44) (lay b F E I L P nx us) = some (0, lay b F E (aF I 2 (pl t n i)) L P nx us)) ∧ (kd t n (pl t n i) = 2 → skV t n i ≠ -1 → st = 40 → f_X2_readStep (ad b 44) (lay b F E I L P nx us) = some (0, lay b F E (aF I 4 (pl t n i)) L P nx us)) ∧ (kd t n (pl t n i) = 2 → skV t n i ≠ -1 → st < 40 → XDs t n la (i + 1) (st + 1) pa bl (dl + 1) wc (xBeg i st dl I) L ∧ f_X2_readStep (ad b 44) (lay b F E I L P nx us) = (if skV t n i = 6 then b2 (f_X2_readShape (ad b 44) (skV t n i) 4 (lay b F E (xBeg i st dl I) L P nx us)) fun x20 h21 => (ckZ x20).bind fun x22 => some (x22, h21) else if skV t n i = 7 then b2 (f_X2_readShape (ad b 44) (skV t n i) 3 (lay b F E (xBeg i st dl I) L P nx us)) fun x23 h24 => (ckZ x23).bind fun x25 => some (x25, h24) else if skV t n i = 8 then b2 (f_X2_readSay (ad b 44) (lay b F E (xBeg i st dl I) L P nx us)) fun x26 h27 => (ckZ x26).bind fun x28 => some (x28, h27) else if skV t n i = 9 then b2 (f_X2_readEach (ad b 44) (lay b F E (xBeg i st dl I) L P nx us)) fun x29 h30 => (ckZ x29).bind fun x31 => some (x31, h30) else b2 (f_X2_readIf (ad b 44) (lay b F E (xBeg i st dl I) L P nx us)) fun x13 h14 => (ckZ x13).bind fun x15 => some (x15, h14))) := by
  obtain ⟨a1, a2, a3, a4, a5, a6, a7, a8, a9⟩ := h
  have hkd := X_kind (b := b) (F := F) (E := E) (P := P) (nx := nx) (us := us) a1 a2 a3
  have hnm := X_name (b := b) (F := F) (E := E) (P := P) (nx := nx) (us := us) a1 a2 a3
  have hfl := fun c => X_failF (b := b) (F := F) (E := E) (P := P) (nx := nx) (us := us) c a1 a2 a3
  have hle := kd_le (t := t) (n := n) (k := pl t n i)
  have h2 : (Int32.ofNat (kd t n (pl t n i)) = 2) = (kd t n (pl t n i) = 2) := propext (oN_eq (c := 2) (by omega) (by omega))
  refine ⟨fun c2 => ?_, fun c2 cs => ?_, fun c2 cs c4 => ?_, fun c2 cs c4 => ?_⟩
  · simp (decide := true) only [f_X2_readStep, hkd, h2, c2, hfl 1, isO_s, gI_s, gA_s, gL_s, pI_s, pZ_s, pL_s, aI_s, aL_s, aN_s, aQ_s, sI_s, sL_s, cr, LNs, Option.map_some, Option.map_none, Option.bind_some, b2, tr, lt, if_true, if_false, ckZ, X_within, M_in, inR_z, X_refuse, X_tell, X_deny, X_grant, M_refused, M_denied, M_done, M_granted, u2_same, u2_ne, u2_u2, upd_same, upd_ne, aW0, ixR_z, ixR_1, M_isWall, M_isPainter, M_isWork, X_has4, X_has10, X_at, or_false, false_or, or_true, true_or, not_true, not_false_iff, Option.isSome_some, isO_d, gI_d, gA_d, pI_d, ne_eq, not_false_eq_true, u2_hi, u2_hj, u2_dyn, u2_dynj, Nat.reduceAdd, mX_r, mX_rD, mX_rDj, mM_r, mX_u, mX_uM, mX_uD, mX_uDj, mM_u, mM_uX, mM_uD, mM_uDj, u2_dd, u2_d0, u2_0d]
  · obtain ⟨k1, -⟩ := sk_T c2
    by_cases m0 : nmT t n i < 0
    · have n0 : (nmT t n i < 0) = True := eq_true m0
      simp (decide := true) only [f_X2_readStep, f_X2_readStep_37, hnm, hkd, h2, c2, n0, hfl 2, isO_s, gI_s, gA_s, gL_s, pI_s, pZ_s, pL_s, aI_s, aL_s, aN_s, aQ_s, sI_s, sL_s, cr, LNs, Option.map_some, Option.map_none, Option.bind_some, b2, tr, lt, if_true, if_false, ckZ, X_within, M_in, inR_z, X_refuse, X_tell, X_deny, X_grant, M_refused, M_denied, M_done, M_granted, u2_same, u2_ne, u2_u2, upd_same, upd_ne, aW0, ixR_z, ixR_1, M_isWall, M_isPainter, M_isWork, X_has4, X_has10, X_at, or_false, false_or, or_true, true_or, not_true, not_false_iff, Option.isSome_some, isO_d, gI_d, gA_d, pI_d, ne_eq, not_false_eq_true, u2_hi, u2_hj, u2_dyn, u2_dynj, Nat.reduceAdd, mX_r, mX_rD, mX_rDj, mM_r, mX_u, mX_uM, mX_uD, mX_uDj, mM_u, mM_uX, mM_uD, mM_uDj, u2_dd, u2_d0, u2_0d]
    · have n0 : (nmT t n i < 0) = False := eq_false m0
      have n4 : (nmT t n i ≤ 4) = False := eq_false (fun q => absurd ((k1.mpr cs).resolve_left m0) (Int32.not_lt.mpr q))
      simp (decide := true) only [f_X2_readStep, f_X2_readStep_37, hnm, hkd, h2, c2, n0, n4, hfl 2, isO_s, gI_s, gA_s, gL_s, pI_s, pZ_s, pL_s, aI_s, aL_s, aN_s, aQ_s, sI_s, sL_s, cr, LNs, Option.map_some, Option.map_none, Option.bind_some, b2, tr, lt, if_true, if_false, ckZ, X_within, M_in, inR_z, X_refuse, X_tell, X_deny, X_grant, M_refused, M_denied, M_done, M_granted, u2_same, u2_ne, u2_u2, upd_same, upd_ne, aW0, ixR_z, ixR_1, M_isWall, M_isPainter, M_isWork, X_has4, X_has10, X_at, or_false, false_or, or_true, true_or, not_true, not_false_iff, Option.isSome_some, isO_d, gI_d, gA_d, pI_d, ne_eq, not_false_eq_true, u2_hi, u2_hj, u2_dyn, u2_dynj, Nat.reduceAdd, mX_r, mX_rD, mX_rDj, mM_r, mX_u, mX_uM, mX_uD, mX_uDj, mM_u, mM_uX, mM_uD, mM_uDj, u2_dd, u2_d0, u2_0d]
  · obtain ⟨k1, -⟩ := sk_T c2
    have n0 : (nmT t n i < 0) = False := eq_false (fun q => cs (k1.mp (Or.inl q)))
    have n4 : (nmT t n i ≤ 4) = True := eq_true (Int32.not_lt.mp (fun q => cs (k1.mp (Or.inr q))))
    have e : (Int32.ofNat st < 40) = False := by rw [c4]; decide
    simp (decide := true) only [f_X2_readStep, hnm, hkd, h2, c2, n0, n4, a5, e, hfl 4, isO_s, gI_s, gA_s, gL_s, pI_s, pZ_s, pL_s, aI_s, aL_s, aN_s, aQ_s, sI_s, sL_s, cr, LNs, Option.map_some, Option.map_none, Option.bind_some, b2, tr, lt, if_true, if_false, ckZ, X_within, M_in, inR_z, X_refuse, X_tell, X_deny, X_grant, M_refused, M_denied, M_done, M_granted, u2_same, u2_ne, u2_u2, upd_same, upd_ne, aW0, ixR_z, ixR_1, M_isWall, M_isPainter, M_isWork, X_has4, X_has10, X_at, or_false, false_or, or_true, true_or, not_true, not_false_iff, Option.isSome_some, isO_d, gI_d, gA_d, pI_d, ne_eq, not_false_eq_true, u2_hi, u2_hj, u2_dyn, u2_dynj, Nat.reduceAdd, mX_r, mX_rD, mX_rDj, mM_r, mX_u, mX_uM, mX_uD, mX_uDj, mM_u, mM_uX, mM_uD, mM_uDj, u2_dd, u2_d0, u2_0d]
  · obtain ⟨k1, k6, k7, k8, k9⟩ := sk_T c2
    have n0 : (nmT t n i < 0) = False := eq_false (fun q => cs (k1.mp (Or.inl q)))
    have n4 : (nmT t n i ≤ 4) = True := eq_true (Int32.not_lt.mp (fun q => cs (k1.mp (Or.inr q))))
    have e : (Int32.ofNat st < 40) = True := eq_true ((oN_lt (c := 40) (by omega) (by omega)).mpr c4)
    have hil := LA_lt hLA a2 (show kd t n (pl t n i) ≠ 0 by omega) (show kd t n (pl t n i) ≠ 1 by omega)
    have hX0 : XDs t n la i (st + 1) pa bl dl wc (u2 I 44 (upd (I 44) 2 (Int32.ofNat (st + 1)))) L := ⟨a1.fr (by simp (decide := true) only [u2_same, u2_ne, u2_u2, upd_same, upd_ne, mE, u2_dyn, dyn_u2, dyn_hi, u2_hi, u2_hj, u2_dynj, u2_dd, u2_d0, u2_0d]) (by simp (decide := true) only [u2_same, u2_ne, u2_u2, upd_same, upd_ne, mE, u2_dyn, dyn_u2, dyn_hi, u2_hi, u2_hj, u2_dynj, u2_dd, u2_d0, u2_0d]) (by simp (decide := true) only [u2_same, u2_ne, u2_u2, upd_same, upd_ne, mE, u2_dyn, dyn_u2, dyn_hi, u2_hi, u2_hj, u2_dynj, u2_dd, u2_d0, u2_0d]) (by simp (decide := true) only [u2_same, u2_ne, u2_u2, upd_same, upd_ne, mE, u2_dyn, dyn_u2, dyn_hi, u2_hi, u2_hj, u2_dynj, u2_dd, u2_d0, u2_0d]), a2, by simp (decide := true) only [u2_same, u2_ne, u2_u2, upd_same, upd_ne, mE, u2_dyn, dyn_u2, dyn_hi, u2_hi, u2_hj, u2_dynj, u2_dd, u2_d0, u2_0d]; exact a3, by simp (decide := true) only [u2_same, u2_ne, u2_u2, upd_same, upd_ne, mE, u2_dyn, dyn_u2, dyn_hi, u2_hi, u2_hj, u2_dynj, u2_dd, u2_d0, u2_0d]; exact a4, by simp (decide := true) only [u2_same, u2_ne, u2_u2, upd_same, upd_ne, mE, u2_dyn, dyn_u2, dyn_hi, u2_hi, u2_hj, u2_dynj, u2_dd, u2_d0, u2_0d], by simp (decide := true) only [u2_same, u2_ne, u2_u2, upd_same, upd_ne, mE, u2_dyn, dyn_u2, dyn_hi, u2_hi, u2_hj, u2_dynj, u2_dd, u2_d0, u2_0d]; exact a6, by simp (decide := true) only [u2_same, u2_ne, u2_u2, upd_same, upd_ne, mE, u2_dyn, dyn_u2, dyn_hi, u2_hi, u2_hj, u2_dynj, u2_dd, u2_d0, u2_0d]; exact a7, by simp (decide := true) only [u2_same, u2_ne, u2_u2, upd_same, upd_ne, mE, u2_dyn, dyn_u2, dyn_hi, u2_hi, u2_hj, u2_dynj, u2_dd, u2_d0, u2_0d]; exact a8, by simp (decide := true) only [u2_same, u2_ne, u2_u2, upd_same, upd_ne, mE, u2_dyn, dyn_u2, dyn_hi, u2_hi, u2_hj, u2_dynj, u2_dd, u2_d0, u2_0d]; exact a9⟩
    have hpt := X_dput (b := b) (F := F) (E := E) (L := L) (P := P) (nx := nx) (us := us) (I := u2 I 44 (upd (I 44) 2 (Int32.ofNat (st + 1)))) (dl := dl) (v := 0) 0 (by decide) (Or.inr ⟨0, by decide, rfl⟩) hX0.2.2.2.2.2.2.2.1 (hdl c4)
    have hpt' : f_X1_put (ad b 45) 0 0 (lay b F E (u2 I 44 (upd (I 44) 2 (Int32.ofNat (st + 1)))) L P nx us) = some (lay b F E (xPt dl 0 0 (u2 I 44 (upd (I 44) 2 (Int32.ofNat (st + 1))))) L P nx us) := hpt
    have hX1 : XDs t n la i (st + 1) pa bl (dl + 1) wc (xPt dl 0 0 (u2 I 44 (upd (I 44) 2 (Int32.ofNat (st + 1))))) L := hX0.put
    have hav := X_advV (b := b) (F := F) (E := E) (P := P) (nx := nx) (us := us) hX1.1 hil hX1.2.2.1
    refine ⟨hX1.adv hil, ?_⟩
    unfold xBeg
    by_cases s6 : skV t n i = 6
    · have m : nmT t n i = 0 := k6.mpr s6
      rw [s6, if_pos rfl]
      rw [m] at hnm
      simp (decide := true) only [f_X2_readStep, hnm, hkd, h2, c2, a5, e, oN_succ, hpt', hav, isO_s, gI_s, gA_s, gL_s, pI_s, pZ_s, pL_s, aI_s, aL_s, aN_s, aQ_s, sI_s, sL_s, cr, LNs, Option.map_some, Option.map_none, Option.bind_some, b2, tr, lt, if_true, if_false, ckZ, X_within, M_in, inR_z, X_refuse, X_tell, X_deny, X_grant, M_refused, M_denied, M_done, M_granted, u2_same, u2_ne, u2_u2, upd_same, upd_ne, aW0, ixR_z, ixR_1, M_isWall, M_isPainter, M_isWork, X_has4, X_has10, X_at, or_false, false_or, or_true, true_or, not_true, not_false_iff, Option.isSome_some, isO_d, gI_d, gA_d, pI_d, ne_eq, not_false_eq_true, u2_hi, u2_hj, u2_dyn, u2_dynj, Nat.reduceAdd, mX_r, mX_rD, mX_rDj, mM_r, mX_u, mX_uM, mX_uD, mX_uDj, mM_u, mM_uX, mM_uD, mM_uDj, u2_dd, u2_d0, u2_0d]
    · rw [if_neg s6]
      by_cases s7 : skV t n i = 7
      · have m : nmT t n i = 1 := k7.mpr s7
        rw [s7, if_pos rfl]
        rw [m] at hnm
        simp (decide := true) only [f_X2_readStep, hnm, hkd, h2, c2, a5, e, oN_succ, hpt', hav, isO_s, gI_s, gA_s, gL_s, pI_s, pZ_s, pL_s, aI_s, aL_s, aN_s, aQ_s, sI_s, sL_s, cr, LNs, Option.map_some, Option.map_none, Option.bind_some, b2, tr, lt, if_true, if_false, ckZ, X_within, M_in, inR_z, X_refuse, X_tell, X_deny, X_grant, M_refused, M_denied, M_done, M_granted, u2_same, u2_ne, u2_u2, upd_same, upd_ne, aW0, ixR_z, ixR_1, M_isWall, M_isPainter, M_isWork, X_has4, X_has10, X_at, or_false, false_or, or_true, true_or, not_true, not_false_iff, Option.isSome_some, isO_d, gI_d, gA_d, pI_d, ne_eq, not_false_eq_true, u2_hi, u2_hj, u2_dyn, u2_dynj, Nat.reduceAdd, mX_r, mX_rD, mX_rDj, mM_r, mX_u, mX_uM, mX_uD, mX_uDj, mM_u, mM_uX, mM_uD, mM_uDj, u2_dd, u2_d0, u2_0d]
      · rw [if_neg s7]
        by_cases s8 : skV t n i = 8
        · have m : nmT t n i = 2 := k8.mpr s8
          rw [s8, if_pos rfl]
          rw [m] at hnm
          simp (decide := true) only [f_X2_readStep, hnm, hkd, h2, c2, a5, e, oN_succ, hpt', hav, isO_s, gI_s, gA_s, gL_s, pI_s, pZ_s, pL_s, aI_s, aL_s, aN_s, aQ_s, sI_s, sL_s, cr, LNs, Option.map_some, Option.map_none, Option.bind_some, b2, tr, lt, if_true, if_false, ckZ, X_within, M_in, inR_z, X_refuse, X_tell, X_deny, X_grant, M_refused, M_denied, M_done, M_granted, u2_same, u2_ne, u2_u2, upd_same, upd_ne, aW0, ixR_z, ixR_1, M_isWall, M_isPainter, M_isWork, X_has4, X_has10, X_at, or_false, false_or, or_true, true_or, not_true, not_false_iff, Option.isSome_some, isO_d, gI_d, gA_d, pI_d, ne_eq, not_false_eq_true, u2_hi, u2_hj, u2_dyn, u2_dynj, Nat.reduceAdd, mX_r, mX_rD, mX_rDj, mM_r, mX_u, mX_uM, mX_uD, mX_uDj, mM_u, mM_uX, mM_uD, mM_uDj, u2_dd, u2_d0, u2_0d]
        · rw [if_neg s8]
          by_cases s9 : skV t n i = 9
          · have m : nmT t n i = 3 := k9.mpr s9
            rw [s9, if_pos rfl]
            rw [m] at hnm
            simp (decide := true) only [f_X2_readStep, hnm, hkd, h2, c2, a5, e, oN_succ, hpt', hav, isO_s, gI_s, gA_s, gL_s, pI_s, pZ_s, pL_s, aI_s, aL_s, aN_s, aQ_s, sI_s, sL_s, cr, LNs, Option.map_some, Option.map_none, Option.bind_some, b2, tr, lt, if_true, if_false, ckZ, X_within, M_in, inR_z, X_refuse, X_tell, X_deny, X_grant, M_refused, M_denied, M_done, M_granted, u2_same, u2_ne, u2_u2, upd_same, upd_ne, aW0, ixR_z, ixR_1, M_isWall, M_isPainter, M_isWork, X_has4, X_has10, X_at, or_false, false_or, or_true, true_or, not_true, not_false_iff, Option.isSome_some, isO_d, gI_d, gA_d, pI_d, ne_eq, not_false_eq_true, u2_hi, u2_hj, u2_dyn, u2_dynj, Nat.reduceAdd, mX_r, mX_rD, mX_rDj, mM_r, mX_u, mX_uM, mX_uD, mX_uDj, mM_u, mM_uX, mM_uD, mM_uDj, u2_dd, u2_d0, u2_0d]
          · rw [if_neg s9]
            have m0 : (nmT t n i = 0) = False := eq_false (fun q => s6 (k6.mp q))
            have m1 : (nmT t n i = 1) = False := eq_false (fun q => s7 (k7.mp q))
            have m2 : (nmT t n i = 2) = False := eq_false (fun q => s8 (k8.mp q))
            have m3 : (nmT t n i = 3) = False := eq_false (fun q => s9 (k9.mp q))
            simp (decide := true) only [f_X2_readStep, hnm, hkd, h2, c2, n0, n4, a5, e, oN_succ, hpt', hav, m0, m1, m2, m3, isO_s, gI_s, gA_s, gL_s, pI_s, pZ_s, pL_s, aI_s, aL_s, aN_s, aQ_s, sI_s, sL_s, cr, LNs, Option.map_some, Option.map_none, Option.bind_some, b2, tr, lt, if_true, if_false, ckZ, X_within, M_in, inR_z, X_refuse, X_tell, X_deny, X_grant, M_refused, M_denied, M_done, M_granted, u2_same, u2_ne, u2_u2, upd_same, upd_ne, aW0, ixR_z, ixR_1, M_isWall, M_isPainter, M_isWork, X_has4, X_has10, X_at, or_false, false_or, or_true, true_or, not_true, not_false_iff, Option.isSome_some, isO_d, gI_d, gA_d, pI_d, ne_eq, not_false_eq_true, u2_hi, u2_hj, u2_dyn, u2_dynj, Nat.reduceAdd, mX_r, mX_rD, mX_rDj, mM_r, mX_u, mX_uM, mX_uD, mX_uDj, mM_u, mM_uX, mM_uD, mM_uDj, u2_dd, u2_d0, u2_0d]
end TXT
