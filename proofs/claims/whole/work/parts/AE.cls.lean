/-! ===== drawing: the class closes brackets ===== -/
def xC9 (bl d dl i : Nat) (K : Nat → Nat → Int32) : Nat → Nat → Int32 := aVv (u2 (xPt dl 10 0 (u2 K 44 (upd (K 44) 5 (Int32.ofNat bl)))) 48 (upd (upd (upd (K 48) dl 0) dl (Int32.ofNat d)) d (Int32.ofNat (dl + 1)))) (i + 1)
def xC11 (bl d dl i : Nat) (K : Nat → Nat → Int32) : Nat → Nat → Int32 := aVv (u2 (u2 K 44 (upd (K 44) 5 (Int32.ofNat bl))) 48 (upd (K 48) d (Int32.ofNat dl))) (i + 1)
section CLS
variable {b : Nat} {F : Nat → Option AE} {D E : Nat → Option KD} {I : Nat → Nat → Int32} {L : Nat → Nat → Int64} {P : Nat → Nat → Option Nat} {nx us : Nat}
theorem X_cl9 {z : ZX} {t : RW} {n la i st pa bl d dl wc T u : Nat} (hLA : LA t n la) (hbl : bl < 6) (h : XDs t n la i st pa (bl + 1) dl wc I L) (hc : isC t n i 93) (h50 : I 50 bl = Int32.ofNat d) (hd : d < dl) (hdl : dl < 360) (h46 : I 46 d = 9) : pA z b T (u + 1) (lay b F E I L P nx us) = pA z b T u (lay b F E (xC9 bl d dl i I) L P nx us) ∧ XDs t n la (i + 1) st pa bl (dl + 1) wc (xC9 bl d dl i I) L := by
  obtain ⟨a1, a2, a3, a4, a5, a6, a7, a8, a9⟩ := h
  have hil := isC_lt hLA a2 hc
  have hsg := X_sign (b := b) (F := F) (E := E) (P := P) (nx := nx) (us := us) a1 a2 a3
  have hsc : sgn t n i = 93 := by unfold sgn; rw [if_pos hc.1]; exact hc.2
  rw [hsc] at hsg
  have hX0 : XDs t n la i st pa bl dl wc (u2 I 44 (upd (I 44) 5 (Int32.ofNat bl))) L := ⟨a1.fr (by simp (decide := true) only [u2_same, u2_ne, u2_u2, upd_same, upd_ne, mE, u2_dyn, dyn_u2, dyn_hi, u2_hi, u2_hj, u2_dynj, u2_dd, u2_d0, u2_0d]) (by simp (decide := true) only [u2_same, u2_ne, u2_u2, upd_same, upd_ne, mE, u2_dyn, dyn_u2, dyn_hi, u2_hi, u2_hj, u2_dynj, u2_dd, u2_d0, u2_0d]) (by simp (decide := true) only [u2_same, u2_ne, u2_u2, upd_same, upd_ne, mE, u2_dyn, dyn_u2, dyn_hi, u2_hi, u2_hj, u2_dynj, u2_dd, u2_d0, u2_0d]) (by simp (decide := true) only [u2_same, u2_ne, u2_u2, upd_same, upd_ne, mE, u2_dyn, dyn_u2, dyn_hi, u2_hi, u2_hj, u2_dynj, u2_dd, u2_d0, u2_0d]), a2, by simp (decide := true) only [u2_same, u2_ne, u2_u2, upd_same, upd_ne, mE, u2_dyn, dyn_u2, dyn_hi, u2_hi, u2_hj, u2_dynj, u2_dd, u2_d0, u2_0d]; exact a3, by simp (decide := true) only [u2_same, u2_ne, u2_u2, upd_same, upd_ne, mE, u2_dyn, dyn_u2, dyn_hi, u2_hi, u2_hj, u2_dynj, u2_dd, u2_d0, u2_0d]; exact a4, by simp (decide := true) only [u2_same, u2_ne, u2_u2, upd_same, upd_ne, mE, u2_dyn, dyn_u2, dyn_hi, u2_hi, u2_hj, u2_dynj, u2_dd, u2_d0, u2_0d]; exact a5, by simp (decide := true) only [u2_same, u2_ne, u2_u2, upd_same, upd_ne, mE, u2_dyn, dyn_u2, dyn_hi, u2_hi, u2_hj, u2_dynj, u2_dd, u2_d0, u2_0d]; exact a6, by simp (decide := true) only [u2_same, u2_ne, u2_u2, upd_same, upd_ne, mE, u2_dyn, dyn_u2, dyn_hi, u2_hi, u2_hj, u2_dynj, u2_dd, u2_d0, u2_0d], by simp (decide := true) only [u2_same, u2_ne, u2_u2, upd_same, upd_ne, mE, u2_dyn, dyn_u2, dyn_hi, u2_hi, u2_hj, u2_dynj, u2_dd, u2_d0, u2_0d]; exact a8, by simp (decide := true) only [u2_same, u2_ne, u2_u2, upd_same, upd_ne, mE, u2_dyn, dyn_u2, dyn_hi, u2_hi, u2_hj, u2_dynj, u2_dd, u2_d0, u2_0d]; exact a9⟩
  have hpt := X_dput (b := b) (F := F) (E := E) (L := L) (P := P) (nx := nx) (us := us) (I := u2 I 44 (upd (I 44) 5 (Int32.ofNat bl))) (dl := dl) (v := 0) 10 (by decide) (Or.inr ⟨0, by decide, rfl⟩) hX0.2.2.2.2.2.2.2.1 hdl
  have hpt' : f_X1_put (ad b 45) 10 0 (lay b F E (u2 I 44 (upd (I 44) 5 (Int32.ofNat bl))) L P nx us) = some (lay b F E (xPt dl 10 0 (u2 I 44 (upd (I 44) 5 (Int32.ofNat bl)))) L P nx us) := hpt
  have hX1 : XDs t n la i st pa bl (dl + 1) wc (xPt dl 10 0 (u2 I 44 (upd (I 44) 5 (Int32.ofNat bl)))) L := hX0.put
  have r48 : xPt dl 10 0 (u2 I 44 (upd (I 44) 5 (Int32.ofNat bl))) 48 = upd (I 48) dl 0 := by rw [xPt_r.2.2.2]; simp (decide := true) only [u2_same, u2_ne, u2_u2, upd_same, upd_ne, mE, u2_dyn, dyn_u2, dyn_hi, u2_hi, u2_hj, u2_dynj, u2_dd, u2_d0, u2_0d]
  have hX2 : XDs t n la i st pa bl (dl + 1) wc (u2 (xPt dl 10 0 (u2 I 44 (upd (I 44) 5 (Int32.ofNat bl)))) 48 (upd (upd (upd (I 48) dl 0) dl (Int32.ofNat d)) d (Int32.ofNat (dl + 1)))) L := by
    obtain ⟨b1, b2', b3, b4, b5, b6, b7, b8, b9⟩ := hX1
    exact ⟨b1.fr (by simp (decide := true) only [u2_same, u2_ne, u2_u2, upd_same, upd_ne, mE, u2_dyn, dyn_u2, dyn_hi, u2_hi, u2_hj, u2_dynj, u2_dd, u2_d0, u2_0d]) (by simp (decide := true) only [u2_same, u2_ne, u2_u2, upd_same, upd_ne, mE, u2_dyn, dyn_u2, dyn_hi, u2_hi, u2_hj, u2_dynj, u2_dd, u2_d0, u2_0d]) (by simp (decide := true) only [u2_same, u2_ne, u2_u2, upd_same, upd_ne, mE, u2_dyn, dyn_u2, dyn_hi, u2_hi, u2_hj, u2_dynj, u2_dd, u2_d0, u2_0d]) (by simp (decide := true) only [u2_same, u2_ne, u2_u2, upd_same, upd_ne, mE, u2_dyn, dyn_u2, dyn_hi, u2_hi, u2_hj, u2_dynj, u2_dd, u2_d0, u2_0d]), b2', by simp (decide := true) only [u2_same, u2_ne, u2_u2, upd_same, upd_ne, mE, u2_dyn, dyn_u2, dyn_hi, u2_hi, u2_hj, u2_dynj, u2_dd, u2_d0, u2_0d]; exact b3, by simp (decide := true) only [u2_same, u2_ne, u2_u2, upd_same, upd_ne, mE, u2_dyn, dyn_u2, dyn_hi, u2_hi, u2_hj, u2_dynj, u2_dd, u2_d0, u2_0d]; exact b4, by simp (decide := true) only [u2_same, u2_ne, u2_u2, upd_same, upd_ne, mE, u2_dyn, dyn_u2, dyn_hi, u2_hi, u2_hj, u2_dynj, u2_dd, u2_d0, u2_0d]; exact b5, by simp (decide := true) only [u2_same, u2_ne, u2_u2, upd_same, upd_ne, mE, u2_dyn, dyn_u2, dyn_hi, u2_hi, u2_hj, u2_dynj, u2_dd, u2_d0, u2_0d]; exact b6, by simp (decide := true) only [u2_same, u2_ne, u2_u2, upd_same, upd_ne, mE, u2_dyn, dyn_u2, dyn_hi, u2_hi, u2_hj, u2_dynj, u2_dd, u2_d0, u2_0d]; exact b7, by simp (decide := true) only [u2_same, u2_ne, u2_u2, upd_same, upd_ne, mE, u2_dyn, dyn_u2, dyn_hi, u2_hi, u2_hj, u2_dynj, u2_dd, u2_d0, u2_0d]; exact b8, by simp (decide := true) only [u2_same, u2_ne, u2_u2, upd_same, upd_ne, mE, u2_dyn, dyn_u2, dyn_hi, u2_hi, u2_hj, u2_dynj, u2_dd, u2_d0, u2_0d]; exact b9⟩
  have hav := X_advV (b := b) (F := F) (E := E) (P := P) (nx := nx) (us := us) hX2.1 hil hX2.2.2.1
  have q4 : xPt dl 10 0 (u2 I 44 (upd (I 44) 5 (Int32.ofNat bl))) 45 4 = Int32.ofNat (dl + 1) := hX1.2.2.2.2.2.2.2.1
  have e1 : (Int32.ofNat (bl + 1) ≤ 0) = False := eq_false (fun q => by have := (oN_le (c := 0) (by omega) (by omega)).mp q; omega)
  have e2 : iN (Int32.ofNat bl) 6 = some bl := iN_oN (by omega) (by omega)
  have e3 := oN_neg (w := d) (by omega)
  have e4 : (Int32.ofNat dl ≤ Int32.ofNat d) = False := oN_leF hd (by omega)
  have e5 : iN (Int32.ofNat d) 360 = some d := iN_oN (by omega) (by omega)
  have e6 : iN (Int32.ofNat dl) 360 = some dl := iN_oN hdl (by omega)
  have e7 : aW 3 (Int32.ofNat d).toInt16.toInt32 = Int32.ofNat d := sh_v d (by omega)
  have e8 : (Int32.ofNat (dl + 1) ≤ Int32.ofNat d) = False := oN_leF (by omega) (by omega)
  have e9 : aW 3 (Int32.ofNat (dl + 1)).toInt16.toInt32 = Int32.ofNat (dl + 1) := sh_v (dl + 1) (by omega)
  refine ⟨?_, hX2.adv hil⟩
  unfold pA
  congr 1
  unfold xC9
  simp (decide := true) only [f_X2_closeBrackets_0, f_X2_closeBrackets_97, f_X1_aim_23, f_X1_aim, a7, e1, hsg, oN_pred, h50, e2, e3, a8, e4, e5, h46, hpt', q4, e6, e7, e8, e9, r48, hav, isO_s, gI_s, gA_s, gL_s, pI_s, pZ_s, pL_s, aI_s, aL_s, aN_s, aQ_s, sI_s, sL_s, cr, LNs, Option.map_some, Option.map_none, Option.bind_some, b2, tr, lt, if_true, if_false, ckZ, X_within, M_in, inR_z, X_refuse, X_tell, X_deny, X_grant, M_refused, M_denied, M_done, M_granted, u2_same, u2_ne, u2_u2, upd_same, upd_ne, aW0, ixR_z, ixR_1, M_isWall, M_isPainter, M_isWork, X_has4, X_has10, X_at, or_false, false_or, or_true, true_or, not_true, not_false_iff, Option.isSome_some, isO_d, gI_d, gA_d, pI_d, ne_eq, not_false_eq_true, u2_hi, u2_hj, u2_dyn, u2_dynj, Nat.reduceAdd, mX_r, mX_rD, mX_rDj, mM_r, mX_u, mX_uM, mX_uD, mX_uDj, mM_u, mM_uX, mM_uD, mM_uDj, u2_dd, u2_d0, u2_0d]
theorem X_cl11 {z : ZX} {t : RW} {n la i st pa bl d dl wc T u : Nat} (hLA : LA t n la) (hbl : bl < 6) (h : XDs t n la i st pa (bl + 1) dl wc I L) (hc : isC t n i 93) (h50 : I 50 bl = Int32.ofNat d) (hd : d < dl) (hdl : dl ≤ 360) (h46 : I 46 d = 11) : pA z b T (u + 1) (lay b F E I L P nx us) = pA z b T u (lay b F E (xC11 bl d dl i I) L P nx us) ∧ XDs t n la (i + 1) st pa bl dl wc (xC11 bl d dl i I) L := by
  obtain ⟨a1, a2, a3, a4, a5, a6, a7, a8, a9⟩ := h
  have hil := isC_lt hLA a2 hc
  have hsg := X_sign (b := b) (F := F) (E := E) (P := P) (nx := nx) (us := us) a1 a2 a3
  have hsc : sgn t n i = 93 := by unfold sgn; rw [if_pos hc.1]; exact hc.2
  rw [hsc] at hsg
  have hX2 : XDs t n la i st pa bl dl wc (u2 (u2 I 44 (upd (I 44) 5 (Int32.ofNat bl))) 48 (upd (I 48) d (Int32.ofNat dl))) L := ⟨a1.fr (by simp (decide := true) only [u2_same, u2_ne, u2_u2, upd_same, upd_ne, mE, u2_dyn, dyn_u2, dyn_hi, u2_hi, u2_hj, u2_dynj, u2_dd, u2_d0, u2_0d]) (by simp (decide := true) only [u2_same, u2_ne, u2_u2, upd_same, upd_ne, mE, u2_dyn, dyn_u2, dyn_hi, u2_hi, u2_hj, u2_dynj, u2_dd, u2_d0, u2_0d]) (by simp (decide := true) only [u2_same, u2_ne, u2_u2, upd_same, upd_ne, mE, u2_dyn, dyn_u2, dyn_hi, u2_hi, u2_hj, u2_dynj, u2_dd, u2_d0, u2_0d]) (by simp (decide := true) only [u2_same, u2_ne, u2_u2, upd_same, upd_ne, mE, u2_dyn, dyn_u2, dyn_hi, u2_hi, u2_hj, u2_dynj, u2_dd, u2_d0, u2_0d]), a2, by simp (decide := true) only [u2_same, u2_ne, u2_u2, upd_same, upd_ne, mE, u2_dyn, dyn_u2, dyn_hi, u2_hi, u2_hj, u2_dynj, u2_dd, u2_d0, u2_0d]; exact a3, by simp (decide := true) only [u2_same, u2_ne, u2_u2, upd_same, upd_ne, mE, u2_dyn, dyn_u2, dyn_hi, u2_hi, u2_hj, u2_dynj, u2_dd, u2_d0, u2_0d]; exact a4, by simp (decide := true) only [u2_same, u2_ne, u2_u2, upd_same, upd_ne, mE, u2_dyn, dyn_u2, dyn_hi, u2_hi, u2_hj, u2_dynj, u2_dd, u2_d0, u2_0d]; exact a5, by simp (decide := true) only [u2_same, u2_ne, u2_u2, upd_same, upd_ne, mE, u2_dyn, dyn_u2, dyn_hi, u2_hi, u2_hj, u2_dynj, u2_dd, u2_d0, u2_0d]; exact a6, by simp (decide := true) only [u2_same, u2_ne, u2_u2, upd_same, upd_ne, mE, u2_dyn, dyn_u2, dyn_hi, u2_hi, u2_hj, u2_dynj, u2_dd, u2_d0, u2_0d], by simp (decide := true) only [u2_same, u2_ne, u2_u2, upd_same, upd_ne, mE, u2_dyn, dyn_u2, dyn_hi, u2_hi, u2_hj, u2_dynj, u2_dd, u2_d0, u2_0d]; exact a8, by simp (decide := true) only [u2_same, u2_ne, u2_u2, upd_same, upd_ne, mE, u2_dyn, dyn_u2, dyn_hi, u2_hi, u2_hj, u2_dynj, u2_dd, u2_d0, u2_0d]; exact a9⟩
  have hav := X_advV (b := b) (F := F) (E := E) (P := P) (nx := nx) (us := us) hX2.1 hil hX2.2.2.1
  have e1 : (Int32.ofNat (bl + 1) ≤ 0) = False := eq_false (fun q => by have := (oN_le (c := 0) (by omega) (by omega)).mp q; omega)
  have e2 : iN (Int32.ofNat bl) 6 = some bl := iN_oN (by omega) (by omega)
  have e3 := oN_neg (w := d) (by omega)
  have e4 : (Int32.ofNat dl ≤ Int32.ofNat d) = False := oN_leF hd (by omega)
  have e5 : iN (Int32.ofNat d) 360 = some d := iN_oN (by omega) (by omega)
  have e9 : aW 3 (Int32.ofNat dl).toInt16.toInt32 = Int32.ofNat dl := sh_v dl (by omega)
  refine ⟨?_, hX2.adv hil⟩
  unfold pA
  congr 1
  unfold xC11
  simp (decide := true) only [f_X2_closeBrackets_0, f_X2_closeBrackets_97, f_X1_aim_23, f_X1_aim, a7, e1, hsg, oN_pred, h50, e2, e3, a8, e4, e5, h46, e9, hav, isO_s, gI_s, gA_s, gL_s, pI_s, pZ_s, pL_s, aI_s, aL_s, aN_s, aQ_s, sI_s, sL_s, cr, LNs, Option.map_some, Option.map_none, Option.bind_some, b2, tr, lt, if_true, if_false, ckZ, X_within, M_in, inR_z, X_refuse, X_tell, X_deny, X_grant, M_refused, M_denied, M_done, M_granted, u2_same, u2_ne, u2_u2, upd_same, upd_ne, aW0, ixR_z, ixR_1, M_isWall, M_isPainter, M_isWork, X_has4, X_has10, X_at, or_false, false_or, or_true, true_or, not_true, not_false_iff, Option.isSome_some, isO_d, gI_d, gA_d, pI_d, ne_eq, not_false_eq_true, u2_hi, u2_hj, u2_dyn, u2_dynj, Nat.reduceAdd, mX_r, mX_rD, mX_rDj, mM_r, mX_u, mX_uM, mX_uD, mX_uDj, mM_u, mM_uX, mM_uD, mM_uDj, u2_dd, u2_d0, u2_0d]
/-- behind a step no bracket closes: the text goes on, or a fault -/
theorem X_aft {z : ZX} {t : RW} {n la i st pa bl dl wc T u : Nat} (hLA : LA t n la) (hbl : bl ≤ 6) (h : XDs t n la i st pa bl dl wc I L) : (isC t n i 59 → pA z b T (u + 1) (lay b F E I L P nx us) = pLp z b (T + 1) (lay b F E (aVv I (i + 1)) L P nx us)) ∧ (0 < bl → ¬ isC t n i 93 → ¬ isC t n i 59 → pA z b T (u + 1) (lay b F E I L P nx us) = some (lay b F E (aF I 1 (pl t n i)) L P nx us)) ∧ (bl = 0 → ¬ isC t n i 59 → kd t n (pl t n i) = 0 → pA z b T (u + 1) (lay b F E I L P nx us) = some (lay b F E I L P nx us)) ∧ (bl = 0 → ¬ isC t n i 59 → kd t n (pl t n i) ≠ 0 → pA z b T (u + 1) (lay b F E I L P nx us) = some (lay b F E (aF I 1 (pl t n i)) L P nx us)) := by
  obtain ⟨a1, a2, a3, a4, a5, a6, a7, a8, a9⟩ := h
  have hsg := X_sign (b := b) (F := F) (E := E) (P := P) (nx := nx) (us := us) a1 a2 a3
  have hkd := X_kind (b := b) (F := F) (E := E) (P := P) (nx := nx) (us := us) a1 a2 a3
  have hfl := X_failF (b := b) (F := F) (E := E) (P := P) (nx := nx) (us := us) 1 a1 a2 a3
  have hle := kd_le (t := t) (n := n) (k := pl t n i)
  have h0 : (Int32.ofNat (kd t n (pl t n i)) = 0) = (kd t n (pl t n i) = 0) := propext (oN_eq (c := 0) (by omega) (by omega))
  have s93 : (sgn t n i = 93) = isC t n i 93 := sgn_c (by decide)
  have s59 : (sgn t n i = 59) = isC t n i 59 := sgn_c (by decide)
  have hcl : (bl = 0 ∨ ¬ isC t n i 93) → f_X2_closeBrackets_0 (u + 1) (ad b 44) (lay b F E I L P nx us) = some (lay b F E I L P nx us) := by
    intro hq
    by_cases hb : bl = 0
    · have e1 : (Int32.ofNat bl ≤ 0) = True := by rw [hb]; exact eq_true (Int32.le_refl _)
      simp (decide := true) only [f_X2_closeBrackets_0, f_X2_closeBrackets_115, a7, e1, isO_s, gI_s, gA_s, gL_s, pI_s, pZ_s, pL_s, aI_s, aL_s, aN_s, aQ_s, sI_s, sL_s, cr, LNs, Option.map_some, Option.map_none, Option.bind_some, b2, tr, lt, if_true, if_false, ckZ, X_within, M_in, inR_z, X_refuse, X_tell, X_deny, X_grant, M_refused, M_denied, M_done, M_granted, u2_same, u2_ne, u2_u2, upd_same, upd_ne, aW0, ixR_z, ixR_1, M_isWall, M_isPainter, M_isWork, X_has4, X_has10, X_at, or_false, false_or, or_true, true_or, not_true, not_false_iff, Option.isSome_some, isO_d, gI_d, gA_d, pI_d, ne_eq, not_false_eq_true, u2_hi, u2_hj, u2_dyn, u2_dynj, Nat.reduceAdd, mX_r, mX_rD, mX_rDj, mM_r, mX_u, mX_uM, mX_uD, mX_uDj, mM_u, mM_uX, mM_uD, mM_uDj, u2_dd, u2_d0, u2_0d]
    · have e1 : (Int32.ofNat bl ≤ 0) = False := eq_false (fun q => by have := (oN_le (c := 0) (by omega) (by omega)).mp q; omega)
      have n93 : isC t n i 93 = False := eq_false (hq.resolve_left hb)
      simp (decide := true) only [f_X2_closeBrackets_0, f_X2_closeBrackets_115, a7, e1, hsg, s93, n93, isO_s, gI_s, gA_s, gL_s, pI_s, pZ_s, pL_s, aI_s, aL_s, aN_s, aQ_s, sI_s, sL_s, cr, LNs, Option.map_some, Option.map_none, Option.bind_some, b2, tr, lt, if_true, if_false, ckZ, X_within, M_in, inR_z, X_refuse, X_tell, X_deny, X_grant, M_refused, M_denied, M_done, M_granted, u2_same, u2_ne, u2_u2, upd_same, upd_ne, aW0, ixR_z, ixR_1, M_isWall, M_isPainter, M_isWork, X_has4, X_has10, X_at, or_false, false_or, or_true, true_or, not_true, not_false_iff, Option.isSome_some, isO_d, gI_d, gA_d, pI_d, ne_eq, not_false_eq_true, u2_hi, u2_hj, u2_dyn, u2_dynj, Nat.reduceAdd, mX_r, mX_rD, mX_rDj, mM_r, mX_u, mX_uM, mX_uD, mX_uDj, mM_u, mM_uX, mM_uD, mM_uDj, u2_dd, u2_d0, u2_0d]
  refine ⟨fun c59 => ?_, fun hb n93 n59 => ?_, fun hb n59 c0 => ?_, fun hb n59 c0 => ?_⟩
  · have hil := isC_lt hLA a2 c59
    have hav := X_advV (b := b) (F := F) (E := E) (P := P) (nx := nx) (us := us) a1 hil a3
    have c59T : isC t n i 59 = True := eq_true c59
    unfold pA
    rw [hcl (Or.inr (fun q => by have := q.2.symm.trans c59.2; exact absurd this (by decide))), Option.bind_some]
    unfold pRs
    simp (decide := true) only [hsg, s59, c59T, hav, isO_s, gI_s, gA_s, gL_s, pI_s, pZ_s, pL_s, aI_s, aL_s, aN_s, aQ_s, sI_s, sL_s, cr, LNs, Option.map_some, Option.map_none, Option.bind_some, b2, tr, lt, if_true, if_false, ckZ, X_within, M_in, inR_z, X_refuse, X_tell, X_deny, X_grant, M_refused, M_denied, M_done, M_granted, u2_same, u2_ne, u2_u2, upd_same, upd_ne, aW0, ixR_z, ixR_1, M_isWall, M_isPainter, M_isWork, X_has4, X_has10, X_at, or_false, false_or, or_true, true_or, not_true, not_false_iff, Option.isSome_some, isO_d, gI_d, gA_d, pI_d, ne_eq, not_false_eq_true, u2_hi, u2_hj, u2_dyn, u2_dynj, Nat.reduceAdd, mX_r, mX_rD, mX_rDj, mM_r, mX_u, mX_uM, mX_uD, mX_uDj, mM_u, mM_uX, mM_uD, mM_uDj, u2_dd, u2_d0, u2_0d]
  · have n59T : isC t n i 59 = False := eq_false n59
    have eb : ((0 : Int32) < Int32.ofNat bl) = True := eq_true ((oN_lt (a := 0) (by omega) (by omega)).mpr hb)
    unfold pA
    rw [hcl (Or.inr n93), Option.bind_some]
    unfold pRs
    simp (decide := true) only [hsg, s59, n59T, a7, eb, f_X2_read_87, f_X2_read_96, hfl, isO_s, gI_s, gA_s, gL_s, pI_s, pZ_s, pL_s, aI_s, aL_s, aN_s, aQ_s, sI_s, sL_s, cr, LNs, Option.map_some, Option.map_none, Option.bind_some, b2, tr, lt, if_true, if_false, ckZ, X_within, M_in, inR_z, X_refuse, X_tell, X_deny, X_grant, M_refused, M_denied, M_done, M_granted, u2_same, u2_ne, u2_u2, upd_same, upd_ne, aW0, ixR_z, ixR_1, M_isWall, M_isPainter, M_isWork, X_has4, X_has10, X_at, or_false, false_or, or_true, true_or, not_true, not_false_iff, Option.isSome_some, isO_d, gI_d, gA_d, pI_d, ne_eq, not_false_eq_true, u2_hi, u2_hj, u2_dyn, u2_dynj, Nat.reduceAdd, mX_r, mX_rD, mX_rDj, mM_r, mX_u, mX_uM, mX_uD, mX_uDj, mM_u, mM_uX, mM_uD, mM_uDj, u2_dd, u2_d0, u2_0d]
  · have n59T : isC t n i 59 = False := eq_false n59
    have eb : ((0 : Int32) < Int32.ofNat bl) = False := by rw [hb]; decide
    unfold pA
    rw [hcl (Or.inl hb), Option.bind_some]
    unfold pRs
    simp (decide := true) only [hsg, s59, n59T, a7, eb, hkd, h0, c0, f_X2_read_96, isO_s, gI_s, gA_s, gL_s, pI_s, pZ_s, pL_s, aI_s, aL_s, aN_s, aQ_s, sI_s, sL_s, cr, LNs, Option.map_some, Option.map_none, Option.bind_some, b2, tr, lt, if_true, if_false, ckZ, X_within, M_in, inR_z, X_refuse, X_tell, X_deny, X_grant, M_refused, M_denied, M_done, M_granted, u2_same, u2_ne, u2_u2, upd_same, upd_ne, aW0, ixR_z, ixR_1, M_isWall, M_isPainter, M_isWork, X_has4, X_has10, X_at, or_false, false_or, or_true, true_or, not_true, not_false_iff, Option.isSome_some, isO_d, gI_d, gA_d, pI_d, ne_eq, not_false_eq_true, u2_hi, u2_hj, u2_dyn, u2_dynj, Nat.reduceAdd, mX_r, mX_rD, mX_rDj, mM_r, mX_u, mX_uM, mX_uD, mX_uDj, mM_u, mM_uX, mM_uD, mM_uDj, u2_dd, u2_d0, u2_0d]
  · have n59T : isC t n i 59 = False := eq_false n59
    have eb : ((0 : Int32) < Int32.ofNat bl) = False := by rw [hb]; decide
    unfold pA
    rw [hcl (Or.inl hb), Option.bind_some]
    unfold pRs
    simp (decide := true) only [hsg, s59, n59T, a7, eb, hkd, h0, c0, f_X2_read_87, f_X2_read_96, hfl, isO_s, gI_s, gA_s, gL_s, pI_s, pZ_s, pL_s, aI_s, aL_s, aN_s, aQ_s, sI_s, sL_s, cr, LNs, Option.map_some, Option.map_none, Option.bind_some, b2, tr, lt, if_true, if_false, ckZ, X_within, M_in, inR_z, X_refuse, X_tell, X_deny, X_grant, M_refused, M_denied, M_done, M_granted, u2_same, u2_ne, u2_u2, upd_same, upd_ne, aW0, ixR_z, ixR_1, M_isWall, M_isPainter, M_isWork, X_has4, X_has10, X_at, or_false, false_or, or_true, true_or, not_true, not_false_iff, Option.isSome_some, isO_d, gI_d, gA_d, pI_d, ne_eq, not_false_eq_true, u2_hi, u2_hj, u2_dyn, u2_dynj, Nat.reduceAdd, mX_r, mX_rD, mX_rDj, mM_r, mX_u, mX_uM, mX_uD, mX_uDj, mM_u, mM_uX, mM_uD, mM_uDj, u2_dd, u2_d0, u2_0d]
end CLS
