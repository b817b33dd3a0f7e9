/-! ===== drawing: the class reads a step, from its head on ===== -/
theorem dS_e {t : RW} {n : Nat} : ∀ (f i bl : Nat) (D : DSt) (i1 : Nat) (D1 : DSt), dS t n f 0 i bl D = .inr (i1, D1) → ¬ isC t n i1 59 := by
  intro f
  induction f with
  | zero => intro i bl D i1 D1 h; cases h
  | succ f ih =>
    intro i bl D i1 D1 h
    obtain ⟨i2, D2, h1, h2⟩ := dt_inr h
    split at h2
    · exact ih _ _ _ _ _ h2
    · rename_i hc
      cases h2
      exact hc
theorem skV_c {t : RW} {n i : Nat} : skV t n i = -1 ∨ skV t n i = 6 ∨ skV t n i = 7 ∨ skV t n i = 8 ∨ skV t n i = 9 ∨ skV t n i = 11 := by
  unfold skV
  by_cases h1 : isW t n i 1
  · rw [if_pos h1]; exact Or.inr (Or.inl rfl)
  · rw [if_neg h1]
    by_cases h2 : isW t n i 2
    · rw [if_pos h2]; exact Or.inr (Or.inr (Or.inl rfl))
    · rw [if_neg h2]
      by_cases h3 : isW t n i 3
      · rw [if_pos h3]; exact Or.inr (Or.inr (Or.inr (Or.inl rfl)))
      · rw [if_neg h3]
        by_cases h4 : isW t n i 4
        · rw [if_pos h4]; exact Or.inr (Or.inr (Or.inr (Or.inr (Or.inl rfl))))
        · rw [if_neg h4]
          by_cases h5 : isW t n i 5
          · rw [if_pos h5]; exact Or.inr (Or.inr (Or.inr (Or.inr (Or.inr rfl))))
          · rw [if_neg h5]; exact Or.inl rfl
theorem dEnd_r {D : DSt} {s j : Nat} (h : j ≠ 5) : (dEnd D s).2.2.2.1 j = D.2.2.2.1 j := show u2 D.2.2.2.1 5 (upd (D.2.2.2.1 5) s (Int32.ofNat D.1)) j = _ from u2_ne h
theorem dEnd_5 {D : DSt} {s : Nat} : (dEnd D s).2.2.2.1 5 s = Int32.ofNat D.1 := by
  show u2 D.2.2.2.1 5 (upd (D.2.2.2.1 5) s (Int32.ofNat D.1)) 5 s = _
  rw [u2_same, upd_same]
theorem dEnd_5n {D : DSt} {s x : Nat} (h : x ≠ s) : (dEnd D s).2.2.2.1 5 x = D.2.2.2.1 5 x := by
  show u2 D.2.2.2.1 5 (upd (D.2.2.2.1 5) s (Int32.ofNat D.1)) 5 x = _
  rw [u2_same, upd_ne h]
/-- a bracket closed: what stays and what is set -/
def ClS (w d dl dl' : Nat) (K J : Nat → Nat → Int32) : Prop := (∀ j, j < dl → J 46 j = K 46 j ∧ J 47 j = K 47 j) ∧ (∀ j, j < dl → j ≠ d → J 48 j = K 48 j) ∧ J 48 d = Int32.ofNat dl' ∧ ((w = 9 ∧ J 46 dl = 10 ∧ J 48 dl = Int32.ofNat d ∧ dl' = dl + 1) ∨ (w = 11 ∧ dl' = dl))
theorem xC9_C {bl d dl i : Nat} {K : Nat → Nat → Int32} (h900 : dl < 900) (hd : d < dl) : ClS 9 d dl (dl + 1) K (xC9 bl d dl i K) ∧ ∀ (wc : Nat) (M : Nat → Nat → Int64) (o : Nat), o ≤ d → FXd bl wc o K (xC9 bl d dl i K) M M := by
  have e46 : xC9 bl d dl i K 46 = upd (K 46) dl 10 := by unfold xC9; rw [aVv_ne (by decide), u2_ne (by decide), xPt_r.2.1, u2_ne (by decide)]
  have e47 : xC9 bl d dl i K 47 = upd (K 47) dl 0 := by unfold xC9; rw [aVv_ne (by decide), u2_ne (by decide), xPt_r.2.2.1, u2_ne (by decide)]
  have e48 : xC9 bl d dl i K 48 = upd (upd (upd (K 48) dl 0) dl (Int32.ofNat d)) d (Int32.ofNat (dl + 1)) := by unfold xC9; rw [aVv_ne (by decide), u2_same]
  have e : ∀ c, c ≠ 40 → c ≠ 44 → c ≠ 45 → c ≠ 46 → c ≠ 47 → c ≠ 48 → xC9 bl d dl i K c = K c := fun c c1 c2 c3 c4 c5 c6 => by unfold xC9; rw [aVv_ne c1, u2_ne c6, xPt_ne c3 c4 c5 c6, u2_ne c2]
  have e40 : xC9 bl d dl i K 40 3 = K 40 3 := by unfold xC9; rw [aVv_40 (by decide), u2_ne (by decide), xPt_ne (by decide) (by decide) (by decide) (by decide), u2_ne (by decide)]
  refine ⟨⟨fun j hj => ?_, fun j hj hjd => ?_, ?_, Or.inl ⟨rfl, ?_, ?_, rfl⟩⟩, fun wc M o ho => ⟨fun c c1 c2 c3 c4 c5 c6 _ _ => e c c1 c2 c3 c4 c5 c6, e40, fun j hj => ?_, fun j _ => by rw [e 50 (by decide) (by decide) (by decide) (by decide) (by decide) (by decide)], fun _ _ => rfl, fun _ _ => rfl, TYp.wr (by rw [e46]; exact upd_or (by decide)) (by rw [e47]; exact upd_or (by decide)) (fun k => ?_)⟩⟩
  · rw [e46, e47, upd_ne (by omega), upd_ne (by omega)]; exact ⟨rfl, rfl⟩
  · rw [e48, upd_ne hjd, upd_ne (by omega), upd_ne (by omega)]
  · rw [e48, upd_same]
  · rw [e46, upd_same]
  · rw [e48, upd_ne (by omega), upd_same]
  · rw [e46, e47, e48, upd_ne (by omega), upd_ne (by omega), upd_ne (by omega), upd_ne (by omega), upd_ne (by omega)]; exact ⟨rfl, rfl, rfl⟩
  · rw [e48]
    by_cases k1 : k = d
    · subst k1; rw [upd_same]; exact Or.inr (fs_v (dl + 1) (by omega))
    · rw [upd_ne k1]
      by_cases k2 : k = dl
      · subst k2; rw [upd_same]; exact Or.inr (fs_v d (by omega))
      · rw [upd_ne k2, upd_ne k2]; exact Or.inl rfl
theorem xC11_C {bl d dl i : Nat} {K : Nat → Nat → Int32} (h900 : dl < 900) (hd : d < dl) : ClS 11 d dl dl K (xC11 bl d dl i K) ∧ ∀ (wc : Nat) (M : Nat → Nat → Int64) (o : Nat), o ≤ d → FXd bl wc o K (xC11 bl d dl i K) M M := by
  have e48 : xC11 bl d dl i K 48 = upd (K 48) d (Int32.ofNat dl) := by unfold xC11; rw [aVv_ne (by decide), u2_same]
  have e : ∀ c, c ≠ 40 → c ≠ 44 → c ≠ 48 → xC11 bl d dl i K c = K c := fun c c1 c2 c6 => by unfold xC11; rw [aVv_ne c1, u2_ne c6, u2_ne c2]
  have e40 : xC11 bl d dl i K 40 3 = K 40 3 := by unfold xC11; rw [aVv_40 (by decide), u2_ne (by decide), u2_ne (by decide)]
  refine ⟨⟨fun j hj => ?_, fun j hj hjd => ?_, ?_, Or.inr ⟨rfl, rfl⟩⟩, fun wc M o ho => ⟨fun c c1 c2 c3 c4 c5 c6 _ _ => e c c1 c2 c6, e40, fun j hj => ?_, fun j _ => by rw [e 50 (by decide) (by decide) (by decide)], fun _ _ => rfl, fun _ _ => rfl, TYp.wr (fun k => Or.inl (by rw [e 46 (by decide) (by decide) (by decide)])) (fun k => Or.inl (by rw [e 47 (by decide) (by decide) (by decide)])) (by rw [e48]; exact upd_or (fs_v dl (by omega)))⟩⟩
  · rw [e 46 (by decide) (by decide) (by decide), e 47 (by decide) (by decide) (by decide)]; exact ⟨rfl, rfl⟩
  · rw [e48, upd_ne hjd]
  · rw [e48, upd_same]
  · rw [e 46 (by decide) (by decide) (by decide), e 47 (by decide) (by decide) (by decide), e48, upd_ne (by omega)]; exact ⟨rfl, rfl, rfl⟩
theorem xOpn_R {bl d i : Nat} {w v : Int32} {K : Nat → Nat → Int32} (hw : fits (aT 1) (.int w) = true) (hv : VL v) : xOpn bl d i w v K 46 = upd (K 46) d w ∧ xOpn bl d i w v K 47 = upd (K 47) d v ∧ xOpn bl d i w v K 50 bl = Int32.ofNat d ∧ ∀ (wc : Nat) (M : Nat → Nat → Int64) (o : Nat), o ≤ d → FXd bl wc o K (xOpn bl d i w v K) M M := by
  have e46 : xOpn bl d i w v K 46 = upd (K 46) d w := by unfold xOpn; rw [aVv_ne (by decide), xPt_r.2.1, u2_ne (by decide), u2_ne (by decide)]
  have e47 : xOpn bl d i w v K 47 = upd (K 47) d v := by unfold xOpn; rw [aVv_ne (by decide), xPt_r.2.2.1, u2_ne (by decide), u2_ne (by decide)]
  have e48 : xOpn bl d i w v K 48 = upd (K 48) d 0 := by unfold xOpn; rw [aVv_ne (by decide), xPt_r.2.2.2, u2_ne (by decide), u2_ne (by decide)]
  have e50 : xOpn bl d i w v K 50 = upd (K 50) bl (Int32.ofNat d) := by unfold xOpn; rw [aVv_ne (by decide), xPt_ne (by decide) (by decide) (by decide) (by decide), u2_ne (by decide), u2_same]
  have e : ∀ c, c ≠ 40 → c ≠ 44 → c ≠ 45 → c ≠ 46 → c ≠ 47 → c ≠ 48 → c ≠ 50 → xOpn bl d i w v K c = K c := fun c c1 c2 c3 c4 c5 c6 c7 => by unfold xOpn; rw [aVv_ne c1, xPt_ne c3 c4 c5 c6, u2_ne c2, u2_ne c7]
  have e40 : xOpn bl d i w v K 40 3 = K 40 3 := by unfold xOpn; rw [aVv_40 (by decide), xPt_ne (by decide) (by decide) (by decide) (by decide), u2_ne (by decide), u2_ne (by decide)]
  refine ⟨e46, e47, by rw [e50, upd_same], fun wc M o ho => ⟨fun c c1 c2 c3 c4 c5 c6 c7 _ => e c c1 c2 c3 c4 c5 c6 c7, e40, fun j hj => ?_, fun j hj => by rw [e50, upd_ne (by omega)], fun _ _ => rfl, fun _ _ => rfl, TYp.wr (by rw [e46]; exact upd_or hw) (by rw [e47]; exact upd_or (VL_f hv)) (by rw [e48]; exact upd_or (by decide))⟩⟩
  rw [e46, e47, e48, upd_ne (by omega), upd_ne (by omega), upd_ne (by omega)]; exact ⟨rfl, rfl, rfl⟩
section STX
variable {b : Nat} {F : Nat → Option AE} {D E : Nat → Option KD} {I : Nat → Nat → Int32} {L : Nat → Nat → Int64} {P : Nat → Nat → Option Nat} {nx us : Nat}
theorem X_f0 {z : ZX} {T : Nat} {H : AH} (hT : T ≤ 40) (hr : f_X2_readStep (ad b 44) (lay b F E I L P nx us) = some (0, H)) : pLp z b T (lay b F E I L P nx us) = some H := by
  rw [pLp_s z b T _ hT]
  simp (decide := true) only [hr, isO_s, gI_s, gA_s, gL_s, pI_s, pZ_s, pL_s, aI_s, aL_s, aN_s, aQ_s, sI_s, sL_s, cr, LNs, Option.map_some, Option.map_none, Option.bind_some, b2, tr, lt, if_true, if_false, ckZ, X_within, M_in, inR_z, X_refuse, X_tell, X_deny, X_grant, M_refused, M_denied, M_done, M_granted, u2_same, u2_ne, u2_u2, upd_same, upd_ne, aW0, ixR_z, ixR_1, M_isWall, M_isPainter, M_isWork, X_has4, X_has10, X_at, or_false, false_or, or_true, true_or, not_true, not_false_iff, Option.isSome_some, isO_d, gI_d, gA_d, pI_d, ne_eq, not_false_eq_true, u2_hi, u2_hj, u2_dyn, u2_dynj, Nat.reduceAdd, mX_r, mX_rD, mX_rDj, mM_r, mX_u, mX_uM, mX_uD, mX_uDj, mM_u, mM_uX, mM_uD, mM_uDj, u2_dd, u2_d0, u2_0d]
theorem X_s1 {z : ZX} {T bl : Nat} {K : Nat → Nat → Int32} {M : Nat → Nat → Int64} (hT : T ≤ 40) (h5 : I 44 5 = Int32.ofNat bl) (hk : K 44 5 = Int32.ofNat bl) (hr : f_X2_readStep (ad b 44) (lay b F E I L P nx us) = some (1, lay b F E K M P nx us)) : pLp z b T (lay b F E I L P nx us) = pA z b T FU (lay b F E K M P nx us) := by
  rw [pLp_s z b T _ hT]
  have e10 : ((1 : Int32) = 0) = False := by decide
  have e : (Int32.ofNat bl ≤ Int32.ofNat bl) = True := eq_true (Int32.le_refl _)
  unfold pA f_X2_closeBrackets
  simp (decide := true) only [hr, h5, hk, e10, e, isO_s, gI_s, gA_s, gL_s, pI_s, pZ_s, pL_s, aI_s, aL_s, aN_s, aQ_s, sI_s, sL_s, cr, LNs, Option.map_some, Option.map_none, Option.bind_some, b2, tr, lt, if_true, if_false, ckZ, X_within, M_in, inR_z, X_refuse, X_tell, X_deny, X_grant, M_refused, M_denied, M_done, M_granted, u2_same, u2_ne, u2_u2, upd_same, upd_ne, aW0, ixR_z, ixR_1, M_isWall, M_isPainter, M_isWork, X_has4, X_has10, X_at, or_false, false_or, or_true, true_or, not_true, not_false_iff, Option.isSome_some, isO_d, gI_d, gA_d, pI_d, ne_eq, not_false_eq_true, u2_hi, u2_hj, u2_dyn, u2_dynj, Nat.reduceAdd, mX_r, mX_rD, mX_rDj, mM_r, mX_u, mX_uM, mX_uD, mX_uDj, mM_u, mM_uX, mM_uD, mM_uDj, u2_dd, u2_d0, u2_0d]
theorem X_o1 {z : ZX} {T bl : Nat} {K : Nat → Nat → Int32} {M : Nat → Nat → Int64} (hT : T ≤ 40) (hb : bl ≤ 6) (h5 : I 44 5 = Int32.ofNat bl) (hk : K 44 5 = Int32.ofNat (bl + 1)) (hr : f_X2_readStep (ad b 44) (lay b F E I L P nx us) = some (1, lay b F E K M P nx us)) : pLp z b T (lay b F E I L P nx us) = pLp z b (T + 1) (lay b F E K M P nx us) := by
  rw [pLp_s z b T _ hT]
  have e10 : ((1 : Int32) = 0) = False := by decide
  have e : (Int32.ofNat (bl + 1) ≤ Int32.ofNat bl) = False := oN_leF (by omega) (by omega)
  simp (decide := true) only [hr, h5, hk, e10, e, isO_s, gI_s, gA_s, gL_s, pI_s, pZ_s, pL_s, aI_s, aL_s, aN_s, aQ_s, sI_s, sL_s, cr, LNs, Option.map_some, Option.map_none, Option.bind_some, b2, tr, lt, if_true, if_false, ckZ, X_within, M_in, inR_z, X_refuse, X_tell, X_deny, X_grant, M_refused, M_denied, M_done, M_granted, u2_same, u2_ne, u2_u2, upd_same, upd_ne, aW0, ixR_z, ixR_1, M_isWall, M_isPainter, M_isWork, X_has4, X_has10, X_at, or_false, false_or, or_true, true_or, not_true, not_false_iff, Option.isSome_some, isO_d, gI_d, gA_d, pI_d, ne_eq, not_false_eq_true, u2_hi, u2_hj, u2_dyn, u2_dynj, Nat.reduceAdd, mX_r, mX_rD, mX_rDj, mM_r, mX_u, mX_uM, mX_uD, mX_uDj, mM_u, mM_uX, mM_uD, mM_uDj, u2_dd, u2_d0, u2_0d]
/-- a step with no body ends -/
theorem X_smp {z : ZX} {t : RW} {n la i1 bl d dl wc wc1 : Nat} {D D1 : DSt} {K : Nat → Nat → Int32} {M : Nat → Nat → Int64} (hT : D.1 < 40) (h5 : I 44 5 = Int32.ofNat bl) (hbl : bl ≤ 6) (hr : f_X2_readStep (ad b 44) (lay b F E I L P nx us) = some (1, lay b F E K M P nx us)) (hD1 : D1.1 = D.1 + 1) (hX : XDs t n la i1 D1.1 D1.2.1 bl (d + 1) wc1 K M) (hf : FXd bl wc dl I K L M) (hdl : dl < d) (hcap : d + 1 + bl ≤ 3 * D1.1 + D1.2.2.1) (hwc : wc ≤ wc1) (hwc1 : wc1 ≤ D1.1) (hFR : FRT D D1) (h0 : K 46 dl = 0)
    (hS : (∃ w N, ((w = 6 ∧ N = 4 ∧ D1.2.2.2.1 1 D.1 = 0) ∨ (w = 7 ∧ N = 3 ∧ D1.2.2.2.1 1 D.1 = 1)) ∧ SumsAt D1.2.2.2.1 (K 46) (K 47) D1.2.2.1 D.1 N 0 (dl + 1) d ∧ K 46 d = Int32.ofNat w ∧ TN (K 47 d) (D1.2.2.2.1 2 D.1)) ∨ (∃ k, D1.2.2.2.1 1 D.1 = 2 ∧ SumsAt D1.2.2.2.1 (K 46) (K 47) D1.2.2.1 D.1 2 0 (dl + 1) d ∧ K 46 d = 8 ∧ TN (K 47 d) (D1.2.2.2.1 2 D.1) ∧ k < wc1 ∧ K 48 d = Int32.ofNat k ∧ M 49 k = D1.2.2.2.2 D.1 ∧ LWd D1.2.2.2.1 D1.2.2.2.2 D.1)) : XTo b F E P nx us z t n la bl wc dl 1 D I L (pLp z b D.1 (lay b F E I L P nx us)) (.inr (i1, dEnd D1 D.1)) := by
  have hrun := X_s1 (z := z) (T := D.1) (by omega) h5 hX.2.2.2.2.2.2.1 hr
  have e1 : (dEnd D1 D.1).1 - 1 = D.1 := by show D1.1 - 1 = D.1; omega
  obtain ⟨u, hu⟩ : ∃ u, FU = u + 1 ∧ 6 ≤ u := ⟨FU - 1, by unfold FU; omega⟩
  refine ⟨K, M, u, d + 1, wc1, ?_, by omega, hX, hf, by omega, hwc, hcap, hwc1, FRT_end hFR (Nat.le_refl _), fun _ g _ => ⟨h0, ?_, ?_⟩, fun q => by omega⟩
  · rw [hrun, e1, hu.1]
  · exact dEnd_5
  · have sm : ∀ N, SumsAt D1.2.2.2.1 (K 46) (K 47) D1.2.2.1 D.1 N 0 (dl + 1) d → SumsAt (dEnd D1 D.1).2.2.2.1 (K 46) (K 47) D1.2.2.1 D.1 N 0 (dl + 1) d := fun N hS => SumsAt_fr (Nat.le_refl _) (fun x _ => by rw [dEnd_r (by decide), dEnd_r (by decide)]; exact ⟨rfl, rfl⟩) N 0 (dl + 1) d (fun x _ _ => by rw [dEnd_r (by decide), dEnd_r (by decide)]; exact ⟨rfl, rfl⟩) (fun _ _ _ => ⟨rfl, rfl⟩) hS
    have e2 : (dEnd D1 D.1).2.2.2.1 2 D.1 = D1.2.2.2.1 2 D.1 := congrFun (dEnd_r (D := D1) (s := D.1) (j := 2) (by decide)) D.1
    rcases hS with ⟨w, N, q1, q2, q3, q4⟩ | ⟨k, q1, q2, q3, q4, q5, q6, q7, q8⟩
    · refine Or.inl ⟨w, N, d, ?_, sm N q2, q3, ?_, rfl, hD1⟩
      · have e : (bRw (dEnd D1 D.1) K M).1 1 D.1 = D1.2.2.2.1 1 D.1 := congrFun (dEnd_r (D := D1) (s := D.1) (j := 1) (by decide)) D.1
        rw [e]
        exact q1
      · show TN (K 47 d) ((dEnd D1 D.1).2.2.2.1 2 D.1)
        rw [e2]
        exact q4
    · refine Or.inr (Or.inl ⟨d, k, (congrFun (dEnd_r (D := D1) (s := D.1) (j := 1) (by decide)) _).trans q1, sm 2 q2, q3, (by show TN (K 47 d) ((dEnd D1 D.1).2.2.2.1 2 D.1); rw [e2]; exact q4), q5, q6, q7, ?_, rfl, hD1⟩)
      obtain ⟨k', v', l1, l2⟩ := q8
      exact ⟨k', v', (congrFun (dEnd_r (D := D1) (s := D.1) (j := 6) (by decide)) _).trans l1, l2⟩
end STX
