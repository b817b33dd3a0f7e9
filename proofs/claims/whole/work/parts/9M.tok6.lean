/-! ===== tokens: what both readers ask ===== -/
theorem kd_le {t : RW} {n k : Nat} : kd t n k ≤ 4 := by
  unfold kd
  repeat' split
  all_goals omega
theorem kd_3 {t : RW} {n k : Nat} (h : kd t n k = 3) : vl t n k = (nvR t (n - k) k 0).toInt64 := by
  unfold kd at h
  unfold vl
  split at h
  · omega
  · split at h
    · split at h <;> omega
    · rename_i h1
      rw [if_neg h1]
      split at h
      · rename_i h2
        rw [if_pos h2]
      · split at h <;> omega
theorem kd_4 {t : RW} {n k : Nat} (h : kd t n k = 4) : vl t n k = (t k).toInt64 ∧ gB (t k) = true := by
  unfold kd at h
  unfold vl
  split at h
  · omega
  · split at h
    · split at h <;> omega
    · rename_i h1
      rw [if_neg h1]
      split at h
      · split at h <;> omega
      · rename_i h2
        rw [if_neg h2]
        split at h
        · rename_i h3
          exact ⟨rfl, h3⟩
        · omega
theorem i6432 (x : Int32) : x.toInt64.toInt32 = x := by simp
theorem cmp_eq (x y : Int64) : (lg_cmp x y = 0) ↔ x = y := by
  unfold lg_cmp
  by_cases h1 : x > y
  · rw [if_pos h1]
    refine ⟨fun q => absurd q (by decide), fun q => ?_⟩
    subst q
    exact absurd h1 Int64.lt_irrefl
  · rw [if_neg h1]
    by_cases h2 : x = y
    · rw [if_pos h2]
      exact ⟨fun _ => h2, fun _ => rfl⟩
    · rw [if_neg h2]
      exact ⟨fun q => absurd q (by decide), fun q => absurd q h2⟩
/-- does the i-th token say the k-th text -/
abbrev isW (t : RW) (n i k : Nat) : Prop := kd t n (pl t n i) = 2 ∧ vl t n (pl t n i) = zw k
/-- is the i-th token the sign c -/
abbrev isC (t : RW) (n i : Nat) (c : Int32) : Prop := kd t n (pl t n i) = 4 ∧ t (pl t n i) = c
def sgn (t : RW) (n i : Nat) : Int32 := if kd t n (pl t n i) = 4 then t (pl t n i) else 0
theorem sgn_c {t : RW} {n i : Nat} {c : Int32} (hc : c ≠ 0) : (sgn t n i = c) = isC t n i c := by
  unfold sgn isC
  by_cases h : kd t n (pl t n i) = 4
  · rw [if_pos h]
    exact propext ⟨fun q => ⟨h, q⟩, fun q => q.2⟩
  · rw [if_neg h]
    exact propext ⟨fun q => absurd q.symm hc, fun q => absurd q.1 h⟩
/-- a byte that only the text of a right knows -/
def cm (t : RW) (n i : Nat) (rg : Int32) : Prop := kd t n (pl t n i) = 4 ∧ rg = 0 ∧ (t (pl t n i) = 44 ∨ t (pl t n i) = 37)
section TOK6
variable {b : Nat} {F : Nat → Option AE} {D E : Nat → Option KD} {I : Nat → Nat → Int32} {L : Nat → Nat → Int64} {P : Nat → Nat → Option Nat} {nx us : Nat}
theorem X_kind {n la i : Nat} {t : RW} (h : TX t n la I L) (hi : i ≤ la) (h4 : I 40 4 = Int32.ofNat i) : f_X7_kind (ad b 40) (lay b F E I L P nx us) = some (Int32.ofNat (kd t n (pl t n i)), (lay b F E I L P nx us)) := by
  obtain ⟨h1, h2, h3, -⟩ := h
  obtain ⟨a1, a2, a3⟩ := h3 i hi
  have e1 := oN_neg (w := i) (by omega)
  have e3 : ((Int32.ofNat 401 : Int32) ≤ Int32.ofNat i) = False := oN_leF (c := 401) (by omega) (by omega)
  have e4 : iN (Int32.ofNat i) 401 = some i := iN_oN (by omega) (by omega)
  simp (decide := true) only [f_X7_kind_32, f_X7_kind_31, f_X7_kind, h4, e1, e3, e4, a1, isO_s, gI_s, gA_s, gL_s, pI_s, pZ_s, pL_s, aI_s, aL_s, aN_s, aQ_s, sI_s, sL_s, cr, LNs, Option.map_some, Option.map_none, Option.bind_some, b2, tr, lt, if_true, if_false, ckZ, X_within, M_in, inR_z, X_refuse, X_tell, X_deny, X_grant, M_refused, M_denied, M_done, M_granted, u2_same, u2_ne, u2_u2, upd_same, upd_ne, aW0, ixR_z, ixR_1, M_isWall, M_isPainter, M_isWork, X_has4, X_has10, X_at, or_false, false_or, or_true, true_or, not_true, not_false_iff, Option.isSome_some, isO_d, gI_d, gA_d, pI_d, ne_eq, not_false_eq_true, u2_hi, u2_hj, u2_dyn, u2_dynj, Nat.reduceAdd, mX_r, mX_rD, mX_rDj, mM_r, mX_u, mX_uM, mX_uD, mX_uDj, mM_u, mM_uX, mM_uD, mM_uDj, u2_dd, u2_d0, u2_0d]
theorem X_value {n la i : Nat} {t : RW} (h : TX t n la I L) (hi : i ≤ la) (h4 : I 40 4 = Int32.ofNat i) : f_X7_value (ad b 40) (lay b F E I L P nx us) = some (L 43 i, (lay b F E I L P nx us)) := by
  obtain ⟨h1, h2, h3, -⟩ := h
  have e1 := oN_neg (w := i) (by omega)
  have e3 : ((Int32.ofNat 401 : Int32) ≤ Int32.ofNat i) = False := oN_leF (c := 401) (by omega) (by omega)
  have e4 : iN (Int32.ofNat i) 401 = some i := iN_oN (by omega) (by omega)
  simp (decide := true) only [f_X7_value_32, f_X7_value_31, f_X7_value, h4, e1, e3, e4, isO_s, gI_s, gA_s, gL_s, pI_s, pZ_s, pL_s, aI_s, aL_s, aN_s, aQ_s, sI_s, sL_s, cr, LNs, Option.map_some, Option.map_none, Option.bind_some, b2, tr, lt, if_true, if_false, ckZ, X_within, M_in, inR_z, X_refuse, X_tell, X_deny, X_grant, M_refused, M_denied, M_done, M_granted, u2_same, u2_ne, u2_u2, upd_same, upd_ne, aW0, ixR_z, ixR_1, M_isWall, M_isPainter, M_isWork, X_has4, X_has10, X_at, or_false, false_or, or_true, true_or, not_true, not_false_iff, Option.isSome_some, isO_d, gI_d, gA_d, pI_d, ne_eq, not_false_eq_true, u2_hi, u2_hj, u2_dyn, u2_dynj, Nat.reduceAdd, mX_r, mX_rD, mX_rDj, mM_r, mX_u, mX_uM, mX_uD, mX_uDj, mM_u, mM_uX, mM_uD, mM_uDj, u2_dd, u2_d0, u2_0d]
theorem X_is {z : ZX} {n la i k : Nat} {t : RW} (hz : GZ b F z) (hk : k < 30) (h : TX t n la I L) (hi : i ≤ la) (h4 : I 40 4 = Int32.ofNat i) : f_X7_is z (ad b 40) (z.1 k) (lay b F E I L P nx us) = some (if isW t n i k then 1 else 0, (lay b F E I L P nx us)) := by
  have hkd := X_kind (b := b) (F := F) (E := E) (P := P) (nx := nx) (us := us) h hi h4
  have hsb := hz k hk
  have hn : (zt k).length ≤ 100 := by obtain ⟨-, v, f, g, -, -, -, -, -, h7, -⟩ := hsb; exact h7
  have h15 := X_is15 (b := b) (F := F) (E := E) (I := I) (L := L) (P := P) (nx := nx) (us := us) (z := z) (at0 := i) hsb hn (by have := h.1; omega) h4 (zt k).length 0 (by omega) FU 0 (by unfold FU; omega)
  rw [show Int32.ofNat 0 = 0 from rfl] at h15
  have hle := kd_le (t := t) (n := n) (k := pl t n i)
  have h2 : (Int32.ofNat (kd t n (pl t n i)) = 2) = (kd t n (pl t n i) = 2) := propext (oN_eq (c := 2) (by omega) (by omega))
  by_cases hc : kd t n (pl t n i) = 2
  · have hv := (h.2.2.1 i hi).2.2 (by omega)
    have : (if isW t n i k then (1 : Int32) else 0) = if lg_cmp (wdF (fun i => (zt k).getD i 0) (zt k).length 0 0) (L 43 i) = 0 then 1 else 0 := by
      rw [hv]
      show _ = if lg_cmp (zw k) (vl t n (pl t n i)) = 0 then (1 : Int32) else 0
      by_cases hw : vl t n (pl t n i) = zw k
      · rw [if_pos (show isW t n i k from ⟨hc, hw⟩), if_pos ((cmp_eq _ _).mpr hw.symm)]
      · rw [if_neg (show ¬ isW t n i k from fun q => hw q.2), if_neg (fun q => hw ((cmp_eq _ _).mp q).symm)]
    rw [this, ← h15]
    simp (decide := true) only [f_X7_is, hkd, h2, hc, isO_s, gI_s, gA_s, gL_s, pI_s, pZ_s, pL_s, aI_s, aL_s, aN_s, aQ_s, sI_s, sL_s, cr, LNs, Option.map_some, Option.map_none, Option.bind_some, b2, tr, lt, if_true, if_false, ckZ, X_within, M_in, inR_z, X_refuse, X_tell, X_deny, X_grant, M_refused, M_denied, M_done, M_granted, u2_same, u2_ne, u2_u2, upd_same, upd_ne, aW0, ixR_z, ixR_1, M_isWall, M_isPainter, M_isWork, X_has4, X_has10, X_at, or_false, false_or, or_true, true_or, not_true, not_false_iff, Option.isSome_some, isO_d, gI_d, gA_d, pI_d, ne_eq, not_false_eq_true, u2_hi, u2_hj, u2_dyn, u2_dynj, Nat.reduceAdd, mX_r, mX_rD, mX_rDj, mM_r, mX_u, mX_uM, mX_uD, mX_uDj, mM_u, mM_uX, mM_uD, mM_uDj, u2_dd, u2_d0, u2_0d]
    rfl
  · rw [if_neg (show ¬ isW t n i k from fun q => hc q.1)]
    simp (decide := true) only [f_X7_is, hkd, h2, hc, isO_s, gI_s, gA_s, gL_s, pI_s, pZ_s, pL_s, aI_s, aL_s, aN_s, aQ_s, sI_s, sL_s, cr, LNs, Option.map_some, Option.map_none, Option.bind_some, b2, tr, lt, if_true, if_false, ckZ, X_within, M_in, inR_z, X_refuse, X_tell, X_deny, X_grant, M_refused, M_denied, M_done, M_granted, u2_same, u2_ne, u2_u2, upd_same, upd_ne, aW0, ixR_z, ixR_1, M_isWall, M_isPainter, M_isWork, X_has4, X_has10, X_at, or_false, false_or, or_true, true_or, not_true, not_false_iff, Option.isSome_some, isO_d, gI_d, gA_d, pI_d, ne_eq, not_false_eq_true, u2_hi, u2_hj, u2_dyn, u2_dynj, Nat.reduceAdd, mX_r, mX_rD, mX_rDj, mM_r, mX_u, mX_uM, mX_uD, mX_uDj, mM_u, mM_uX, mM_uD, mM_uDj, u2_dd, u2_d0, u2_0d]
theorem X_sign {n la i : Nat} {t : RW} (h : TX t n la I L) (hi : i ≤ la) (h4 : I 40 4 = Int32.ofNat i) : f_X7_sign (ad b 40) (lay b F E I L P nx us) = some (sgn t n i, (lay b F E I L P nx us)) := by
  have hkd := X_kind (b := b) (F := F) (E := E) (P := P) (nx := nx) (us := us) h hi h4
  have hvl := X_value (b := b) (F := F) (E := E) (P := P) (nx := nx) (us := us) h hi h4
  have hle := kd_le (t := t) (n := n) (k := pl t n i)
  have h2 : (Int32.ofNat (kd t n (pl t n i)) = 4) = (kd t n (pl t n i) = 4) := propext (oN_eq (c := 4) (by omega) (by omega))
  unfold sgn
  by_cases hc : kd t n (pl t n i) = 4
  · have hv := (h.2.2.1 i hi).2.2 (by omega)
    rw [(kd_4 hc).1] at hv
    rw [if_pos hc]
    simp (decide := true) only [f_X7_sign_17, f_X7_sign, hkd, h2, hc, hvl, hv, i6432, isO_s, gI_s, gA_s, gL_s, pI_s, pZ_s, pL_s, aI_s, aL_s, aN_s, aQ_s, sI_s, sL_s, cr, LNs, Option.map_some, Option.map_none, Option.bind_some, b2, tr, lt, if_true, if_false, ckZ, X_within, M_in, inR_z, X_refuse, X_tell, X_deny, X_grant, M_refused, M_denied, M_done, M_granted, u2_same, u2_ne, u2_u2, upd_same, upd_ne, aW0, ixR_z, ixR_1, M_isWall, M_isPainter, M_isWork, X_has4, X_has10, X_at, or_false, false_or, or_true, true_or, not_true, not_false_iff, Option.isSome_some, isO_d, gI_d, gA_d, pI_d, ne_eq, not_false_eq_true, u2_hi, u2_hj, u2_dyn, u2_dynj, Nat.reduceAdd, mX_r, mX_rD, mX_rDj, mM_r, mX_u, mX_uM, mX_uD, mX_uDj, mM_u, mM_uX, mM_uD, mM_uDj, u2_dd, u2_d0, u2_0d]
  · rw [if_neg hc]
    simp (decide := true) only [f_X7_sign_17, f_X7_sign, hkd, h2, hc, isO_s, gI_s, gA_s, gL_s, pI_s, pZ_s, pL_s, aI_s, aL_s, aN_s, aQ_s, sI_s, sL_s, cr, LNs, Option.map_some, Option.map_none, Option.bind_some, b2, tr, lt, if_true, if_false, ckZ, X_within, M_in, inR_z, X_refuse, X_tell, X_deny, X_grant, M_refused, M_denied, M_done, M_granted, u2_same, u2_ne, u2_u2, upd_same, upd_ne, aW0, ixR_z, ixR_1, M_isWall, M_isPainter, M_isWork, X_has4, X_has10, X_at, or_false, false_or, or_true, true_or, not_true, not_false_iff, Option.isSome_some, isO_d, gI_d, gA_d, pI_d, ne_eq, not_false_eq_true, u2_hi, u2_hj, u2_dyn, u2_dynj, Nat.reduceAdd, mX_r, mX_rD, mX_rDj, mM_r, mX_u, mX_uM, mX_uD, mX_uDj, mM_u, mM_uX, mM_uD, mM_uDj, u2_dd, u2_d0, u2_0d]
theorem X_adv {n la i : Nat} {t : RW} (h : TX t n la I L) (hi : i < la) (h4 : I 40 4 = Int32.ofNat i) : f_X7_advance (ad b 40) (lay b F E I L P nx us) = some (lay b F E (u2 I 40 (upd (I 40) 4 (Int32.ofNat (i + 1)))) L P nx us) := by
  have e := oN_leF hi (by have := h.1; omega)
  simp (decide := true) only [f_X7_advance_21, f_X7_advance, h4, h.2.1, e, oN_succ, isO_s, gI_s, gA_s, gL_s, pI_s, pZ_s, pL_s, aI_s, aL_s, aN_s, aQ_s, sI_s, sL_s, cr, LNs, Option.map_some, Option.map_none, Option.bind_some, b2, tr, lt, if_true, if_false, ckZ, X_within, M_in, inR_z, X_refuse, X_tell, X_deny, X_grant, M_refused, M_denied, M_done, M_granted, u2_same, u2_ne, u2_u2, upd_same, upd_ne, aW0, ixR_z, ixR_1, M_isWall, M_isPainter, M_isWork, X_has4, X_has10, X_at, or_false, false_or, or_true, true_or, not_true, not_false_iff, Option.isSome_some, isO_d, gI_d, gA_d, pI_d, ne_eq, not_false_eq_true, u2_hi, u2_hj, u2_dyn, u2_dynj, Nat.reduceAdd, mX_r, mX_rD, mX_rDj, mM_r, mX_u, mX_uM, mX_uD, mX_uDj, mM_u, mM_uX, mM_uD, mM_uDj, u2_dd, u2_d0, u2_0d]
theorem X_fail {n la i : Nat} {t : RW} (c : Int32) (h : TX t n la I L) (hi : i ≤ la) (h4 : I 40 4 = Int32.ofNat i) : f_X7_fail (ad b 40) c (lay b F E I L P nx us) = some (0, lay b F E (u2 I 40 (upd (upd (I 40) 5 c) 6 (Int32.ofNat (pl t n i)))) L P nx us) := by
  obtain ⟨h1, h2, h3, -⟩ := h
  obtain ⟨a1, a2, a3⟩ := h3 i hi
  have e1 := oN_neg (w := i) (by omega)
  have e3 : ((Int32.ofNat 401 : Int32) ≤ Int32.ofNat i) = False := oN_leF (c := 401) (by omega) (by omega)
  have e4 : iN (Int32.ofNat i) 401 = some i := iN_oN (by omega) (by omega)
  simp (decide := true) only [f_X7_fail_38, f_X7_fail_37, f_X7_fail, h4, e1, e3, e4, a2, isO_s, gI_s, gA_s, gL_s, pI_s, pZ_s, pL_s, aI_s, aL_s, aN_s, aQ_s, sI_s, sL_s, cr, LNs, Option.map_some, Option.map_none, Option.bind_some, b2, tr, lt, if_true, if_false, ckZ, X_within, M_in, inR_z, X_refuse, X_tell, X_deny, X_grant, M_refused, M_denied, M_done, M_granted, u2_same, u2_ne, u2_u2, upd_same, upd_ne, aW0, ixR_z, ixR_1, M_isWall, M_isPainter, M_isWork, X_has4, X_has10, X_at, or_false, false_or, or_true, true_or, not_true, not_false_iff, Option.isSome_some, isO_d, gI_d, gA_d, pI_d, ne_eq, not_false_eq_true, u2_hi, u2_hj, u2_dyn, u2_dynj, Nat.reduceAdd, mX_r, mX_rD, mX_rDj, mM_r, mX_u, mX_uM, mX_uD, mX_uDj, mM_u, mM_uX, mM_uD, mM_uDj, u2_dd, u2_d0, u2_0d]
/-- the class goes on as long as the token is a good one -/
theorem TX_lt {n la i : Nat} {t : RW} (h : TX t n la I L) (hi : i ≤ la) (h0 : kd t n (pl t n i) ≠ 0) (h1 : kd t n (pl t n i) ≠ 1) : i < la := by
  rcases Nat.lt_or_ge i la with h2 | h2
  · exact h2
  · have : i = la := by omega
    subst this
    rcases h.2.2.2.2 with h3 | h3 <;> omega
theorem M_srt {n i : Nat} {t : RW} {rg : Int32} (h : TM t n rg (pl t n i) (I 72) (L 72)) : ((I 72 28 = 2) = (kd t n (pl t n i) = 2)) ∧ ((I 72 28 = 3) = (kd t n (pl t n i) = 3)) ∧ ((I 72 28 = 1) = (kd t n (pl t n i) = 0)) ∧ ((I 72 28 = 4) = (kd t n (pl t n i) = 4 ∧ ¬ (rg = 0 ∧ (t (pl t n i) = 44 ∨ t (pl t n i) = 37)))) := by
  obtain ⟨m1, m2, m3, m4, m5, m6⟩ := h
  have hle := kd_le (t := t) (n := n) (k := pl t n i)
  have hc : kd t n (pl t n i) = 0 ∨ kd t n (pl t n i) = 1 ∨ kd t n (pl t n i) = 2 ∨ kd t n (pl t n i) = 3 ∨ kd t n (pl t n i) = 4 := by omega
  rcases hc with hc | hc | hc | hc | hc
  · rw [m2 hc, hc]; simp (decide := true)
  · rw [m3 hc, hc]; simp (decide := true)
  · rw [(m4 hc).1, hc]; simp (decide := true)
  · rw [(m5 hc).1, hc]; simp (decide := true)
  · by_cases hr : rg = 0 ∧ (t (pl t n i) = 44 ∨ t (pl t n i) = 37)
    · rw [(m6 hc).1 hr, hc]; simp (decide := true) [hr]
    · rw [((m6 hc).2 hr).1, hc]; simp (decide := true) [hr]
theorem M_isW {z : ZX} {n i k : Nat} {t : RW} {rg : Int32} (hz : GZ b F z) (hk : k < 30) (h : TM t n rg (pl t n i) (I 72) (L 72)) : f_X15_isWord z (ad b 72) (z.1 k) (lay b F E I L P nx us) = some (if isW t n i k then 1 else 0, (lay b F E I L P nx us)) := by
  have hw := M_wordOf (b := b) (F := F) (E := E) (I := I) (L := L) (P := P) (nx := nx) (us := us) hz hk
  have h2 := (M_srt h).1
  by_cases hc : kd t n (pl t n i) = 2
  · have hv := (h.2.2.2.1 hc).2.1
    by_cases hq : vl t n (pl t n i) = zw k
    · have hq' : (lg_cmp (vl t n (pl t n i)) (zw k) = 0) = True := eq_true ((cmp_eq _ _).mpr hq)
      rw [if_pos (show isW t n i k from ⟨hc, hq⟩)]
      simp (decide := true) only [f_X15_isWord_25, f_X15_isWord_24, f_X15_isWord, h2, hc, hv, hw, hq', isO_s, gI_s, gA_s, gL_s, pI_s, pZ_s, pL_s, aI_s, aL_s, aN_s, aQ_s, sI_s, sL_s, cr, LNs, Option.map_some, Option.map_none, Option.bind_some, b2, tr, lt, if_true, if_false, ckZ, X_within, M_in, inR_z, X_refuse, X_tell, X_deny, X_grant, M_refused, M_denied, M_done, M_granted, u2_same, u2_ne, u2_u2, upd_same, upd_ne, aW0, ixR_z, ixR_1, M_isWall, M_isPainter, M_isWork, X_has4, X_has10, X_at, or_false, false_or, or_true, true_or, not_true, not_false_iff, Option.isSome_some, isO_d, gI_d, gA_d, pI_d, ne_eq, not_false_eq_true, u2_hi, u2_hj, u2_dyn, u2_dynj, Nat.reduceAdd, mX_r, mX_rD, mX_rDj, mM_r, mX_u, mX_uM, mX_uD, mX_uDj, mM_u, mM_uX, mM_uD, mM_uDj, u2_dd, u2_d0, u2_0d]
    · have hq' : (lg_cmp (vl t n (pl t n i)) (zw k) = 0) = False := eq_false (fun q => hq ((cmp_eq _ _).mp q))
      rw [if_neg (show ¬ isW t n i k from fun q => hq q.2)]
      simp (decide := true) only [f_X15_isWord_25, f_X15_isWord_24, f_X15_isWord, h2, hc, hv, hw, hq', isO_s, gI_s, gA_s, gL_s, pI_s, pZ_s, pL_s, aI_s, aL_s, aN_s, aQ_s, sI_s, sL_s, cr, LNs, Option.map_some, Option.map_none, Option.bind_some, b2, tr, lt, if_true, if_false, ckZ, X_within, M_in, inR_z, X_refuse, X_tell, X_deny, X_grant, M_refused, M_denied, M_done, M_granted, u2_same, u2_ne, u2_u2, upd_same, upd_ne, aW0, ixR_z, ixR_1, M_isWall, M_isPainter, M_isWork, X_has4, X_has10, X_at, or_false, false_or, or_true, true_or, not_true, not_false_iff, Option.isSome_some, isO_d, gI_d, gA_d, pI_d, ne_eq, not_false_eq_true, u2_hi, u2_hj, u2_dyn, u2_dynj, Nat.reduceAdd, mX_r, mX_rD, mX_rDj, mM_r, mX_u, mX_uM, mX_uD, mX_uDj, mM_u, mM_uX, mM_uD, mM_uDj, u2_dd, u2_d0, u2_0d]
  · rw [if_neg (show ¬ isW t n i k from fun q => hc q.1)]
    simp (decide := true) only [f_X15_isWord_25, f_X15_isWord_24, f_X15_isWord, h2, hc, isO_s, gI_s, gA_s, gL_s, pI_s, pZ_s, pL_s, aI_s, aL_s, aN_s, aQ_s, sI_s, sL_s, cr, LNs, Option.map_some, Option.map_none, Option.bind_some, b2, tr, lt, if_true, if_false, ckZ, X_within, M_in, inR_z, X_refuse, X_tell, X_deny, X_grant, M_refused, M_denied, M_done, M_granted, u2_same, u2_ne, u2_u2, upd_same, upd_ne, aW0, ixR_z, ixR_1, M_isWall, M_isPainter, M_isWork, X_has4, X_has10, X_at, or_false, false_or, or_true, true_or, not_true, not_false_iff, Option.isSome_some, isO_d, gI_d, gA_d, pI_d, ne_eq, not_false_eq_true, u2_hi, u2_hj, u2_dyn, u2_dynj, Nat.reduceAdd, mX_r, mX_rD, mX_rDj, mM_r, mX_u, mX_uM, mX_uD, mX_uDj, mM_u, mM_uX, mM_uD, mM_uDj, u2_dd, u2_d0, u2_0d]
theorem M_is {n i : Nat} {t : RW} {rg : Int32} (c : Int32) (hc : rg = 0 → c ≠ 44 ∧ c ≠ 37) (h : TM t n rg (pl t n i) (I 72) (L 72)) : f_X15_is (ad b 72) c (lay b F E I L P nx us) = some (if isC t n i c then 1 else 0, (lay b F E I L P nx us)) := by
  have h4 := (M_srt h).2.2.2
  by_cases hk : kd t n (pl t n i) = 4
  · by_cases hr : rg = 0 ∧ (t (pl t n i) = 44 ∨ t (pl t n i) = 37)
    · have hne : ¬ isC t n i c := fun q => by
        obtain ⟨c1, c2⟩ := hc hr.1
        rcases hr.2 with e | e
        · exact c1 (q.2.symm.trans e)
        · exact c2 (q.2.symm.trans e)
      have hf : (I 72 28 = 4) = False := by rw [h4]; exact eq_false (fun q => q.2 hr)
      rw [if_neg hne]
      simp (decide := true) only [f_X15_is_21, f_X15_is_20, f_X15_is, hf, isO_s, gI_s, gA_s, gL_s, pI_s, pZ_s, pL_s, aI_s, aL_s, aN_s, aQ_s, sI_s, sL_s, cr, LNs, Option.map_some, Option.map_none, Option.bind_some, b2, tr, lt, if_true, if_false, ckZ, X_within, M_in, inR_z, X_refuse, X_tell, X_deny, X_grant, M_refused, M_denied, M_done, M_granted, u2_same, u2_ne, u2_u2, upd_same, upd_ne, aW0, ixR_z, ixR_1, M_isWall, M_isPainter, M_isWork, X_has4, X_has10, X_at, or_false, false_or, or_true, true_or, not_true, not_false_iff, Option.isSome_some, isO_d, gI_d, gA_d, pI_d, ne_eq, not_false_eq_true, u2_hi, u2_hj, u2_dyn, u2_dynj, Nat.reduceAdd, mX_r, mX_rD, mX_rDj, mM_r, mX_u, mX_uM, mX_uD, mX_uDj, mM_u, mM_uX, mM_uD, mM_uDj, u2_dd, u2_d0, u2_0d]
    · have ht : (I 72 28 = 4) = True := by rw [h4]; exact eq_true ⟨hk, hr⟩
      have h30 := ((h.2.2.2.2.2 hk).2 hr).2.1
      by_cases hq : t (pl t n i) = c
      · rw [if_pos (show isC t n i c from ⟨hk, hq⟩)]
        simp (decide := true) only [f_X15_is_21, f_X15_is_20, f_X15_is, ht, h30, hq, isO_s, gI_s, gA_s, gL_s, pI_s, pZ_s, pL_s, aI_s, aL_s, aN_s, aQ_s, sI_s, sL_s, cr, LNs, Option.map_some, Option.map_none, Option.bind_some, b2, tr, lt, if_true, if_false, ckZ, X_within, M_in, inR_z, X_refuse, X_tell, X_deny, X_grant, M_refused, M_denied, M_done, M_granted, u2_same, u2_ne, u2_u2, upd_same, upd_ne, aW0, ixR_z, ixR_1, M_isWall, M_isPainter, M_isWork, X_has4, X_has10, X_at, or_false, false_or, or_true, true_or, not_true, not_false_iff, Option.isSome_some, isO_d, gI_d, gA_d, pI_d, ne_eq, not_false_eq_true, u2_hi, u2_hj, u2_dyn, u2_dynj, Nat.reduceAdd, mX_r, mX_rD, mX_rDj, mM_r, mX_u, mX_uM, mX_uD, mX_uDj, mM_u, mM_uX, mM_uD, mM_uDj, u2_dd, u2_d0, u2_0d]
      · rw [if_neg (show ¬ isC t n i c from fun q => hq q.2)]
        simp (decide := true) only [f_X15_is_21, f_X15_is_20, f_X15_is, ht, h30, hq, isO_s, gI_s, gA_s, gL_s, pI_s, pZ_s, pL_s, aI_s, aL_s, aN_s, aQ_s, sI_s, sL_s, cr, LNs, Option.map_some, Option.map_none, Option.bind_some, b2, tr, lt, if_true, if_false, ckZ, X_within, M_in, inR_z, X_refuse, X_tell, X_deny, X_grant, M_refused, M_denied, M_done, M_granted, u2_same, u2_ne, u2_u2, upd_same, upd_ne, aW0, ixR_z, ixR_1, M_isWall, M_isPainter, M_isWork, X_has4, X_has10, X_at, or_false, false_or, or_true, true_or, not_true, not_false_iff, Option.isSome_some, isO_d, gI_d, gA_d, pI_d, ne_eq, not_false_eq_true, u2_hi, u2_hj, u2_dyn, u2_dynj, Nat.reduceAdd, mX_r, mX_rD, mX_rDj, mM_r, mX_u, mX_uM, mX_uD, mX_uDj, mM_u, mM_uX, mM_uD, mM_uDj, u2_dd, u2_d0, u2_0d]
  · have hf : (I 72 28 = 4) = False := by rw [h4]; exact eq_false (fun q => hk q.1)
    rw [if_neg (show ¬ isC t n i c from fun q => hk q.1)]
    simp (decide := true) only [f_X15_is_21, f_X15_is_20, f_X15_is, hf, isO_s, gI_s, gA_s, gL_s, pI_s, pZ_s, pL_s, aI_s, aL_s, aN_s, aQ_s, sI_s, sL_s, cr, LNs, Option.map_some, Option.map_none, Option.bind_some, b2, tr, lt, if_true, if_false, ckZ, X_within, M_in, inR_z, X_refuse, X_tell, X_deny, X_grant, M_refused, M_denied, M_done, M_granted, u2_same, u2_ne, u2_u2, upd_same, upd_ne, aW0, ixR_z, ixR_1, M_isWall, M_isPainter, M_isWork, X_has4, X_has10, X_at, or_false, false_or, or_true, true_or, not_true, not_false_iff, Option.isSome_some, isO_d, gI_d, gA_d, pI_d, ne_eq, not_false_eq_true, u2_hi, u2_hj, u2_dyn, u2_dynj, Nat.reduceAdd, mX_r, mX_rD, mX_rDj, mM_r, mX_u, mX_uM, mX_uD, mX_uDj, mM_u, mM_uX, mM_uD, mM_uDj, u2_dd, u2_d0, u2_0d]
theorem M_nx {n i : Nat} {t : RW} {rg : Int32} (hn : n ≤ 400) (hB : BY t n) (h26 : I 72 26 = Int32.ofNat n) (ht : I 91 = t) (h36 : I 72 36 = rg) (h : TM t n rg (pl t n i) (I 72) (L 72)) (h0 : kd t n (pl t n i) ≠ 0) (h1 : kd t n (pl t n i) ≠ 1) (hr : ¬ cm t n i rg) : ∃ r l, f_X15_next (ad b 72) (lay b F E I L P nx us) = some (lay b F E (u2 I 72 r) (u2 L 72 l) P nx us) ∧ F72 (I 72) r ∧ (∀ j, j ≠ 37 → l j = L 72 j) ∧ TM t n rg (pl t n (i + 1)) r l := by
  have hle := kd_le (t := t) (n := n) (k := pl t n i)
  have h27 : I 72 27 = Int32.ofNat (en t n (pl t n i)) := by
    have hc : kd t n (pl t n i) = 2 ∨ kd t n (pl t n i) = 3 ∨ kd t n (pl t n i) = 4 := by omega
    rcases hc with hc | hc | hc
    · exact (h.2.2.2.1 hc).2.2.2
    · exact (h.2.2.2.2.1 hc).2.2
    · exact ((h.2.2.2.2.2 hc).2 (fun q => hr ⟨hc, q⟩)).2.2
  exact M_next hn hB (ps_le (i + 1)) h26 ht h36 h27
theorem M_stop {n i : Nat} {t : RW} {rg : Int32} (c : Int32) (h : TM t n rg (pl t n i) (I 72) (L 72)) : f_X15_stop (ad b 72) c (lay b F E I L P nx us) = some (some (ad b 90), lay b F E (u2 I 90 (upd (upd (I 90) 6 c) 7 (Int32.ofNat (pl t n i)))) L P nx us) := by
  simp (decide := true) only [f_X15_stop, h.1, isO_s, gI_s, gA_s, gL_s, pI_s, pZ_s, pL_s, aI_s, aL_s, aN_s, aQ_s, sI_s, sL_s, cr, LNs, Option.map_some, Option.map_none, Option.bind_some, b2, tr, lt, if_true, if_false, ckZ, X_within, M_in, inR_z, X_refuse, X_tell, X_deny, X_grant, M_refused, M_denied, M_done, M_granted, u2_same, u2_ne, u2_u2, upd_same, upd_ne, aW0, ixR_z, ixR_1, M_isWall, M_isPainter, M_isWork, X_has4, X_has10, X_at, or_false, false_or, or_true, true_or, not_true, not_false_iff, Option.isSome_some, isO_d, gI_d, gA_d, pI_d, ne_eq, not_false_eq_true, u2_hi, u2_hj, u2_dyn, u2_dynj, Nat.reduceAdd, mX_r, mX_rD, mX_rDj, mM_r, mX_u, mX_uM, mX_uD, mX_uDj, mM_u, mM_uX, mM_uD, mM_uDj, u2_dd, u2_d0, u2_0d]
end TOK6
