/-! ===== drawing: the class reads a part ===== -/
theorem dB_N : ∀ j, j < 256 → dB (Int32.ofNat j) = true → 48 ≤ j ∧ j ≤ 57 ∧ Int32.ofNat j - 48 = Int32.ofNat (j - 48) := by decide +kernel
theorem dB_n {x : Int32} (h : dB x = true) : ∃ d, d ≤ 9 ∧ x - 48 = Int32.ofNat d := by
  have h1 := dB_t h
  have h2 : ¬ x < 48 ∧ ¬ 57 < x := by
    unfold inR at h1
    constructor
    · intro q; rw [if_pos q] at h1; exact absurd h1 (by decide)
    · intro q
      by_cases q2 : x < 48
      · rw [if_pos q2] at h1; exact absurd h1 (by decide)
      · rw [if_neg q2, if_pos q] at h1; exact absurd h1 (by decide)
  obtain ⟨j, hj, rfl⟩ := nn_oN (x := x) (fun q => h2.1 (Int32.lt_trans q (by decide)))
  have h3 : j < 256 := by
    have h4 : ¬ 57 < j := fun q => h2.2 ((oN_lt (a := 57) (by omega) hj).mpr q)
    omega
  obtain ⟨a1, a2, a3⟩ := dB_N j h3 h
  exact ⟨j - 48, by omega, a3⟩
theorem nv_N {t : RW} : ∀ (m k v : Nat), ∃ w, nvR t m k (Int32.ofNat v) = Int32.ofNat w ∧ w < (v + 1) * 10 ^ (rnE dB t m k - k) := by
  intro m
  induction m with
  | zero =>
    intro k v
    have e : rnE dB t 0 k - k = 0 := by show k - k = 0; omega
    rw [e]
    exact ⟨v, rfl, by omega⟩
  | succ m ih =>
    intro k v
    by_cases hl : dB (t k) = true
    · have eR : rnE dB t (m + 1) k = rnE dB t m (k + 1) := by show (if dB (t k) = true then _ else _) = _; rw [if_pos hl]
      have eV : nvR t (m + 1) k (Int32.ofNat v) = nvR t m (k + 1) (Int32.ofNat v * 10 + (t k - 48)) := by show (if dB (t k) = true then _ else _) = _; rw [if_pos hl]
      obtain ⟨d, d2, d3⟩ := dB_n hl
      have hge := (rnE_ge (q := dB) (t := t) m (k + 1)).1
      have e3 : Int32.ofNat v * 10 + (t k - 48) = Int32.ofNat (v * 10 + d) := by rw [d3, show (10 : Int32) = Int32.ofNat 10 from rfl, oN_mul, oN_add]
      obtain ⟨w, w1, w2⟩ := ih (k + 1) (v * 10 + d)
      rw [eR, eV, e3]
      refine ⟨w, w1, ?_⟩
      rw [show rnE dB t m (k + 1) - k = (rnE dB t m (k + 1) - (k + 1)) + 1 by omega, Nat.pow_succ, Nat.mul_comm (10 ^ _) 10, ← Nat.mul_assoc]
      exact Nat.lt_of_lt_of_le w2 (Nat.mul_le_mul_right _ (by omega))
    · have eR : rnE dB t (m + 1) k = k := by show (if dB (t k) = true then _ else _) = _; rw [if_neg hl]
      have eV : nvR t (m + 1) k (Int32.ofNat v) = Int32.ofNat v := by show (if dB (t k) = true then _ else _) = _; rw [if_neg hl]
      rw [eR, eV]
      exact ⟨v, rfl, by rw [Nat.sub_self]; omega⟩
theorem kd_3l {t : RW} {n k : Nat} (h : kd t n k = 3) : rnE dB t (n - k) k - k ≤ 3 := by
  have hk := kd_in (t := t) (n := n) (k := k) (by omega)
  unfold kd at h
  rw [if_neg (by omega)] at h
  split at h
  · split at h <;> omega
  · split at h
    · split at h
      · assumption
      · omega
    · split at h <;> omega
theorem num_N {t : RW} {n i : Nat} (h : kd t n (pl t n i) = 3) : ∃ w, w < 1000 ∧ num t n i = Int32.ofNat w := by
  obtain ⟨w, w1, w2⟩ := nv_N (t := t) (n - pl t n i) (pl t n i) 0
  have h3 := kd_3l h
  have h4 : 10 ^ (rnE dB t (n - pl t n i) (pl t n i) - pl t n i) ≤ 10 ^ 3 := Nat.pow_le_pow_right (by decide) h3
  have h5 : (10 : Nat) ^ 3 = 1000 := by decide
  exact ⟨w, by omega, w1⟩
theorem varV_N {t : RW} {n i : Nat} : varV t n i = -1 ∨ ∃ j, j < 5 ∧ varV t n i = Int32.ofNat j := by
  unfold varV
  repeat' split
  · exact Or.inr ⟨0, by decide, rfl⟩
  · exact Or.inr ⟨1, by decide, rfl⟩
  · exact Or.inr ⟨2, by decide, rfl⟩
  · exact Or.inr ⟨3, by decide, rfl⟩
  · exact Or.inr ⟨4, by decide, rfl⟩
  · exact Or.inl rfl
  · exact Or.inl rfl
theorem ptS_f {t : RW} {n i : Nat} : fits (aT 1) (.int (ptS t n i + 1)) = true := by
  unfold ptS
  split
  · decide
  · split
    · decide
    · split
      · decide
      · decide
theorem ptV_VL {t : RW} {n i : Nat} : VL (ptV t n i) := by
  unfold ptV
  split
  · rename_i h
    obtain ⟨w, w1, w2⟩ := num_N h
    exact Or.inr ⟨w, w1, w2⟩
  · rcases varV_N (t := t) (n := n) (i := i) with h | ⟨j, h1, h2⟩
    · exact Or.inl h
    · exact Or.inr ⟨j, by omega, h2⟩
theorem ptS_4 {t : RW} {n i : Nat} : ptS t n i = 0 ∨ ptS t n i = 1 ∨ ptS t n i = 2 ∨ ptS t n i = 3 := by
  unfold ptS
  repeat' split
  · exact Or.inl rfl
  · exact Or.inr (Or.inl rfl)
  · exact Or.inr (Or.inr (Or.inl rfl))
  · exact Or.inr (Or.inr (Or.inr rfl))
theorem pt_it {t : RW} {n i : Nat} : itD (ptS t n i) = ptS t n i + 1 := by
  rcases ptS_4 (t := t) (n := n) (i := i) with h | h | h | h <;> rw [h] <;> rfl
/-- the value that the class puts -/
def pxV (t : RW) (n i : Nat) : Int32 := itV (ptS t n i) (ptV t n i)
theorem pxV_VL {t : RW} {n i : Nat} : VL (pxV t n i) := by
  unfold pxV
  rcases ptS_4 (t := t) (n := n) (i := i) with h | h | h | h <;> rw [h]
  · exact ptV_VL
  · exact ptV_VL
  · exact Or.inr ⟨0, by decide, rfl⟩
  · exact Or.inr ⟨0, by decide, rfl⟩
/-- a part put, and on -/
def xPart (t : RW) (n i pa dl : Nat) (I : Nat → Nat → Int32) : Nat → Nat → Int32 := aVv (xPt dl (ptS t n i + 1) (pxV t n i) (xK I 3 (Int32.ofNat (pa + 1)))) (i + 1)
section SUM6
variable {b : Nat} {F : Nat → Option AE} {D E : Nat → Option KD} {I : Nat → Nat → Int32} {L : Nat → Nat → Int64} {P : Nat → Nat → Option Nat} {nx us : Nat}
theorem X_part {z : ZX} {t : RW} {n la i pa sc dl : Nat} (hz : GZ b F z) (hLA : LA t n la) (h : XSt t n la i pa sc dl I L) (hpa : pa ≤ 120) (hdl : pa < 120 → dl < 360) : f_X2_readPart (ad b 44) (lay b F E I L P nx us) = if ptE t n i ≠ 0 then some (0, lay b F E (aF I (ptE t n i) (pl t n i)) L P nx us) else if pa = 120 then some (0, lay b F E (aF I 4 (pl t n i)) L P nx us) else some (1, lay b F E (xPart t n i pa dl I) L P nx us) := by
  obtain ⟨hT, hi, h4, h5, h3, h7, h45⟩ := h
  have hX : XSt t n la i pa sc dl I L := ⟨hT, hi, h4, h5, h3, h7, h45⟩
  have hkd := X_kind (b := b) (F := F) (E := E) (P := P) (nx := nx) (us := us) hT hi h4
  have hvl := X_value (b := b) (F := F) (E := E) (P := P) (nx := nx) (us := us) hT hi h4
  have hnm := X_name (b := b) (F := F) (E := E) (P := P) (nx := nx) (us := us) hT hi h4
  have hfl := fun c => X_failF (b := b) (F := F) (E := E) (P := P) (nx := nx) (us := us) c hT hi h4
  have hle := kd_le (t := t) (n := n) (k := pl t n i)
  have h2 : (Int32.ofNat (kd t n (pl t n i)) = 2) = (kd t n (pl t n i) = 2) := propext (oN_eq (c := 2) (by omega) (by omega))
  have h3' : (Int32.ofNat (kd t n (pl t n i)) = 3) = (kd t n (pl t n i) = 3) := propext (oN_eq (c := 3) (by omega) (by omega))
  have e120 : (Int32.ofNat pa < 120) = (pa < 120) := propext (oN_lt (c := 120) (by omega) (by omega))
  -- the last piece
  have h95 : ptE t n i = 0 → f_X2_readPart_95 (ad b 44) (nmT t n i) (lay b F E I L P nx us) = if ptE t n i ≠ 0 then some (0, lay b F E (aF I (ptE t n i) (pl t n i)) L P nx us) else if pa = 120 then some (0, lay b F E (aF I 4 (pl t n i)) L P nx us) else some (1, lay b F E (xPart t n i pa dl I) L P nx us) := by
    intro hE
    rw [if_neg (fun q => q hE)]
    by_cases hp : pa = 120
    · have e : (pa < 120) = False := eq_false (by omega)
      rw [if_pos hp]
      simp (decide := true) only [f_X2_readPart_95, h3, e120, e, hfl 4, isO_s, gI_s, gA_s, gL_s, pI_s, pZ_s, pL_s, aI_s, aL_s, aN_s, aQ_s, sI_s, sL_s, cr, LNs, Option.map_some, Option.map_none, Option.bind_some, b2, tr, lt, if_true, if_false, ckZ, X_within, M_in, inR_z, X_refuse, X_tell, X_deny, X_grant, M_refused, M_denied, M_done, M_granted, u2_same, u2_ne, u2_u2, upd_same, upd_ne, aW0, ixR_z, ixR_1, M_isWall, M_isPainter, M_isWork, X_has4, X_has10, X_at, or_false, false_or, or_true, true_or, not_true, not_false_iff, Option.isSome_some, isO_d, gI_d, gA_d, pI_d, ne_eq, not_false_eq_true, u2_hi, u2_hj, u2_dyn, u2_dynj, Nat.reduceAdd, mX_r, mX_rD, mX_rDj, mM_r, mX_u, mX_uM, mX_uD, mX_uDj, mM_u, mM_uX, mM_uD, mM_uDj, u2_dd, u2_d0, u2_0d]
    · have e : (pa < 120) = True := eq_true (by omega)
      rw [if_neg hp]
      have hil : i < la := LA_lt hLA hi (by rcases ptE_kd hE with q | q <;> omega) (by rcases ptE_kd hE with q | q <;> omega)
      have hX3 : XSt t n la i (pa + 1) sc dl (xK I 3 (Int32.ofNat (pa + 1))) L := hX.k3
      have hkd3 := X_kind (b := b) (F := F) (E := E) (P := P) (nx := nx) (us := us) hX3.1 hX3.2.1 hX3.2.2.1
      have hvl3 := X_value (b := b) (F := F) (E := E) (P := P) (nx := nx) (us := us) hX3.1 hX3.2.1 hX3.2.2.1
      have hpi : pI 2 (lay b F E I L P nx us) (ad b 44) 3 (Int32.ofNat (pa + 1)) = some (lay b F E (xK I 3 (Int32.ofNat (pa + 1))) L P nx us) := by unfold xK; simp (decide := true) only [isO_s, gI_s, gA_s, gL_s, pI_s, pZ_s, pL_s, aI_s, aL_s, aN_s, aQ_s, sI_s, sL_s, cr, LNs, Option.map_some, Option.map_none, Option.bind_some, b2, tr, lt, if_true, if_false, ckZ, X_within, M_in, inR_z, X_refuse, X_tell, X_deny, X_grant, M_refused, M_denied, M_done, M_granted, u2_same, u2_ne, u2_u2, upd_same, upd_ne, aW0, ixR_z, ixR_1, M_isWall, M_isPainter, M_isWork, X_has4, X_has10, X_at, or_false, false_or, or_true, true_or, not_true, not_false_iff, Option.isSome_some, isO_d, gI_d, gA_d, pI_d, ne_eq, not_false_eq_true, u2_hi, u2_hj, u2_dyn, u2_dynj, Nat.reduceAdd, mX_r, mX_rD, mX_rDj, mM_r, mX_u, mX_uM, mX_uD, mX_uDj, mM_u, mM_uX, mM_uD, mM_uDj, u2_dd, u2_d0, u2_0d]
      have fin : ∀ (dn : Nat) (d v : Int32), dn < 100 → d = Int32.ofNat dn → d = ptS t n i + 1 → v = pxV t n i → f_X1_put (ad b 45) d v (lay b F E (xK I 3 (Int32.ofNat (pa + 1))) L P nx us) = some (lay b F E (xPt dl d v (xK I 3 (Int32.ofNat (pa + 1)))) L P nx us) ∧ f_X7_advance (ad b 40) (lay b F E (xPt dl d v (xK I 3 (Int32.ofNat (pa + 1)))) L P nx us) = some (lay b F E (xPart t n i pa dl I) L P nx us) := by
        intro dn d v hd h1 h2 h3
        have hpt := X_dput (b := b) (F := F) (E := E) (L := L) (P := P) (nx := nx) (us := us) (I := xK I 3 (Int32.ofNat (pa + 1))) (dl := dl) dn hd (pxV_VL (t := t) (n := n) (i := i)) hX3.2.2.2.2.2.2 (hdl (by omega))
        have hX4 : XSt t n la i (pa + 1) sc (dl + 1) (xPt dl d v (xK I 3 (Int32.ofNat (pa + 1)))) L := hX3.put
        have hav := X_advV (b := b) (F := F) (E := E) (P := P) (nx := nx) (us := us) hX4.1 hil hX4.2.2.1
        rw [h3, h1]
        rw [h3] at hav
        refine ⟨hpt, ?_⟩
        unfold xPart
        rw [← h2, ← h1]
        exact hav
      by_cases c3 : kd t n (pl t n i) = 3
      · have hS : ptS t n i = 0 := by unfold ptS; rw [if_pos c3]
        have hV : pxV t n i = num t n i := by
          unfold pxV
          rw [hS]
          unfold ptV
          rw [if_pos c3]
          rfl
        have hv2 : (L 43 i).toInt32 = num t n i := by
          rw [(hT.2.2.1 i hi).2.2 (by omega), kd_3 c3]
          exact i6432 _
        obtain ⟨p1, p2⟩ := fin 1 1 (num t n i) (by decide) rfl (by rw [hS]; rfl) hV.symm
        simp (decide := true) only [f_X2_readPart_95, f_X2_readPart_194, h3, e120, e, oN_succ, hpi, hkd3, h3', c3, hvl3, hv2, p1, p2, isO_s, gI_s, gA_s, gL_s, pZ_s, pL_s, aI_s, aL_s, aN_s, aQ_s, sI_s, sL_s, cr, LNs, Option.map_some, Option.map_none, Option.bind_some, b2, tr, lt, if_true, if_false, ckZ, X_within, M_in, inR_z, X_refuse, X_tell, X_deny, X_grant, M_refused, M_denied, M_done, M_granted, u2_same, u2_ne, u2_u2, upd_same, upd_ne, aW0, ixR_z, ixR_1, M_isWall, M_isPainter, M_isWork, X_has4, X_has10, X_at, or_false, false_or, or_true, true_or, not_true, not_false_iff, Option.isSome_some, isO_d, gI_d, gA_d, pI_d, ne_eq, not_false_eq_true, u2_hi, u2_hj, u2_dyn, u2_dynj, Nat.reduceAdd, mX_r, mX_rD, mX_rDj, mM_r, mX_u, mX_uM, mX_uD, mX_uDj, mM_u, mM_uX, mM_uD, mM_uDj, u2_dd, u2_d0, u2_0d]
      · have c2 : kd t n (pl t n i) = 2 := (ptE_kd hE).resolve_right c3
        by_cases v1 : varV t n i = -1
        · have hI : (inR (nmT t n i) 7 11 = 0) = True := by rw [var_I]; exact eq_true v1
          by_cases v7 : isW t n i 7
          · have hS : ptS t n i = 2 := by unfold ptS; rw [if_neg c3, if_neg (fun q => q v1), if_pos v7]
            have hV : pxV t n i = 0 := by unfold pxV; rw [hS]; rfl
            have n12 : (nmT t n i = 12) = True := by rw [nmT_12]; exact eq_true v7
            obtain ⟨p1, p2⟩ := fin 3 3 0 (by decide) rfl (by rw [hS]; rfl) hV.symm
            simp (decide := true) only [f_X2_readPart_95, f_X2_readPart_190, f_X2_readPart_194, h3, e120, e, oN_succ, hpi, hkd3, h3', c3, X_isv, hI, n12, p1, p2, isO_s, gI_s, gA_s, gL_s, pZ_s, pL_s, aI_s, aL_s, aN_s, aQ_s, sI_s, sL_s, cr, LNs, Option.map_some, Option.map_none, Option.bind_some, b2, tr, lt, if_true, if_false, ckZ, X_within, M_in, X_refuse, X_tell, X_deny, X_grant, M_refused, M_denied, M_done, M_granted, u2_same, u2_ne, u2_u2, upd_same, upd_ne, aW0, ixR_z, ixR_1, M_isWall, M_isPainter, M_isWork, X_has4, X_has10, X_at, or_false, false_or, or_true, true_or, not_true, not_false_iff, Option.isSome_some, isO_d, gI_d, gA_d, pI_d, ne_eq, not_false_eq_true, u2_hi, u2_hj, u2_dyn, u2_dynj, Nat.reduceAdd, mX_r, mX_rD, mX_rDj, mM_r, mX_u, mX_uM, mX_uD, mX_uDj, mM_u, mM_uX, mM_uD, mM_uDj, u2_dd, u2_d0, u2_0d]
          · have hS : ptS t n i = 3 := by unfold ptS; rw [if_neg c3, if_neg (fun q => q v1), if_neg v7]
            have hV : pxV t n i = 0 := by unfold pxV; rw [hS]; rfl
            have n12 : (nmT t n i = 12) = False := by rw [nmT_12]; exact eq_false v7
            obtain ⟨p1, p2⟩ := fin 4 4 0 (by decide) rfl (by rw [hS]; rfl) hV.symm
            simp (decide := true) only [f_X2_readPart_95, f_X2_readPart_190, f_X2_readPart_194, h3, e120, e, oN_succ, hpi, hkd3, h3', c3, X_isv, hI, n12, p1, p2, isO_s, gI_s, gA_s, gL_s, pZ_s, pL_s, aI_s, aL_s, aN_s, aQ_s, sI_s, sL_s, cr, LNs, Option.map_some, Option.map_none, Option.bind_some, b2, tr, lt, if_true, if_false, ckZ, X_within, M_in, X_refuse, X_tell, X_deny, X_grant, M_refused, M_denied, M_done, M_granted, u2_same, u2_ne, u2_u2, upd_same, upd_ne, aW0, ixR_z, ixR_1, M_isWall, M_isPainter, M_isWork, X_has4, X_has10, X_at, or_false, false_or, or_true, true_or, not_true, not_false_iff, Option.isSome_some, isO_d, gI_d, gA_d, pI_d, ne_eq, not_false_eq_true, u2_hi, u2_hj, u2_dyn, u2_dynj, Nat.reduceAdd, mX_r, mX_rD, mX_rDj, mM_r, mX_u, mX_uM, mX_uD, mX_uDj, mM_u, mM_uX, mM_uD, mM_uDj, u2_dd, u2_d0, u2_0d]
        · have hI : (inR (nmT t n i) 7 11 = 0) = False := by rw [var_I]; exact eq_false v1
          have hS : ptS t n i = 1 := by unfold ptS; rw [if_neg c3, if_pos v1]
          have hV : pxV t n i = varV t n i := by
            unfold pxV
            rw [hS]
            unfold ptV
            rw [if_neg c3]
            rfl
          have hsub := var_T.2 v1
          obtain ⟨p1, p2⟩ := fin 2 2 (varV t n i) (by decide) rfl (by rw [hS]; rfl) hV.symm
          simp (decide := true) only [f_X2_readPart_95, f_X2_readPart_194, h3, e120, e, oN_succ, hpi, hkd3, h3', c3, X_isv, hI, hsub, p1, p2, isO_s, gI_s, gA_s, gL_s, pZ_s, pL_s, aI_s, aL_s, aN_s, aQ_s, sI_s, sL_s, cr, LNs, Option.map_some, Option.map_none, Option.bind_some, b2, tr, lt, if_true, if_false, ckZ, X_within, M_in, X_refuse, X_tell, X_deny, X_grant, M_refused, M_denied, M_done, M_granted, u2_same, u2_ne, u2_u2, upd_same, upd_ne, aW0, ixR_z, ixR_1, M_isWall, M_isPainter, M_isWork, X_has4, X_has10, X_at, or_false, false_or, or_true, true_or, not_true, not_false_iff, Option.isSome_some, isO_d, gI_d, gA_d, pI_d, ne_eq, not_false_eq_true, u2_hi, u2_hj, u2_dyn, u2_dynj, Nat.reduceAdd, mX_r, mX_rD, mX_rDj, mM_r, mX_u, mX_uM, mX_uD, mX_uDj, mM_u, mM_uX, mM_uD, mM_uDj, u2_dd, u2_d0, u2_0d]
  by_cases c3 : kd t n (pl t n i) = 3
  · have hE : ptE t n i = 0 := by unfold ptE; rw [if_pos c3]
    have c2 : ¬ kd t n (pl t n i) = 2 := by omega
    rw [← h95 hE]
    (simp (decide := true) only [f_X2_readPart, f_X2_readPart_39, hnm, hkd, h2, h3', c3, isO_s, gI_s, gA_s, gL_s, pI_s, pZ_s, pL_s, aI_s, aL_s, aN_s, aQ_s, sI_s, sL_s, cr, LNs, Option.map_some, Option.map_none, Option.bind_some, b2, tr, lt, if_true, if_false, ckZ, X_within, M_in, inR_z, X_refuse, X_tell, X_deny, X_grant, M_refused, M_denied, M_done, M_granted, u2_same, u2_ne, u2_u2, upd_same, upd_ne, aW0, ixR_z, ixR_1, M_isWall, M_isPainter, M_isWork, X_has4, X_has10, X_at, or_false, false_or, or_true, true_or, not_true, not_false_iff, Option.isSome_some, isO_d, gI_d, gA_d, pI_d, ne_eq, not_false_eq_true, u2_hi, u2_hj, u2_dyn, u2_dynj, Nat.reduceAdd, mX_r, mX_rD, mX_rDj, mM_r, mX_u, mX_uM, mX_uD, mX_uDj, mM_u, mM_uX, mM_uD, mM_uDj, u2_dd, u2_d0, u2_0d]; try exact rfl)
  · by_cases c2 : kd t n (pl t n i) = 2
    · obtain ⟨pt1, pt2⟩ := pt_T c2
      by_cases hg : varV t n i ≠ -1 ∨ isW t n i 7 ∨ isW t n i 8
      · have hE : ptE t n i = 0 := by unfold ptE; rw [if_neg c3, if_pos c2, if_pos hg]
        have n7 : (nmT t n i < 7) = False := eq_false (fun q => pt1.mp (Or.inl q) hg)
        have n13 : (nmT t n i ≤ 13) = True := eq_true (Int32.not_lt.mp (fun q => pt1.mp (Or.inr q) hg))
        rw [← h95 hE]
        (simp (decide := true) only [f_X2_readPart, f_X2_readPart_39, hnm, hkd, h2, h3', c3, c2, n7, n13, isO_s, gI_s, gA_s, gL_s, pI_s, pZ_s, pL_s, aI_s, aL_s, aN_s, aQ_s, sI_s, sL_s, cr, LNs, Option.map_some, Option.map_none, Option.bind_some, b2, tr, lt, if_true, if_false, ckZ, X_within, M_in, inR_z, X_refuse, X_tell, X_deny, X_grant, M_refused, M_denied, M_done, M_granted, u2_same, u2_ne, u2_u2, upd_same, upd_ne, aW0, ixR_z, ixR_1, M_isWall, M_isPainter, M_isWork, X_has4, X_has10, X_at, or_false, false_or, or_true, true_or, not_true, not_false_iff, Option.isSome_some, isO_d, gI_d, gA_d, pI_d, ne_eq, not_false_eq_true, u2_hi, u2_hj, u2_dyn, u2_dynj, Nat.reduceAdd, mX_r, mX_rD, mX_rDj, mM_r, mX_u, mX_uM, mX_uD, mX_uDj, mM_u, mM_uX, mM_uD, mM_uDj, u2_dd, u2_d0, u2_0d]; try exact rfl)
      · have hbad := pt1.mpr hg
        by_cases hk : (isW t n i 1 ∨ isW t n i 2 ∨ isW t n i 3 ∨ isW t n i 4 ∨ isW t n i 5 ∨ isW t n i 9 ∨ isW t n i 10)
        · have hE : ptE t n i = 1 := by unfold ptE; rw [if_neg c3, if_pos c2, if_neg hg, if_pos hk]
          have n0' : ¬ nmT t n i < 0 := fun q => pt2.mp (Or.inl q) hk
          have n6' : ¬ 6 < nmT t n i := fun q => pt2.mp (Or.inr q) hk
          have n0 : (nmT t n i < 0) = False := eq_false n0'
          have n6 : ((6 : Int32) < nmT t n i) = False := eq_false n6'
          have n7 : (nmT t n i < 7) = True := eq_true (by
            rcases hbad with q | q
            · exact q
            · exact absurd (Int32.lt_trans (by decide) q) n6')
          rw [if_pos (by rw [hE]; decide), hE]
          simp (decide := true) only [f_X2_readPart, f_X2_readPart_39, f_X2_readPart_62, f_X2_readPart_77, f_X2_readPart_91, hnm, hkd, h2, h3', c3, c2, n7, n0, n6, hfl 1, isO_s, gI_s, gA_s, gL_s, pI_s, pZ_s, pL_s, aI_s, aL_s, aN_s, aQ_s, sI_s, sL_s, cr, LNs, Option.map_some, Option.map_none, Option.bind_some, b2, tr, lt, if_true, if_false, ckZ, X_within, M_in, inR_z, X_refuse, X_tell, X_deny, X_grant, M_refused, M_denied, M_done, M_granted, u2_same, u2_ne, u2_u2, upd_same, upd_ne, aW0, ixR_z, ixR_1, M_isWall, M_isPainter, M_isWork, X_has4, X_has10, X_at, or_false, false_or, or_true, true_or, not_true, not_false_iff, Option.isSome_some, isO_d, gI_d, gA_d, pI_d, ne_eq, not_false_eq_true, u2_hi, u2_hj, u2_dyn, u2_dynj, Nat.reduceAdd, mX_r, mX_rD, mX_rDj, mM_r, mX_u, mX_uM, mX_uD, mX_uDj, mM_u, mM_uX, mM_uD, mM_uDj, u2_dd, u2_d0, u2_0d]
        · have hE : ptE t n i = 2 := by unfold ptE; rw [if_neg c3, if_pos c2, if_neg hg, if_neg hk]
          have hb := pt2.mpr hk
          rw [if_pos (by rw [hE]; decide), hE]
          by_cases m7 : nmT t n i < 7
          · have n7 : (nmT t n i < 7) = True := eq_true m7
            by_cases m0 : nmT t n i < 0
            · have n0 : (nmT t n i < 0) = True := eq_true m0
              simp (decide := true) only [f_X2_readPart, f_X2_readPart_39, f_X2_readPart_62, f_X2_readPart_76, f_X2_readPart_77, f_X2_readPart_91, hnm, hkd, h2, h3', c3, c2, n7, n0, hfl 2, isO_s, gI_s, gA_s, gL_s, pI_s, pZ_s, pL_s, aI_s, aL_s, aN_s, aQ_s, sI_s, sL_s, cr, LNs, Option.map_some, Option.map_none, Option.bind_some, b2, tr, lt, if_true, if_false, ckZ, X_within, M_in, inR_z, X_refuse, X_tell, X_deny, X_grant, M_refused, M_denied, M_done, M_granted, u2_same, u2_ne, u2_u2, upd_same, upd_ne, aW0, ixR_z, ixR_1, M_isWall, M_isPainter, M_isWork, X_has4, X_has10, X_at, or_false, false_or, or_true, true_or, not_true, not_false_iff, Option.isSome_some, isO_d, gI_d, gA_d, pI_d, ne_eq, not_false_eq_true, u2_hi, u2_hj, u2_dyn, u2_dynj, Nat.reduceAdd, mX_r, mX_rD, mX_rDj, mM_r, mX_u, mX_uM, mX_uD, mX_uDj, mM_u, mM_uX, mM_uD, mM_uDj, u2_dd, u2_d0, u2_0d]
            · have n0 : (nmT t n i < 0) = False := eq_false m0
              have n6 : ((6 : Int32) < nmT t n i) = True := eq_true (hb.resolve_left m0)
              simp (decide := true) only [f_X2_readPart, f_X2_readPart_39, f_X2_readPart_62, f_X2_readPart_76, f_X2_readPart_77, f_X2_readPart_91, hnm, hkd, h2, h3', c3, c2, n7, n0, n6, hfl 2, isO_s, gI_s, gA_s, gL_s, pI_s, pZ_s, pL_s, aI_s, aL_s, aN_s, aQ_s, sI_s, sL_s, cr, LNs, Option.map_some, Option.map_none, Option.bind_some, b2, tr, lt, if_true, if_false, ckZ, X_within, M_in, inR_z, X_refuse, X_tell, X_deny, X_grant, M_refused, M_denied, M_done, M_granted, u2_same, u2_ne, u2_u2, upd_same, upd_ne, aW0, ixR_z, ixR_1, M_isWall, M_isPainter, M_isWork, X_has4, X_has10, X_at, or_false, false_or, or_true, true_or, not_true, not_false_iff, Option.isSome_some, isO_d, gI_d, gA_d, pI_d, ne_eq, not_false_eq_true, u2_hi, u2_hj, u2_dyn, u2_dynj, Nat.reduceAdd, mX_r, mX_rD, mX_rDj, mM_r, mX_u, mX_uM, mX_uD, mX_uDj, mM_u, mM_uX, mM_uD, mM_uDj, u2_dd, u2_d0, u2_0d]
          · have n7 : (nmT t n i < 7) = False := eq_false m7
            have n13 : (nmT t n i ≤ 13) = False := eq_false (fun q => absurd (hbad.resolve_left m7) (Int32.not_lt.mpr q))
            have m0 : ¬ nmT t n i < 0 := fun q => m7 (Int32.lt_trans q (by decide))
            have n0 : (nmT t n i < 0) = False := eq_false m0
            have n6 : ((6 : Int32) < nmT t n i) = True := eq_true (hb.resolve_left m0)
            simp (decide := true) only [f_X2_readPart, f_X2_readPart_39, f_X2_readPart_62, f_X2_readPart_76, f_X2_readPart_77, f_X2_readPart_91, hnm, hkd, h2, h3', c3, c2, n7, n13, n0, n6, hfl 2, isO_s, gI_s, gA_s, gL_s, pI_s, pZ_s, pL_s, aI_s, aL_s, aN_s, aQ_s, sI_s, sL_s, cr, LNs, Option.map_some, Option.map_none, Option.bind_some, b2, tr, lt, if_true, if_false, ckZ, X_within, M_in, inR_z, X_refuse, X_tell, X_deny, X_grant, M_refused, M_denied, M_done, M_granted, u2_same, u2_ne, u2_u2, upd_same, upd_ne, aW0, ixR_z, ixR_1, M_isWall, M_isPainter, M_isWork, X_has4, X_has10, X_at, or_false, false_or, or_true, true_or, not_true, not_false_iff, Option.isSome_some, isO_d, gI_d, gA_d, pI_d, ne_eq, not_false_eq_true, u2_hi, u2_hj, u2_dyn, u2_dynj, Nat.reduceAdd, mX_r, mX_rD, mX_rDj, mM_r, mX_u, mX_uM, mX_uD, mX_uDj, mM_u, mM_uX, mM_uD, mM_uDj, u2_dd, u2_d0, u2_0d]
    · have hE : ptE t n i = 1 := by unfold ptE; rw [if_neg c3, if_neg c2]
      rw [if_pos (by rw [hE]; decide), hE]
      simp (decide := true) only [f_X2_readPart, hnm, hkd, h2, c2, h3', c3, hfl 1, isO_s, gI_s, gA_s, gL_s, pI_s, pZ_s, pL_s, aI_s, aL_s, aN_s, aQ_s, sI_s, sL_s, cr, LNs, Option.map_some, Option.map_none, Option.bind_some, b2, tr, lt, if_true, if_false, ckZ, X_within, M_in, inR_z, X_refuse, X_tell, X_deny, X_grant, M_refused, M_denied, M_done, M_granted, u2_same, u2_ne, u2_u2, upd_same, upd_ne, aW0, ixR_z, ixR_1, M_isWall, M_isPainter, M_isWork, X_has4, X_has10, X_at, or_false, false_or, or_true, true_or, not_true, not_false_iff, Option.isSome_some, isO_d, gI_d, gA_d, pI_d, ne_eq, not_false_eq_true, u2_hi, u2_hj, u2_dyn, u2_dynj, Nat.reduceAdd, mX_r, mX_rD, mX_rDj, mM_r, mX_u, mX_uM, mX_uD, mX_uDj, mM_u, mM_uX, mM_uD, mM_uDj, u2_dd, u2_d0, u2_0d]
end SUM6
