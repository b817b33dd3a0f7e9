/-! ===== give: which walls, and are they free ===== -/
theorem sh_16 : ∀ n, n < 17 → (1 : Int32) <<< (Int32.ofNat n &&& 31) = Int32.ofNat (2 ^ n) ∧ 2 ^ n ≤ 65536 := by decide +kernel
theorem oN_sshr {s n : Nat} (hs : s < 2147483648) (hn : n < 32) : Int32.ofNat s >>> (Int32.ofNat n &&& 31) = Int32.ofNat (s >>> n) := by
  refine b_ext ?_
  intro i hi
  have hle := Nat.shiftRight_le s n
  rw [b_sshr n hn _ hi, bt_oN (by omega) hi, Nat.testBit_shiftRight]
  by_cases h : n + i < 32
  · rw [if_pos h, bt_oN hs h]
  · rw [if_neg h, bt_oN hs (by omega), Nat.testBit_lt_two_pow (show s < 2 ^ 31 by omega)]
    have : 2 ^ 31 ≤ 2 ^ (n + i) := Nat.pow_le_pow_right (by omega) (by omega)
    rw [Nat.testBit_lt_two_pow (by omega)]
theorem shr_z {s n : Nat} (hs : s < 2147483648) (hn : n < 32) : (Int32.ofNat s >>> (Int32.ofNat n &&& 31) = 0) = (s < 2 ^ n) := by
  apply propext
  have hle := Nat.shiftRight_le s n
  rw [oN_sshr hs hn, show (0 : Int32) = Int32.ofNat 0 from rfl, oN_eq (by omega) (by omega), Nat.shiftRight_eq_div_pow]
  have hp : 0 < 2 ^ n := Nat.two_pow_pos n
  constructor
  · intro h
    exact (Nat.div_eq_zero_iff.mp h).resolve_left (by omega)
  · exact fun h => Nat.div_eq_of_lt h
/-- the cases of a set of walls -/
theorem setCase (p : Int32) {n : Nat} (hn : n ≤ 16) : (p ≤ 0) ∨ (¬ p ≤ 0 ∧ ¬ (p >>> (Int32.ofNat n &&& 31) = 0) ∧ ¬ (p < (1 : Int32) <<< (Int32.ofNat n &&& 31))) ∨ ∃ s, 0 < s ∧ s < 2 ^ n ∧ s < 65536 ∧ p = Int32.ofNat s ∧ ¬ p ≤ 0 ∧ p >>> (Int32.ofNat n &&& 31) = 0 ∧ p < (1 : Int32) <<< (Int32.ofNat n &&& 31) := by
  by_cases h0 : p ≤ 0
  · exact Or.inl h0
  have h1 : ¬ p < 0 := fun q => h0 (Int32.le_of_lt q)
  obtain ⟨s, hs, rfl⟩ := nn_oN h1
  obtain ⟨e1, e2⟩ := sh_16 n (by omega)
  have hz := shr_z (s := s) (n := n) hs (by omega)
  have hl : (Int32.ofNat s < Int32.ofNat (2 ^ n)) ↔ s < 2 ^ n := oN_lt hs (by omega)
  rw [e1, hz, hl]
  by_cases h : s < 2 ^ n
  · refine Or.inr (Or.inr ⟨s, ?_, h, by omega, rfl, h0, h, h⟩)
    refine Nat.pos_of_ne_zero ?_
    intro q
    subst q
    exact h0 (Int32.le_refl _)
  · exact Or.inr (Or.inl ⟨h0, h, h⟩)
/-- are the asked walls free, from the i-th on -/
def frV (s : Nat) (y : Int32) (m77 m78 m80 : RW) : Nat → Nat → Int32
  | 0, _ => 1
  | m + 1, i => if s.testBit i = true ∧ (inR y (m77 i) (m78 i) = 0 ∨ m80 i ≠ -2) then 0 else frV s y m77 m78 m80 m (i + 1)
theorem inR_01 {p a c : Int32} (h : ¬ inR p a c = 0) : inR p a c = 1 := by
  unfold inR at h ⊢
  split at h
  · exact absurd rfl h
  · split at h
    · exact absurd rfl h
    · rename_i h7 h8; rw [if_neg h7, if_neg h8]
section GIV2
variable {b : Nat} {F : Nat → Option AE} {D E : Nat → Option KD} {I : Nat → Nat → Int32} {L : Nat → Nat → Int64} {P : Nat → Nat → Option Nat} {nx us : Nat}
theorem X_free {nw s : Nat} {y : Int32} {q wd hg ow : Nat → Nat} {m77 m78 m80 : RW} (hs : s < 65536) (hn1 : I 1 1 = Int32.ofNat nw) (h16 : nw ≤ 16) (hA : WA nw q wd hg ow E (P 2)) (hy : I 13 14 / 365 = y) (hl : ∀ w, w < nw → inR y (I (149 + q w) 4) (I (149 + q w) 5) = inR y (m77 w) (m78 w)) (ho : ∀ w, w < nw → I (149 + q w) 8 = m80 w) : ∀ (m i : Nat), i + m = nw → ∀ fu, m < fu → f_X3_areFree_2 fu (ad b 26) (Int32.ofNat s) (Int32.ofNat i) (lay b F E I L P nx us) = some (frV s y m77 m78 m80 m i, (lay b F E I L P nx us)) := by
  intro m
  induction m with
  | zero =>
    intro i hi fu hf
    obtain ⟨fu, rfl⟩ : ∃ f, fu = f + 1 := ⟨fu - 1, by omega⟩
    have : i = nw := by omega
    subst this
    simp (decide := true) only [f_X3_areFree_2, hn1, Int32.le_refl, isO_s, gI_s, gA_s, gL_s, pI_s, pZ_s, pL_s, aI_s, aL_s, aN_s, aQ_s, sI_s, sL_s, cr, LNs, Option.map_some, Option.map_none, Option.bind_some, b2, tr, lt, if_true, if_false, ckZ, X_within, M_in, inR_z, X_refuse, X_tell, X_deny, X_grant, M_refused, M_denied, M_done, M_granted, u2_same, u2_ne, u2_u2, upd_same, upd_ne, aW0, ixR_z, ixR_1, M_isWall, M_isPainter, M_isWork, X_has4, X_has10, X_at, or_false, false_or, or_true, true_or, not_true, not_false_iff, Option.isSome_some, isO_d, gI_d, gA_d, pI_d, ne_eq, not_false_eq_true, u2_hi, u2_hj, u2_dyn, u2_dynj, Nat.reduceAdd, mX_r, mX_rD, mX_rDj, mM_r, mX_u, mX_uM, mX_uD, mX_uDj, mM_u, mM_uX, mM_uD, mM_uDj, u2_dd, u2_d0, u2_0d]
    rfl
  | succ m ih =>
    intro i hi fu hf
    obtain ⟨fu, rfl⟩ : ∃ f, fu = f + 1 := ⟨fu - 1, by omega⟩
    have hw : i < nw := by omega
    have e2 := oN_leF hw (by omega)
    have hwa := wAt_w hn1 h16 hA hw
    rw [hn1] at hwa
    obtain ⟨-, hK, -⟩ := hA i hw
    obtain ⟨k0, -⟩ := WKk hK
    have t1 := tb1 (s := s) (k := i) (by omega) (by omega)
    have ih' := ih (i + 1) (by omega) fu (by omega)
    unfold frV
    by_cases hb : s.testBit i = true
    · by_cases h1 : inR y (m77 i) (m78 i) = 0
      · simp (decide := true) only [f_X3_areFree_2, f_X3_areFree_36, f_X3_areFree_70, f_X3_areFree_72, f_X10_year, X_hasLeave, hn1, e2, hwa, k0, t1, hb, hy, hl i hw, h1, true_and, isO_s, gI_s, gA_s, gL_s, pI_s, pZ_s, pL_s, aI_s, aL_s, aN_s, aQ_s, sI_s, sL_s, cr, LNs, Option.map_some, Option.map_none, Option.bind_some, b2, tr, lt, if_true, if_false, ckZ, X_within, M_in, X_refuse, X_tell, X_deny, X_grant, M_refused, M_denied, M_done, M_granted, u2_same, u2_ne, u2_u2, upd_same, upd_ne, aW0, ixR_z, ixR_1, M_isWall, M_isPainter, M_isWork, X_has4, X_has10, X_at, or_false, false_or, or_true, true_or, not_true, not_false_iff, Option.isSome_some, isO_d, gI_d, gA_d, pI_d, ne_eq, not_false_eq_true, u2_hi, u2_hj, u2_dyn, u2_dynj, Nat.reduceAdd, mX_r, mX_rD, mX_rDj, mM_r, mX_u, mX_uM, mX_uD, mX_uDj, mM_u, mM_uX, mM_uD, mM_uDj, u2_dd, u2_d0, u2_0d]
      · by_cases h2 : m80 i = -2
        · simp (decide := true) only [f_X3_areFree_2, f_X3_areFree_36, f_X3_areFree_70, f_X3_areFree_72, f_X10_year, X_hasLeave, hn1, e2, hwa, k0, t1, hb, hy, hl i hw, ho i hw, h1, h2, oN_succ, ih', true_and, isO_s, gI_s, gA_s, gL_s, pI_s, pZ_s, pL_s, aI_s, aL_s, aN_s, aQ_s, sI_s, sL_s, cr, LNs, Option.map_some, Option.map_none, Option.bind_some, b2, tr, lt, if_true, if_false, ckZ, X_within, M_in, X_refuse, X_tell, X_deny, X_grant, M_refused, M_denied, M_done, M_granted, u2_same, u2_ne, u2_u2, upd_same, upd_ne, aW0, ixR_z, ixR_1, M_isWall, M_isPainter, M_isWork, X_has4, X_has10, X_at, or_false, false_or, or_true, true_or, not_true, not_false_iff, Option.isSome_some, isO_d, gI_d, gA_d, pI_d, ne_eq, not_false_eq_true, u2_hi, u2_hj, u2_dyn, u2_dynj, Nat.reduceAdd, mX_r, mX_rD, mX_rDj, mM_r, mX_u, mX_uM, mX_uD, mX_uDj, mM_u, mM_uX, mM_uD, mM_uDj, u2_dd, u2_d0, u2_0d]
        · simp (decide := true) only [f_X3_areFree_2, f_X3_areFree_36, f_X3_areFree_70, f_X3_areFree_72, f_X10_year, X_hasLeave, hn1, e2, hwa, k0, t1, hb, hy, hl i hw, ho i hw, h1, h2, oN_succ, ih', true_and, isO_s, gI_s, gA_s, gL_s, pI_s, pZ_s, pL_s, aI_s, aL_s, aN_s, aQ_s, sI_s, sL_s, cr, LNs, Option.map_some, Option.map_none, Option.bind_some, b2, tr, lt, if_true, if_false, ckZ, X_within, M_in, X_refuse, X_tell, X_deny, X_grant, M_refused, M_denied, M_done, M_granted, u2_same, u2_ne, u2_u2, upd_same, upd_ne, aW0, ixR_z, ixR_1, M_isWall, M_isPainter, M_isWork, X_has4, X_has10, X_at, or_false, false_or, or_true, true_or, not_true, not_false_iff, Option.isSome_some, isO_d, gI_d, gA_d, pI_d, ne_eq, not_false_eq_true, u2_hi, u2_hj, u2_dyn, u2_dynj, Nat.reduceAdd, mX_r, mX_rD, mX_rDj, mM_r, mX_u, mX_uM, mX_uD, mX_uDj, mM_u, mM_uX, mM_uD, mM_uDj, u2_dd, u2_d0, u2_0d]
    · have hb' : (s.testBit i = true) = False := eq_false hb
      simp (decide := true) only [f_X3_areFree_2, f_X3_areFree_36, f_X3_areFree_70, f_X3_areFree_72, hn1, e2, hwa, k0, t1, hb', oN_succ, ih', false_and, isO_s, gI_s, gA_s, gL_s, pI_s, pZ_s, pL_s, aI_s, aL_s, aN_s, aQ_s, sI_s, sL_s, cr, LNs, Option.map_some, Option.map_none, Option.bind_some, b2, tr, lt, if_true, if_false, ckZ, X_within, M_in, X_refuse, X_tell, X_deny, X_grant, M_refused, M_denied, M_done, M_granted, u2_same, u2_ne, u2_u2, upd_same, upd_ne, aW0, ixR_z, ixR_1, M_isWall, M_isPainter, M_isWork, X_has4, X_has10, X_at, or_false, false_or, or_true, true_or, not_true, not_false_iff, Option.isSome_some, isO_d, gI_d, gA_d, pI_d, ne_eq, not_false_eq_true, u2_hi, u2_hj, u2_dyn, u2_dynj, Nat.reduceAdd, mX_r, mX_rD, mX_rDj, mM_r, mX_u, mX_uM, mX_uD, mX_uDj, mM_u, mM_uX, mM_uD, mM_uDj, u2_dd, u2_d0, u2_0d]
theorem M_free0 {nw s : Nat} (hn2 : I 72 4 = Int32.ofNat nw) (h16 : nw ≤ 16) : ∀ (m i : Nat), i + m = nw → ∀ fu, m < fu → f_X15_give_29 fu (ad b 72) (Int32.ofNat s) 0 (Int32.ofNat i) (lay b F E I L P nx us) = some (-1, lay b F E (u2 I 72 (mE (I 72) 5)) L P nx us) := by
  intro m
  induction m with
  | zero =>
    intro i hi fu hf
    obtain ⟨fu, rfl⟩ : ∃ f, fu = f + 1 := ⟨fu - 1, by omega⟩
    have : i = nw := by omega
    subst this
    simp (decide := true) only [f_X15_give_29, hn2, Int32.le_refl, isO_s, gI_s, gA_s, gL_s, pI_s, pZ_s, pL_s, aI_s, aL_s, aN_s, aQ_s, sI_s, sL_s, cr, LNs, Option.map_some, Option.map_none, Option.bind_some, b2, tr, lt, if_true, if_false, ckZ, X_within, M_in, inR_z, X_refuse, X_tell, X_deny, X_grant, M_refused, M_denied, M_done, M_granted, u2_same, u2_ne, u2_u2, upd_same, upd_ne, aW0, ixR_z, ixR_1, M_isWall, M_isPainter, M_isWork, X_has4, X_has10, X_at, or_false, false_or, or_true, true_or, not_true, not_false_iff, Option.isSome_some, isO_d, gI_d, gA_d, pI_d, ne_eq, not_false_eq_true, u2_hi, u2_hj, u2_dyn, u2_dynj, Nat.reduceAdd, mX_r, mX_rD, mX_rDj, mM_r, mX_u, mX_uM, mX_uD, mX_uDj, mM_u, mM_uX, mM_uD, mM_uDj, u2_dd, u2_d0, u2_0d]
  | succ m ih =>
    intro i hi fu hf
    obtain ⟨fu, rfl⟩ : ∃ f, fu = f + 1 := ⟨fu - 1, by omega⟩
    have e2 := oN_leF (show i < nw by omega) (by omega)
    have ih' := ih (i + 1) (by omega) fu (by omega)
    simp (decide := true) only [f_X15_give_29, f_X15_give_72, f_X15_give_73, hn2, e2, oN_succ, ih', isO_s, gI_s, gA_s, gL_s, pI_s, pZ_s, pL_s, aI_s, aL_s, aN_s, aQ_s, sI_s, sL_s, cr, LNs, Option.map_some, Option.map_none, Option.bind_some, b2, tr, lt, if_true, if_false, ckZ, X_within, M_in, inR_z, X_refuse, X_tell, X_deny, X_grant, M_refused, M_denied, M_done, M_granted, u2_same, u2_ne, u2_u2, upd_same, upd_ne, aW0, ixR_z, ixR_1, M_isWall, M_isPainter, M_isWork, X_has4, X_has10, X_at, or_false, false_or, or_true, true_or, not_true, not_false_iff, Option.isSome_some, isO_d, gI_d, gA_d, pI_d, ne_eq, not_false_eq_true, u2_hi, u2_hj, u2_dyn, u2_dynj, Nat.reduceAdd, mX_r, mX_rD, mX_rDj, mM_r, mX_u, mX_uM, mX_uD, mX_uDj, mM_u, mM_uX, mM_uD, mM_uDj, u2_dd, u2_d0, u2_0d]
theorem M_free {nw s : Nat} (hs : s < 65536) (hn2 : I 72 4 = Int32.ofNat nw) (h16 : nw ≤ 16) : ∀ (m i : Nat), i + m = nw → ∀ fu, m < fu → f_X15_give_29 fu (ad b 72) (Int32.ofNat s) 1 (Int32.ofNat i) (lay b F E I L P nx us) = if frV s (I 72 5 / 365) (I 77) (I 78) (I 80) m i = 0 then some (-1, lay b F E (u2 I 72 (mE (I 72) 5)) L P nx us) else if Int32.ofNat (bcN s) ≤ 6 then f_X15_give_113 FU (ad b 72) (Int32.ofNat s) 0 (lay b F E (u2 I 72 (upd (I 72) 72 0)) L P nx us) else some (-1, lay b F E (u2 I 72 (mE (I 72) 6)) L P nx us) := by
  intro m
  induction m with
  | zero =>
    intro i hi fu hf
    obtain ⟨fu, rfl⟩ : ∃ f, fu = f + 1 := ⟨fu - 1, by omega⟩
    have : i = nw := by omega
    subst this
    have e1 : ((1 : Int32) = 0) = False := by decide
    unfold frV
    by_cases h6 : Int32.ofNat (bcN s) ≤ 6
    · simp (decide := true) only [f_X15_give_29, hn2, Int32.le_refl, M_bits16 hs, h6, e1, isO_s, gI_s, gA_s, gL_s, pI_s, pZ_s, pL_s, aI_s, aL_s, aN_s, aQ_s, sI_s, sL_s, cr, LNs, Option.map_some, Option.map_none, Option.bind_some, b2, tr, lt, if_true, if_false, ckZ, X_within, M_in, inR_z, X_refuse, X_tell, X_deny, X_grant, M_refused, M_denied, M_done, M_granted, u2_same, u2_ne, u2_u2, upd_same, upd_ne, aW0, ixR_z, ixR_1, M_isWall, M_isPainter, M_isWork, X_has4, X_has10, X_at, or_false, false_or, or_true, true_or, not_true, not_false_iff, Option.isSome_some, isO_d, gI_d, gA_d, pI_d, ne_eq, not_false_eq_true, u2_hi, u2_hj, u2_dyn, u2_dynj, Nat.reduceAdd, mX_r, mX_rD, mX_rDj, mM_r, mX_u, mX_uM, mX_uD, mX_uDj, mM_u, mM_uX, mM_uD, mM_uDj, u2_dd, u2_d0, u2_0d]
    · simp (decide := true) only [f_X15_give_29, hn2, Int32.le_refl, M_bits16 hs, h6, e1, isO_s, gI_s, gA_s, gL_s, pI_s, pZ_s, pL_s, aI_s, aL_s, aN_s, aQ_s, sI_s, sL_s, cr, LNs, Option.map_some, Option.map_none, Option.bind_some, b2, tr, lt, if_true, if_false, ckZ, X_within, M_in, inR_z, X_refuse, X_tell, X_deny, X_grant, M_refused, M_denied, M_done, M_granted, u2_same, u2_ne, u2_u2, upd_same, upd_ne, aW0, ixR_z, ixR_1, M_isWall, M_isPainter, M_isWork, X_has4, X_has10, X_at, or_false, false_or, or_true, true_or, not_true, not_false_iff, Option.isSome_some, isO_d, gI_d, gA_d, pI_d, ne_eq, not_false_eq_true, u2_hi, u2_hj, u2_dyn, u2_dynj, Nat.reduceAdd, mX_r, mX_rD, mX_rDj, mM_r, mX_u, mX_uM, mX_uD, mX_uDj, mM_u, mM_uX, mM_uD, mM_uDj, u2_dd, u2_d0, u2_0d]
  | succ m ih =>
    intro i hi fu hf
    obtain ⟨fu, rfl⟩ : ∃ f, fu = f + 1 := ⟨fu - 1, by omega⟩
    have hw : i < nw := by omega
    have e2 := oN_leF hw (by omega)
    have e3 : iN (Int32.ofNat i) 16 = some i := iN_oN (by omega) (by omega)
    have t0 := tb0 (s := s) (k := i) (by omega) (by omega)
    have ih' := ih (i + 1) (by omega) fu (by omega)
    have ih0 := M_free0 (b := b) (F := F) (E := E) (L := L) (P := P) (nx := nx) (us := us) (I := I) (s := s) hn2 h16 m (i + 1) (by omega) fu (by omega)
    have e1 : ((1 : Int32) = 0) = False := by decide
    unfold frV
    by_cases hb : s.testBit i = true
    · have hb' : (s.testBit i = false) = False := by rw [hb]; decide
      by_cases h1 : inR (I 72 5 / 365) (I 77 i) (I 78 i) = 0
      · simp (decide := true) only [f_X15_give_29, f_X15_give_68, f_X15_give_72, f_X15_give_73, f_X15_hasLeave, f_X15_year, hn2, e2, e3, t0, hb, hb', h1, oN_succ, ih0, true_and, e1, isO_s, gI_s, gA_s, gL_s, pI_s, pZ_s, pL_s, aI_s, aL_s, aN_s, aQ_s, sI_s, sL_s, cr, LNs, Option.map_some, Option.map_none, Option.bind_some, b2, tr, lt, if_true, if_false, ckZ, X_within, M_in, X_refuse, X_tell, X_deny, X_grant, M_refused, M_denied, M_done, M_granted, u2_same, u2_ne, u2_u2, upd_same, upd_ne, aW0, ixR_z, ixR_1, M_isWall, M_isPainter, M_isWork, X_has4, X_has10, X_at, or_false, false_or, or_true, true_or, not_true, not_false_iff, Option.isSome_some, isO_d, gI_d, gA_d, pI_d, ne_eq, not_false_eq_true, u2_hi, u2_hj, u2_dyn, u2_dynj, Nat.reduceAdd, mX_r, mX_rD, mX_rDj, mM_r, mX_u, mX_uM, mX_uD, mX_uDj, mM_u, mM_uX, mM_uD, mM_uDj, u2_dd, u2_d0, u2_0d]
      · have h1' := inR_01 h1
        by_cases h2 : I 80 i = -2
        · simp (decide := true) only [f_X15_give_29, f_X15_give_68, f_X15_give_72, f_X15_give_73, f_X15_hasLeave, f_X15_year, hn2, e2, e3, t0, hb, hb', h1', h2, oN_succ, ih', true_and, e1, isO_s, gI_s, gA_s, gL_s, pI_s, pZ_s, pL_s, aI_s, aL_s, aN_s, aQ_s, sI_s, sL_s, cr, LNs, Option.map_some, Option.map_none, Option.bind_some, b2, tr, lt, if_true, if_false, ckZ, X_within, M_in, X_refuse, X_tell, X_deny, X_grant, M_refused, M_denied, M_done, M_granted, u2_same, u2_ne, u2_u2, upd_same, upd_ne, aW0, ixR_z, ixR_1, M_isWall, M_isPainter, M_isWork, X_has4, X_has10, X_at, or_false, false_or, or_true, true_or, not_true, not_false_iff, Option.isSome_some, isO_d, gI_d, gA_d, pI_d, ne_eq, not_false_eq_true, u2_hi, u2_hj, u2_dyn, u2_dynj, Nat.reduceAdd, mX_r, mX_rD, mX_rDj, mM_r, mX_u, mX_uM, mX_uD, mX_uDj, mM_u, mM_uX, mM_uD, mM_uDj, u2_dd, u2_d0, u2_0d]
        · simp (decide := true) only [f_X15_give_29, f_X15_give_68, f_X15_give_72, f_X15_give_73, f_X15_hasLeave, f_X15_year, hn2, e2, e3, t0, hb, hb', h1', h2, oN_succ, ih0, true_and, e1, isO_s, gI_s, gA_s, gL_s, pI_s, pZ_s, pL_s, aI_s, aL_s, aN_s, aQ_s, sI_s, sL_s, cr, LNs, Option.map_some, Option.map_none, Option.bind_some, b2, tr, lt, if_true, if_false, ckZ, X_within, M_in, X_refuse, X_tell, X_deny, X_grant, M_refused, M_denied, M_done, M_granted, u2_same, u2_ne, u2_u2, upd_same, upd_ne, aW0, ixR_z, ixR_1, M_isWall, M_isPainter, M_isWork, X_has4, X_has10, X_at, or_false, false_or, or_true, true_or, not_true, not_false_iff, Option.isSome_some, isO_d, gI_d, gA_d, pI_d, ne_eq, not_false_eq_true, u2_hi, u2_hj, u2_dyn, u2_dynj, Nat.reduceAdd, mX_r, mX_rD, mX_rDj, mM_r, mX_u, mX_uM, mX_uD, mX_uDj, mM_u, mM_uX, mM_uD, mM_uDj, u2_dd, u2_d0, u2_0d]
    · have hb1 : (s.testBit i = true) = False := eq_false hb
      have hb' : (s.testBit i = false) = True := eq_true (by revert hb; cases s.testBit i <;> decide)
      simp (decide := true) only [f_X15_give_29, f_X15_give_68, f_X15_give_72, f_X15_give_73, hn2, e2, e3, t0, hb', hb1, oN_succ, ih', false_and, e1, isO_s, gI_s, gA_s, gL_s, pI_s, pZ_s, pL_s, aI_s, aL_s, aN_s, aQ_s, sI_s, sL_s, cr, LNs, Option.map_some, Option.map_none, Option.bind_some, b2, tr, lt, if_true, if_false, ckZ, X_within, M_in, X_refuse, X_tell, X_deny, X_grant, M_refused, M_denied, M_done, M_granted, u2_same, u2_ne, u2_u2, upd_same, upd_ne, aW0, ixR_z, ixR_1, M_isWall, M_isPainter, M_isWork, X_has4, X_has10, X_at, or_false, false_or, or_true, true_or, not_true, not_false_iff, Option.isSome_some, isO_d, gI_d, gA_d, pI_d, ne_eq, not_false_eq_true, u2_hi, u2_hj, u2_dyn, u2_dynj, Nat.reduceAdd, mX_r, mX_rD, mX_rDj, mM_r, mX_u, mX_uM, mX_uD, mX_uDj, mM_u, mM_uX, mM_uD, mM_uDj, u2_dd, u2_d0, u2_0d]
end GIV2
