/-! ===== bar ===== -/
theorem X_letter (x : Int32) (h : AH) : f_X7_isLetter x h = some (inR x 97 122, h) := by
  unfold inR
  simp only [f_X7_isLetter, f_X7_isLetter_16, f_X7_isLetter_17, ckZ]
  split
  · rfl
  · split <;> rfl
theorem M_letter (x : Int32) (h : AH) : f_X15_isLetter x h = some (inR x 97 122, h) := by
  unfold inR
  simp only [f_X15_isLetter, f_X15_isLetter_16, f_X15_isLetter_17, ckZ]
  split
  · rfl
  · split <;> rfl
/-- the first k letters, five bits each -/
def pkF (T : RW) : Nat → Int64
  | 0 => Int64.ofNat 0
  | k + 1 => (32 : Int64) * pkF T k + ((T k - 97) + 1).toInt64
theorem pkF_congr {T U : RW} : ∀ (k : Nat), (∀ j, j < k → T j = U j) → pkF T k = pkF U k := by
  intro k
  induction k with
  | zero => intro h; rfl
  | succ k ih =>
    intro h
    show (32 : Int64) * pkF T k + ((T k - 97) + 1).toInt64 = (32 : Int64) * pkF U k + ((U k - 97) + 1).toInt64
    rw [ih (fun j hj => h j (by omega)), h k (by omega)]
/-- the bars of both sides -/
def GBar (nb : Nat) (x53 m105 : Nat → Int64) : Prop := ∀ k, k < nb → x53 k = m105 k
theorem inR_2 (p a c : Int32) : inR p a c = 0 ∨ inR p a c = 1 := by
  unfold inR
  split
  · exact Or.inl rfl
  · split
    · exact Or.inl rfl
    · exact Or.inr rfl
section BAR
variable {b : Nat} {F : Nat → Option AE} {D E : Nat → Option KD} {I : Nat → Nat → Int32} {L : Nat → Nat → Int64} {P : Nat → Nat → Option Nat} {nx us : Nat}
theorem X_ahead {n : Nat} (hn : n ≤ 400) : f_X11_lettersAhead (ad b 0) (Int32.ofNat n) (lay b F E I L P nx us) = some (Int32.ofNat (fnd (fun k => inR (I 39 k) 97 122 = 0) 0 (min n 8)), (lay b F E I L P nx us)) := by
  simp (decide := true) only [f_X11_lettersAhead_31, f_X11_lettersAhead, isO_s, gI_s, gA_s, gL_s, pI_s, pZ_s, pL_s, aI_s, aL_s, aN_s, aQ_s, sI_s, sL_s, cr, LNs, Option.map_some, Option.map_none, Option.bind_some, b2, tr, lt, if_true, if_false, ckZ, X_within, M_in, X_refuse, X_tell, X_deny, X_grant, M_refused, M_denied, M_done, M_granted, u2_same, u2_ne, u2_u2, upd_same, upd_ne, aW0, ixR_z, ixR_1, M_isWall, M_isPainter, M_isWork, X_has4, X_has10, X_at, or_false, false_or, or_true, true_or, not_true, not_false_iff, Option.isSome_some, isO_d, gI_d, gA_d, pI_d, ne_eq, not_false_eq_true, u2_hi, u2_hj, u2_dyn, u2_dynj, Nat.reduceAdd, mX_r, mX_rD, mX_rDj, mM_r, mX_u, mX_uM, mX_uD, mX_uDj, mM_u, mM_uX, mM_uD, mM_uDj, u2_dd, u2_d0, u2_0d]
  refine lp_find (T := fun f k => f_X11_lettersAhead_2 f (ad b 0) (Int32.ofNat n) k (lay b F E I L P nx us)) (R := fun k => some (Int32.ofNat k, (lay b F E I L P nx us))) (p := fun k => inR (I 39 k) 97 122 = 0) (N := min n 8) ?_ ?_ (min n 8) 0 FU (by omega) (by unfold FU; omega)
  · intro f
    by_cases h : n ≤ 8
    · rw [Nat.min_eq_left h]
      simp (decide := true) only [f_X11_lettersAhead_2, f_X11_lettersAhead_31, Int32.le_refl, isO_s, gI_s, gA_s, gL_s, pI_s, pZ_s, pL_s, aI_s, aL_s, aN_s, aQ_s, sI_s, sL_s, cr, LNs, Option.map_some, Option.map_none, Option.bind_some, b2, tr, lt, if_true, if_false, ckZ, X_within, M_in, inR_z, X_refuse, X_tell, X_deny, X_grant, M_refused, M_denied, M_done, M_granted, u2_same, u2_ne, u2_u2, upd_same, upd_ne, aW0, ixR_z, ixR_1, M_isWall, M_isPainter, M_isWork, X_has4, X_has10, X_at, or_false, false_or, or_true, true_or, not_true, not_false_iff, Option.isSome_some, isO_d, gI_d, gA_d, pI_d, ne_eq, not_false_eq_true, u2_hi, u2_hj, u2_dyn, u2_dynj, Nat.reduceAdd, mX_r, mX_rD, mX_rDj, mM_r, mX_u, mX_uM, mX_uD, mX_uDj, mM_u, mM_uX, mM_uD, mM_uDj, u2_dd, u2_d0, u2_0d]
    · rw [Nat.min_eq_right (by omega)]
      have e1 := oN_leF (show 8 < n by omega) (by omega)
      simp (decide := true) only [f_X11_lettersAhead_2, f_X11_lettersAhead_31, e1, isO_s, gI_s, gA_s, gL_s, pI_s, pZ_s, pL_s, aI_s, aL_s, aN_s, aQ_s, sI_s, sL_s, cr, LNs, Option.map_some, Option.map_none, Option.bind_some, b2, tr, lt, if_true, if_false, ckZ, X_within, M_in, inR_z, X_refuse, X_tell, X_deny, X_grant, M_refused, M_denied, M_done, M_granted, u2_same, u2_ne, u2_u2, upd_same, upd_ne, aW0, ixR_z, ixR_1, M_isWall, M_isPainter, M_isWork, X_has4, X_has10, X_at, or_false, false_or, or_true, true_or, not_true, not_false_iff, Option.isSome_some, isO_d, gI_d, gA_d, pI_d, ne_eq, not_false_eq_true, u2_hi, u2_hj, u2_dyn, u2_dynj, Nat.reduceAdd, mX_r, mX_rD, mX_rDj, mM_r, mX_u, mX_uM, mX_uD, mX_uDj, mM_u, mM_uX, mM_uD, mM_uDj, u2_dd, u2_d0, u2_0d]
  · intro f k hk
    have e1 := oN_leF (show k < n by omega) (by omega)
    have e2 : ((8 : Int32) ≤ Int32.ofNat k) = False := oN_leF (c := 8) (by omega) (by omega)
    have e3 : iN (Int32.ofNat k) 400 = some k := iN_oN (by omega) (by omega)
    show f_X11_lettersAhead_2 (f + 1) (ad b 0) (Int32.ofNat n) (Int32.ofNat k) (lay b F E I L P nx us) = _
    rcases inR_2 (I 39 k) 97 122 with h | h
    · rw [if_pos h]
      simp (decide := true) only [f_X11_lettersAhead_2, f_X11_lettersAhead_31, e1, e2, e3, X_letter, h, isO_s, gI_s, gA_s, gL_s, pI_s, pZ_s, pL_s, aI_s, aL_s, aN_s, aQ_s, sI_s, sL_s, cr, LNs, Option.map_some, Option.map_none, Option.bind_some, b2, tr, lt, if_true, if_false, ckZ, X_within, M_in, X_refuse, X_tell, X_deny, X_grant, M_refused, M_denied, M_done, M_granted, u2_same, u2_ne, u2_u2, upd_same, upd_ne, aW0, ixR_z, ixR_1, M_isWall, M_isPainter, M_isWork, X_has4, X_has10, X_at, or_false, false_or, or_true, true_or, not_true, not_false_iff, Option.isSome_some, isO_d, gI_d, gA_d, pI_d, ne_eq, not_false_eq_true, u2_hi, u2_hj, u2_dyn, u2_dynj, Nat.reduceAdd, mX_r, mX_rD, mX_rDj, mM_r, mX_u, mX_uM, mX_uD, mX_uDj, mM_u, mM_uX, mM_uD, mM_uDj, u2_dd, u2_d0, u2_0d]
    · rw [if_neg (by rw [h]; decide)]
      simp (decide := true) only [f_X11_lettersAhead_2, e1, e2, e3, X_letter, h, oN_succ, isO_s, gI_s, gA_s, gL_s, pI_s, pZ_s, pL_s, aI_s, aL_s, aN_s, aQ_s, sI_s, sL_s, cr, LNs, Option.map_some, Option.map_none, Option.bind_some, b2, tr, lt, if_true, if_false, ckZ, X_within, M_in, X_refuse, X_tell, X_deny, X_grant, M_refused, M_denied, M_done, M_granted, u2_same, u2_ne, u2_u2, upd_same, upd_ne, aW0, ixR_z, ixR_1, M_isWall, M_isPainter, M_isWork, X_has4, X_has10, X_at, or_false, false_or, or_true, true_or, not_true, not_false_iff, Option.isSome_some, isO_d, gI_d, gA_d, pI_d, ne_eq, not_false_eq_true, u2_hi, u2_hj, u2_dyn, u2_dynj, Nat.reduceAdd, mX_r, mX_rD, mX_rDj, mM_r, mX_u, mX_uM, mX_uD, mX_uDj, mM_u, mM_uX, mM_uD, mM_uDj, u2_dd, u2_d0, u2_0d]
theorem X_packed {n : Nat} (hn : n ≤ 400) : f_X11_packedWord (ad b 0) (Int32.ofNat n) (lay b F E I L P nx us) = some (pkF (I 39) n, (lay b F E I L P nx us)) := by
  have lp : ∀ (m k : Nat), k + m = n → ∀ fu, m < fu → f_X11_packedWord_5 fu (ad b 0) (Int32.ofNat n) (pkF (I 39) k) (Int32.ofNat k) (lay b F E I L P nx us) = some (pkF (I 39) n, (lay b F E I L P nx us)) := by
    intro m
    induction m with
    | zero =>
      intro k hk fu hfu
      obtain ⟨fu, rfl⟩ : ∃ z, fu = z + 1 := ⟨fu - 1, by omega⟩
      have : k = n := by omega
      subst this
      simp (decide := true) only [f_X11_packedWord_5, f_X11_packedWord_39, Int32.le_refl, isO_s, gI_s, gA_s, gL_s, pI_s, pZ_s, pL_s, aI_s, aL_s, aN_s, aQ_s, sI_s, sL_s, cr, LNs, Option.map_some, Option.map_none, Option.bind_some, b2, tr, lt, if_true, if_false, ckZ, X_within, M_in, inR_z, X_refuse, X_tell, X_deny, X_grant, M_refused, M_denied, M_done, M_granted, u2_same, u2_ne, u2_u2, upd_same, upd_ne, aW0, ixR_z, ixR_1, M_isWall, M_isPainter, M_isWork, X_has4, X_has10, X_at, or_false, false_or, or_true, true_or, not_true, not_false_iff, Option.isSome_some, isO_d, gI_d, gA_d, pI_d, ne_eq, not_false_eq_true, u2_hi, u2_hj, u2_dyn, u2_dynj, Nat.reduceAdd, mX_r, mX_rD, mX_rDj, mM_r, mX_u, mX_uM, mX_uD, mX_uDj, mM_u, mM_uX, mM_uD, mM_uDj, u2_dd, u2_d0, u2_0d]
    | succ m ih =>
      intro k hk fu hfu
      obtain ⟨fu, rfl⟩ : ∃ z, fu = z + 1 := ⟨fu - 1, by omega⟩
      have e1 := oN_leF (show k < n by omega) (by omega)
      have e2 := oN_leF (show k < 400 by omega) (by omega)
      have e3 : iN (Int32.ofNat k) 400 = some k := iN_oN (by omega) (by omega)
      rw [← ih (k + 1) (by omega) fu (by omega)]
      have e4 : pkF (I 39) k * 32 + (I 39 k - 97 + 1).toInt64 = pkF (I 39) (k + 1) := by
        show _ = (32 : Int64) * pkF (I 39) k + ((I 39 k - 97) + 1).toInt64
        rw [Int64.mul_comm]
      simp (decide := true) only [f_X11_packedWord_5, f_X7_withLetter, e1, e2, e3, e4, oN_succ, isO_s, gI_s, gA_s, gL_s, pI_s, pZ_s, pL_s, aI_s, aL_s, aN_s, aQ_s, sI_s, sL_s, cr, LNs, Option.map_some, Option.map_none, Option.bind_some, b2, tr, lt, if_true, if_false, ckZ, X_within, M_in, inR_z, X_refuse, X_tell, X_deny, X_grant, M_refused, M_denied, M_done, M_granted, u2_same, u2_ne, u2_u2, upd_same, upd_ne, aW0, ixR_z, ixR_1, M_isWall, M_isPainter, M_isWork, X_has4, X_has10, X_at, or_false, false_or, or_true, true_or, not_true, not_false_iff, Option.isSome_some, isO_d, gI_d, gA_d, pI_d, ne_eq, not_false_eq_true, u2_hi, u2_hj, u2_dyn, u2_dynj, Nat.reduceAdd, mX_r, mX_rD, mX_rDj, mM_r, mX_u, mX_uM, mX_uD, mX_uDj, mM_u, mM_uX, mM_uD, mM_uDj, u2_dd, u2_d0, u2_0d]
  simp (decide := true) only [f_X11_packedWord_39, f_X11_packedWord, isO_s, gI_s, gA_s, gL_s, pI_s, pZ_s, pL_s, aI_s, aL_s, aN_s, aQ_s, sI_s, sL_s, cr, LNs, Option.map_some, Option.map_none, Option.bind_some, b2, tr, lt, if_true, if_false, ckZ, X_within, M_in, inR_z, X_refuse, X_tell, X_deny, X_grant, M_refused, M_denied, M_done, M_granted, u2_same, u2_ne, u2_u2, upd_same, upd_ne, aW0, ixR_z, ixR_1, M_isWall, M_isPainter, M_isWork, X_has4, X_has10, X_at, or_false, false_or, or_true, true_or, not_true, not_false_iff, Option.isSome_some, isO_d, gI_d, gA_d, pI_d, ne_eq, not_false_eq_true, u2_hi, u2_hj, u2_dyn, u2_dynj, Nat.reduceAdd, mX_r, mX_rD, mX_rDj, mM_r, mX_u, mX_uM, mX_uD, mX_uDj, mM_u, mM_uX, mM_uD, mM_uDj, u2_dd, u2_d0, u2_0d]
  exact lp n 0 (by omega) FU (by unfold FU; omega)
theorem M_barL {n : Nat} (hn : n ≤ 400) : ∀ (m k : Nat), k + m = min n 8 → ∀ fu, m < fu → f_X15_bar_33 fu (ad b 72) (Int32.ofNat n) (Int32.ofNat k) (pkF (I 91) k) (lay b F E I L P nx us) = f_X15_bar_81 (ad b 72) (Int32.ofNat n) (Int32.ofNat (fnd (fun k => inR (I 91 k) 97 122 = 0) k m)) (pkF (I 91) (fnd (fun k => inR (I 91 k) 97 122 = 0) k m)) (lay b F E I L P nx us) := by
  intro m
  induction m with
  | zero =>
    intro k hk fu hfu
    obtain ⟨fu, rfl⟩ : ∃ z, fu = z + 1 := ⟨fu - 1, by omega⟩
    show _ = f_X15_bar_81 (ad b 72) (Int32.ofNat n) (Int32.ofNat k) (pkF (I 91) k) (lay b F E I L P nx us)
    by_cases h : n ≤ 8
    · have : k = n := by omega
      subst this
      simp (decide := true) only [f_X15_bar_33, Int32.le_refl, isO_s, gI_s, gA_s, gL_s, pI_s, pZ_s, pL_s, aI_s, aL_s, aN_s, aQ_s, sI_s, sL_s, cr, LNs, Option.map_some, Option.map_none, Option.bind_some, b2, tr, lt, if_true, if_false, ckZ, X_within, M_in, inR_z, X_refuse, X_tell, X_deny, X_grant, M_refused, M_denied, M_done, M_granted, u2_same, u2_ne, u2_u2, upd_same, upd_ne, aW0, ixR_z, ixR_1, M_isWall, M_isPainter, M_isWork, X_has4, X_has10, X_at, or_false, false_or, or_true, true_or, not_true, not_false_iff, Option.isSome_some, isO_d, gI_d, gA_d, pI_d, ne_eq, not_false_eq_true, u2_hi, u2_hj, u2_dyn, u2_dynj, Nat.reduceAdd, mX_r, mX_rD, mX_rDj, mM_r, mX_u, mX_uM, mX_uD, mX_uDj, mM_u, mM_uX, mM_uD, mM_uDj, u2_dd, u2_d0, u2_0d]
    · have : k = 8 := by omega
      subst this
      have e1 := oN_leF (show 8 < n by omega) (by omega)
      simp (decide := true) only [f_X15_bar_33, e1, isO_s, gI_s, gA_s, gL_s, pI_s, pZ_s, pL_s, aI_s, aL_s, aN_s, aQ_s, sI_s, sL_s, cr, LNs, Option.map_some, Option.map_none, Option.bind_some, b2, tr, lt, if_true, if_false, ckZ, X_within, M_in, inR_z, X_refuse, X_tell, X_deny, X_grant, M_refused, M_denied, M_done, M_granted, u2_same, u2_ne, u2_u2, upd_same, upd_ne, aW0, ixR_z, ixR_1, M_isWall, M_isPainter, M_isWork, X_has4, X_has10, X_at, or_false, false_or, or_true, true_or, not_true, not_false_iff, Option.isSome_some, isO_d, gI_d, gA_d, pI_d, ne_eq, not_false_eq_true, u2_hi, u2_hj, u2_dyn, u2_dynj, Nat.reduceAdd, mX_r, mX_rD, mX_rDj, mM_r, mX_u, mX_uM, mX_uD, mX_uDj, mM_u, mM_uX, mM_uD, mM_uDj, u2_dd, u2_d0, u2_0d]
  | succ m ih =>
    intro k hk fu hfu
    obtain ⟨fu, rfl⟩ : ∃ z, fu = z + 1 := ⟨fu - 1, by omega⟩
    have e1 := oN_leF (show k < n by omega) (by omega)
    have e2 : ((8 : Int32) ≤ Int32.ofNat k) = False := oN_leF (c := 8) (by omega) (by omega)
    have e3 : iN (Int32.ofNat k) 400 = some k := iN_oN (by omega) (by omega)
    have hd : fnd (fun k => inR (I 91 k) 97 122 = 0) k (m + 1) = if inR (I 91 k) 97 122 = 0 then k else fnd (fun k => inR (I 91 k) 97 122 = 0) (k + 1) m := rfl
    rw [hd]
    rcases inR_2 (I 91 k) 97 122 with h | h
    · rw [if_pos h]
      simp (decide := true) only [f_X15_bar_33, e1, e2, e3, M_letter, h, isO_s, gI_s, gA_s, gL_s, pI_s, pZ_s, pL_s, aI_s, aL_s, aN_s, aQ_s, sI_s, sL_s, cr, LNs, Option.map_some, Option.map_none, Option.bind_some, b2, tr, lt, if_true, if_false, ckZ, X_within, M_in, X_refuse, X_tell, X_deny, X_grant, M_refused, M_denied, M_done, M_granted, u2_same, u2_ne, u2_u2, upd_same, upd_ne, aW0, ixR_z, ixR_1, M_isWall, M_isPainter, M_isWork, X_has4, X_has10, X_at, or_false, false_or, or_true, true_or, not_true, not_false_iff, Option.isSome_some, isO_d, gI_d, gA_d, pI_d, ne_eq, not_false_eq_true, u2_hi, u2_hj, u2_dyn, u2_dynj, Nat.reduceAdd, mX_r, mX_rD, mX_rDj, mM_r, mX_u, mX_uM, mX_uD, mX_uDj, mM_u, mM_uX, mM_uD, mM_uDj, u2_dd, u2_d0, u2_0d]
    · rw [if_neg (by rw [h]; decide), ← ih (k + 1) (by omega) fu (by omega)]
      have e4 : (32 : Int64) * pkF (I 91) k + (I 91 k - 97 + 1).toInt64 = pkF (I 91) (k + 1) := rfl
      simp (decide := true) only [f_X15_bar_33, e1, e2, e3, M_letter, h, e4, oN_succ, isO_s, gI_s, gA_s, gL_s, pI_s, pZ_s, pL_s, aI_s, aL_s, aN_s, aQ_s, sI_s, sL_s, cr, LNs, Option.map_some, Option.map_none, Option.bind_some, b2, tr, lt, if_true, if_false, ckZ, X_within, M_in, X_refuse, X_tell, X_deny, X_grant, M_refused, M_denied, M_done, M_granted, u2_same, u2_ne, u2_u2, upd_same, upd_ne, aW0, ixR_z, ixR_1, M_isWall, M_isPainter, M_isWork, X_has4, X_has10, X_at, or_false, false_or, or_true, true_or, not_true, not_false_iff, Option.isSome_some, isO_d, gI_d, gA_d, pI_d, ne_eq, not_false_eq_true, u2_hi, u2_hj, u2_dyn, u2_dynj, Nat.reduceAdd, mX_r, mX_rD, mX_rDj, mM_r, mX_u, mX_uM, mX_uD, mX_uDj, mM_u, mM_uX, mM_uD, mM_uDj, u2_dd, u2_d0, u2_0d]
/-- a call on the tape that was refused by 2 -/
theorem taped {p : Int32} {tp : Nat} (h1 : tp ≤ 400) (h3 : I 72 25 = Int32.ofNat tp) : f_X15_isTaped (ad b 72) p (lay b F E I L P nx us) = some (inR p 0 (Int32.ofNat tp), (lay b F E I L P nx us)) := by
  unfold inR
  simp (decide := true) only [f_X15_isTaped, f_X15_isTaped_16, f_X15_isTaped_17, isO_s, gI_s, if_true, Option.bind_some, ckZ, h3]
  split
  · rfl
  · split <;> rfl
theorem call_bar (p : Int32) {tp nb : Nat} (hT : GTI I) (hn : Cn tp 400 (I 0 6) (I 72 25)) (hb : Cn nb 12 (I 0 12) (I 72 41)) (hG : GTap (I 39) (I 91)) (hB : GBar nb (L 53) (L 105)) :
    ∃ I2 L2 tp2 nb2, RunG b F (f_X11_bar (ad b 0) p) (f_X15_bar (ad b 72) p) E I L P nx us E I2 L2 P nx us ∧ GTI I2 ∧ Cn tp2 400 (I2 0 6) (I2 72 25) ∧ nb ≤ nb2 ∧ Cn nb2 12 (I2 0 12) (I2 72 41) ∧ GBar nb2 (L2 53) (L2 105) ∧ (∀ c, c ≠ 53 → c ≠ 105 → L2 c = L c) ∧ Fr I I2 [(0, 6), (0, 12), (0, 16), (0, 17), (0, 18), (72, 0), (72, 1), (72, 2), (72, 3), (72, 25), (72, 41)] [] := by
  obtain ⟨h1, h2, h3⟩ := hn
  obtain ⟨b1, b2', b3⟩ := hb
  by_cases hp : (p < 0 ∨ Int32.ofNat tp < p)
  · refine ⟨rf I 2, L, tp, nb, ⟨-1, E, u2 I 0 (upd (I 0) 16 2), L, P, nx, us, by (simp (decide := true) only [f_X11_bar_38, f_X11_bar, h2, hp, isO_s, gI_s, gA_s, gL_s, pI_s, pZ_s, pL_s, aI_s, aL_s, aN_s, aQ_s, sI_s, sL_s, cr, LNs, Option.map_some, Option.map_none, Option.bind_some, b2, tr, lt, if_true, if_false, ckZ, X_within, M_in, inR_z, X_refuse, X_tell, X_deny, X_grant, M_refused, M_denied, M_done, M_granted, u2_same, u2_ne, u2_u2, upd_same, upd_ne, aW0, ixR_z, ixR_1, M_isWall, M_isPainter, M_isWork, X_has4, X_has10, X_at, or_false, false_or, or_true, true_or, not_true, not_false_iff, Option.isSome_some, isO_d, gI_d, gA_d, pI_d, ne_eq, not_false_eq_true, u2_hi, u2_hj, u2_dyn, u2_dynj, Nat.reduceAdd, mX_r, mX_rD, mX_rDj, mM_r, mX_u, mX_uM, mX_uD, mX_uDj, mM_u, mM_uX, mM_uD, mM_uDj, u2_dd, u2_d0, u2_0d]; try exact rfl), ?_⟩, rf_GT hT (by decide), ?_, Nat.le_refl _, ?_, hB, fun _ _ _ => rfl, ?_⟩
    · have ht := taped (b := b) (F := F) (E := E) (L := L) (P := P) (nx := nx) (us := us) (I := u2 (u2 I 0 (upd (I 0) 16 2)) 72 (upd (I 72) 0 0)) (p := p) h1 (by simp (decide := true) only [u2_same, u2_ne, u2_u2, upd_same, upd_ne, mE, u2_dyn, dyn_u2, dyn_hi, u2_hi, u2_hj, u2_dynj, u2_dd, u2_d0, u2_0d]; exact h3)
      (simp (decide := true) only [f_X15_bar_90, f_X15_bar_81, f_X15_bar, ht, hp, isO_s, gI_s, gA_s, gL_s, pI_s, pZ_s, pL_s, aI_s, aL_s, aN_s, aQ_s, sI_s, sL_s, cr, LNs, Option.map_some, Option.map_none, Option.bind_some, b2, tr, lt, if_true, if_false, ckZ, X_within, M_in, inR_z, X_refuse, X_tell, X_deny, X_grant, M_refused, M_denied, M_done, M_granted, u2_same, u2_ne, u2_u2, upd_same, upd_ne, aW0, ixR_z, ixR_1, M_isWall, M_isPainter, M_isWork, X_has4, X_has10, X_at, or_false, false_or, or_true, true_or, not_true, not_false_iff, Option.isSome_some, isO_d, gI_d, gA_d, pI_d, ne_eq, not_false_eq_true, u2_hi, u2_hj, u2_dyn, u2_dynj, Nat.reduceAdd, mX_r, mX_rD, mX_rDj, mM_r, mX_u, mX_uM, mX_uD, mX_uDj, mM_u, mM_uX, mM_uD, mM_uDj, u2_dd, u2_d0, u2_0d]; try exact rfl)
    · simp (decide := true) only [rf, u2_same, u2_ne, u2_u2, upd_same, upd_ne, mE, u2_dyn, dyn_u2, dyn_hi, u2_hi, u2_hj, u2_dynj, u2_dd, u2_d0, u2_0d]; exact ⟨h1, h2, h3⟩
    · simp (decide := true) only [rf, u2_same, u2_ne, u2_u2, upd_same, upd_ne, mE, u2_dyn, dyn_u2, dyn_hi, u2_hi, u2_hj, u2_dynj, u2_dd, u2_d0, u2_0d]; exact ⟨b1, b2', b3⟩
    · unfold rf
      exact (by repeat (first | exact Fr.refl _ _ _ | refine Fr.whole ?_ (by decide) | refine Fr.slot ?_ (fun k hk => by (try simp (decide := true) only [mE, u2_ne, u2_same, u2_u2]); repeat rw [upd_fr (by decide) hk])))
  obtain ⟨n, hn, rfl⟩ := lo_of hp (by omega)
  have hn4 : n ≤ 400 := by omega
  have hxa := X_ahead (b := b) (F := F) (E := E) (L := L) (P := P) (nx := nx) (us := us) (I := u2 I 0 (upd (I 0) 6 0)) (n := n) hn4
  have hml := fun (L : Nat → Nat → Int64) (J : Nat → Nat → Int32) => M_barL (b := b) (F := F) (E := E) (L := L) (P := P) (nx := nx) (us := us) (I := J) (n := n) hn4 (min n 8) 0 (by omega) FU (by unfold FU; omega)
  have hke : fnd (fun k => inR (I 39 k) 97 122 = 0) 0 (min n 8) = fnd (fun k => inR (I 91 k) 97 122 = 0) 0 (min n 8) := by
    refine fnd_congr _ _ ?_
    intro k _ hk
    rw [(hG k (by omega)).1]
  obtain ⟨s1, s2, -, -⟩ := fnd_spec (p := fun k => inR (I 91 k) 97 122 = 0) (min n 8) 0
  simp (decide := true) only [u2_ne, ne_eq, hke] at hxa
  have hml' : ∀ (L : Nat → Nat → Int64) (J : Nat → Nat → Int32), J 91 = I 91 → f_X15_bar_33 FU (ad b 72) (Int32.ofNat n) 0 (Int64.ofNat 0) (lay b F E J L P nx us) = f_X15_bar_81 (ad b 72) (Int32.ofNat n) (Int32.ofNat (fnd (fun k => inR (I 91 k) 97 122 = 0) 0 (min n 8))) (pkF (I 91) (fnd (fun k => inR (I 91 k) 97 122 = 0) 0 (min n 8))) (lay b F E J L P nx us) := by
    intro L J hJ
    have := hml L J
    rw [hJ] at this
    exact this
  clear hml hke
  generalize fnd (fun k => inR (I 91 k) 97 122 = 0) 0 (min n 8) = K at hxa hml' s1 s2
  have hz6 : ∀ (r : RW) (x y : Int32), upd (upd r 16 x) 16 y = upd r 16 y := by intro r x y; funext j; unfold upd; split <;> rfl
  by_cases hf : n = 0 ∨ K < n
  · -- a fault
    have hfx : f_X11_bar (ad b 0) (Int32.ofNat n) (lay b F E I L P nx us) = some (-1, lay b F E (u2 I 0 (upd (upd (upd (upd (I 0) 6 0) 17 1) 18 (Int32.ofNat K)) 16 4)) L P nx us) := by
      by_cases n0 : n = 0
      · subst n0
        have q0 : (Int32.ofNat 0 = 0) = True := eq_true rfl
        have q9 : (Int32.ofNat tp < Int32.ofNat 0) = False := oN_ltF (by omega) (by omega)
        simp (decide := true) only [f_X11_bar_38, f_X11_bar, f_X11_noteFault, h2, hp, hxa, q0, q9, isO_s, gI_s, gA_s, gL_s, pI_s, pZ_s, pL_s, aI_s, aL_s, aN_s, aQ_s, sI_s, sL_s, cr, LNs, Option.map_some, Option.map_none, Option.bind_some, b2, tr, lt, if_true, if_false, ckZ, X_within, M_in, inR_z, X_refuse, X_tell, X_deny, X_grant, M_refused, M_denied, M_done, M_granted, u2_same, u2_ne, u2_u2, upd_same, upd_ne, aW0, ixR_z, ixR_1, M_isWall, M_isPainter, M_isWork, X_has4, X_has10, X_at, or_false, false_or, or_true, true_or, not_true, not_false_iff, Option.isSome_some, isO_d, gI_d, gA_d, pI_d, ne_eq, not_false_eq_true, u2_hi, u2_hj, u2_dyn, u2_dynj, Nat.reduceAdd, mX_r, mX_rD, mX_rDj, mM_r, mX_u, mX_uM, mX_uD, mX_uDj, mM_u, mM_uX, mM_uD, mM_uDj, u2_dd, u2_d0, u2_0d]
      · have q0 : (Int32.ofNat n = 0) = False := oN_ne (c := 0) n0 (by omega) (by omega)
        have q1 := oN_leF (show K < n by omega) (by omega)
        simp (decide := true) only [f_X11_bar_38, f_X11_bar, f_X11_noteFault, h2, hp, hxa, q0, q1, isO_s, gI_s, gA_s, gL_s, pI_s, pZ_s, pL_s, aI_s, aL_s, aN_s, aQ_s, sI_s, sL_s, cr, LNs, Option.map_some, Option.map_none, Option.bind_some, b2, tr, lt, if_true, if_false, ckZ, X_within, M_in, inR_z, X_refuse, X_tell, X_deny, X_grant, M_refused, M_denied, M_done, M_granted, u2_same, u2_ne, u2_u2, upd_same, upd_ne, aW0, ixR_z, ixR_1, M_isWall, M_isPainter, M_isWork, X_has4, X_has10, X_at, or_false, false_or, or_true, true_or, not_true, not_false_iff, Option.isSome_some, isO_d, gI_d, gA_d, pI_d, ne_eq, not_false_eq_true, u2_hi, u2_hj, u2_dyn, u2_dynj, Nat.reduceAdd, mX_r, mX_rD, mX_rDj, mM_r, mX_u, mX_uM, mX_uD, mX_uDj, mM_u, mM_uX, mM_uD, mM_uDj, u2_dd, u2_d0, u2_0d]
    have ht := taped (b := b) (F := F) (E := E) (L := L) (P := P) (nx := nx) (us := us) (I := u2 (u2 I 0 (upd (upd (upd (upd (I 0) 6 0) 17 1) 18 (Int32.ofNat K)) 16 4)) 72 (upd (I 72) 0 0)) (p := Int32.ofNat n) h1 (by simp (decide := true) only [u2_same, u2_ne, u2_u2, upd_same, upd_ne, mE, u2_dyn, dyn_u2, dyn_hi, u2_hi, u2_hj, u2_dynj, u2_dd, u2_d0, u2_0d]; exact h3)
    have hfm : f_X15_bar (ad b 72) (Int32.ofNat n) (lay b F E (u2 I 0 (upd (upd (upd (upd (I 0) 6 0) 17 1) 18 (Int32.ofNat K)) 16 4)) L P nx us) = some (-1, lay b F E (u2 (u2 I 0 (upd (upd (upd (upd (I 0) 6 0) 17 1) 18 (Int32.ofNat K)) 16 4)) 72 (upd (upd (upd (upd (upd (upd (I 72) 0 0) 25 0) 3 0) 3 1) 1 4) 2 (Int32.ofNat K))) L P nx us) := by
      by_cases n0 : K < n
      · have q1 := oN_ltT n0 (by omega)
        simp (decide := true) only [f_X15_bar, f_X15_bar_81, f_X15_bar_90, ht, hp, hml', q1, isO_s, gI_s, gA_s, gL_s, pI_s, pZ_s, pL_s, aI_s, aL_s, aN_s, aQ_s, sI_s, sL_s, cr, LNs, Option.map_some, Option.map_none, Option.bind_some, b2, tr, lt, if_true, if_false, ckZ, X_within, M_in, inR_z, X_refuse, X_tell, X_deny, X_grant, M_refused, M_denied, M_done, M_granted, u2_same, u2_ne, u2_u2, upd_same, upd_ne, aW0, ixR_z, ixR_1, M_isWall, M_isPainter, M_isWork, X_has4, X_has10, X_at, or_false, false_or, or_true, true_or, not_true, not_false_iff, Option.isSome_some, isO_d, gI_d, gA_d, pI_d, ne_eq, not_false_eq_true, u2_hi, u2_hj, u2_dyn, u2_dynj, Nat.reduceAdd, mX_r, mX_rD, mX_rDj, mM_r, mX_u, mX_uM, mX_uD, mX_uDj, mM_u, mM_uX, mM_uD, mM_uDj, u2_dd, u2_d0, u2_0d]
      · have q1 : (Int32.ofNat K < Int32.ofNat n) = False := oN_ltF (by omega) (by omega)
        have n1 := hf.resolve_right n0
        subst n1
        have q0 : (Int32.ofNat 0 = 0) = True := eq_true rfl
        have q9 : (Int32.ofNat tp < Int32.ofNat 0) = False := oN_ltF (by omega) (by omega)
        simp (decide := true) only [f_X15_bar, f_X15_bar_81, f_X15_bar_90, ht, hp, hml', q1, q0, q9, isO_s, gI_s, gA_s, gL_s, pI_s, pZ_s, pL_s, aI_s, aL_s, aN_s, aQ_s, sI_s, sL_s, cr, LNs, Option.map_some, Option.map_none, Option.bind_some, b2, tr, lt, if_true, if_false, ckZ, X_within, M_in, inR_z, X_refuse, X_tell, X_deny, X_grant, M_refused, M_denied, M_done, M_granted, u2_same, u2_ne, u2_u2, upd_same, upd_ne, aW0, ixR_z, ixR_1, M_isWall, M_isPainter, M_isWork, X_has4, X_has10, X_at, or_false, false_or, or_true, true_or, not_true, not_false_iff, Option.isSome_some, isO_d, gI_d, gA_d, pI_d, ne_eq, not_false_eq_true, u2_hi, u2_hj, u2_dyn, u2_dynj, Nat.reduceAdd, mX_r, mX_rD, mX_rDj, mM_r, mX_u, mX_uM, mX_uD, mX_uDj, mM_u, mM_uX, mM_uD, mM_uDj, u2_dd, u2_d0, u2_0d]
    refine ⟨_, L, 0, nb, ⟨-1, E, _, L, P, nx, us, hfx, hfm⟩, ?_, ?_, Nat.le_refl _, ?_, hB, fun _ _ _ => rfl, ?_⟩
    · simp (decide := true) only [GTI, u2_same, u2_ne, u2_u2, upd_same, upd_ne, mE, u2_dyn, dyn_u2, dyn_hi, u2_hi, u2_hj, u2_dynj, u2_dd, u2_d0, u2_0d]
      exact ⟨rfl, rfl, rfl⟩
    · simp (decide := true) only [u2_same, u2_ne, u2_u2, upd_same, upd_ne, mE, u2_dyn, dyn_u2, dyn_hi, u2_hi, u2_hj, u2_dynj, u2_dd, u2_d0, u2_0d]; exact ⟨by omega, rfl, rfl⟩
    · simp (decide := true) only [u2_same, u2_ne, u2_u2, upd_same, upd_ne, mE, u2_dyn, dyn_u2, dyn_hi, u2_hi, u2_hj, u2_dynj, u2_dd, u2_d0, u2_0d]; exact ⟨b1, b2', b3⟩
    · exact (by repeat (first | exact Fr.refl _ _ _ | refine Fr.whole ?_ (by decide) | refine Fr.slot ?_ (fun k hk => by (try simp (decide := true) only [mE, u2_ne, u2_same, u2_u2]); repeat rw [upd_fr (by decide) hk])))
  have n0 : n ≠ 0 := fun q => hf (Or.inl q)
  have nK : K = n := by omega
  subst nK
  have q0 : (Int32.ofNat K = 0) = False := oN_ne (c := 0) n0 (by omega) (by omega)
  have q1 : (Int32.ofNat K < Int32.ofNat K) = False := eq_false Int32.lt_irrefl
  by_cases hz : nb = 12
  · subst hz
    have hfx : f_X11_bar (ad b 0) (Int32.ofNat K) (lay b F E I L P nx us) = some (-1, lay b F E (u2 I 0 (upd (upd (upd (upd (I 0) 6 0) 17 0) 18 (-1)) 16 3)) L P nx us) := by
      simp (decide := true) only [f_X11_bar_38, f_X11_bar, f_X11_noteFault, h2, hp, hxa, q0, Int32.le_refl, b2', isO_s, gI_s, gA_s, gL_s, pI_s, pZ_s, pL_s, aI_s, aL_s, aN_s, aQ_s, sI_s, sL_s, cr, LNs, Option.map_some, Option.map_none, Option.bind_some, b2, tr, lt, if_true, if_false, ckZ, X_within, M_in, inR_z, X_refuse, X_tell, X_deny, X_grant, M_refused, M_denied, M_done, M_granted, u2_same, u2_ne, u2_u2, upd_same, upd_ne, aW0, ixR_z, ixR_1, M_isWall, M_isPainter, M_isWork, X_has4, X_has10, X_at, or_false, false_or, or_true, true_or, not_true, not_false_iff, Option.isSome_some, isO_d, gI_d, gA_d, pI_d, ne_eq, not_false_eq_true, u2_hi, u2_hj, u2_dyn, u2_dynj, Nat.reduceAdd, mX_r, mX_rD, mX_rDj, mM_r, mX_u, mX_uM, mX_uD, mX_uDj, mM_u, mM_uX, mM_uD, mM_uDj, u2_dd, u2_d0, u2_0d]
    have ht := taped (b := b) (F := F) (E := E) (L := L) (P := P) (nx := nx) (us := us) (I := u2 (u2 I 0 (upd (upd (upd (upd (I 0) 6 0) 17 0) 18 (-1)) 16 3)) 72 (upd (I 72) 0 0)) (p := Int32.ofNat K) h1 (by simp (decide := true) only [u2_same, u2_ne, u2_u2, upd_same, upd_ne, mE, u2_dyn, dyn_u2, dyn_hi, u2_hi, u2_hj, u2_dynj, u2_dd, u2_d0, u2_0d]; exact h3)
    refine ⟨u2 (u2 I 0 (upd (upd (upd (upd (I 0) 6 0) 17 0) 18 (-1)) 16 3)) 72 (mE (upd (upd (upd (I 72) 0 0) 25 0) 3 0) 3), L, 0, 12, ⟨-1, E, _, L, P, nx, us, hfx, ?_⟩, ?_, ?_, Nat.le_refl _, ?_, hB, fun _ _ _ => rfl, ?_⟩
    · simp (decide := true) only [f_X15_bar, f_X15_bar_81, ht, hp, hml', q1, q0, b3, isO_s, gI_s, gA_s, gL_s, pI_s, pZ_s, pL_s, aI_s, aL_s, aN_s, aQ_s, sI_s, sL_s, cr, LNs, Option.map_some, Option.map_none, Option.bind_some, b2, tr, lt, if_true, if_false, ckZ, X_within, M_in, inR_z, X_refuse, X_tell, X_deny, X_grant, M_refused, M_denied, M_done, M_granted, u2_same, u2_ne, u2_u2, upd_same, upd_ne, aW0, ixR_z, ixR_1, M_isWall, M_isPainter, M_isWork, X_has4, X_has10, X_at, or_false, false_or, or_true, true_or, not_true, not_false_iff, Option.isSome_some, isO_d, gI_d, gA_d, pI_d, ne_eq, not_false_eq_true, u2_hi, u2_hj, u2_dyn, u2_dynj, Nat.reduceAdd, mX_r, mX_rD, mX_rDj, mM_r, mX_u, mX_uM, mX_uD, mX_uDj, mM_u, mM_uX, mM_uD, mM_uDj, u2_dd, u2_d0, u2_0d]
    · simp (decide := true) only [GTI, u2_same, u2_ne, u2_u2, upd_same, upd_ne, mE, u2_dyn, dyn_u2, dyn_hi, u2_hi, u2_hj, u2_dynj, u2_dd, u2_d0, u2_0d]
      exact ⟨rfl, rfl, rfl⟩
    · simp (decide := true) only [u2_same, u2_ne, u2_u2, upd_same, upd_ne, mE, u2_dyn, dyn_u2, dyn_hi, u2_hi, u2_hj, u2_dynj, u2_dd, u2_d0, u2_0d]; exact ⟨by omega, rfl, rfl⟩
    · simp (decide := true) only [u2_same, u2_ne, u2_u2, upd_same, upd_ne, mE, u2_dyn, dyn_u2, dyn_hi, u2_hi, u2_hj, u2_dynj, u2_dd, u2_d0, u2_0d]; exact ⟨b1, b2', b3⟩
    · exact (by repeat (first | exact Fr.refl _ _ _ | refine Fr.whole ?_ (by decide) | refine Fr.slot ?_ (fun k hk => by (try simp (decide := true) only [mE, u2_ne, u2_same, u2_u2]); repeat rw [upd_fr (by decide) hk])))
  · have hb12 : nb < 12 := by omega
    have c1 : (Int32.ofNat nb < 12) = True := oN_ltT (c := 12) hb12 (by omega)
    have c2 : (Int32.ofNat nb = 12) = False := oN_ne (c := 12) hz (by omega) (by omega)
    have c3 : iN (Int32.ofNat nb) 12 = some nb := iN_oN hb12 (by omega)
    have hpk := fun J => X_packed (b := b) (F := F) (E := E) (L := L) (P := P) (nx := nx) (us := us) (I := J) (n := K) hn4
    have hpe : pkF (I 39) K = pkF (I 91) K := pkF_congr K (fun j hj => (hG j (by omega)).1)
    have hfx : f_X11_bar (ad b 0) (Int32.ofNat K) (lay b F E I L P nx us) = some (Int32.ofNat (nb + 1), lay b F E (u2 I 0 (upd (upd (upd (upd (upd (I 0) 6 0) 17 0) 18 (-1)) 12 (Int32.ofNat (nb + 1))) 16 0)) (u2 L 53 (vp_updL (L 53) nb (pkF (I 91) K))) P nx us) := by
      simp (decide := true) only [f_X11_bar_38, f_X11_bar, f_X11_noteFault, h2, hp, hxa, q0, Int32.le_refl, b2', c1, c3, hpk, hpe, oN_succ, isO_s, gI_s, gA_s, gL_s, pI_s, pZ_s, pL_s, aI_s, aL_s, aN_s, aQ_s, sI_s, sL_s, cr, LNs, Option.map_some, Option.map_none, Option.bind_some, b2, tr, lt, if_true, if_false, ckZ, X_within, M_in, inR_z, X_refuse, X_tell, X_deny, X_grant, M_refused, M_denied, M_done, M_granted, u2_same, u2_ne, u2_u2, upd_same, upd_ne, aW0, ixR_z, ixR_1, M_isWall, M_isPainter, M_isWork, X_has4, X_has10, X_at, or_false, false_or, or_true, true_or, not_true, not_false_iff, Option.isSome_some, isO_d, gI_d, gA_d, pI_d, ne_eq, not_false_eq_true, u2_hi, u2_hj, u2_dyn, u2_dynj, Nat.reduceAdd, mX_r, mX_rD, mX_rDj, mM_r, mX_u, mX_uM, mX_uD, mX_uDj, mM_u, mM_uX, mM_uD, mM_uDj, u2_dd, u2_d0, u2_0d]
    have ht := taped (b := b) (F := F) (E := E) (L := u2 L 53 (vp_updL (L 53) nb (pkF (I 91) K))) (P := P) (nx := nx) (us := us) (I := u2 (u2 I 0 (upd (upd (upd (upd (upd (I 0) 6 0) 17 0) 18 (-1)) 12 (Int32.ofNat (nb + 1))) 16 0)) 72 (upd (I 72) 0 0)) (p := Int32.ofNat K) h1 (by simp (decide := true) only [u2_same, u2_ne, u2_u2, upd_same, upd_ne, mE, u2_dyn, dyn_u2, dyn_hi, u2_hi, u2_hj, u2_dynj, u2_dd, u2_d0, u2_0d]; exact h3)
    refine ⟨u2 (u2 I 0 (upd (upd (upd (upd (upd (I 0) 6 0) 17 0) 18 (-1)) 12 (Int32.ofNat (nb + 1))) 16 0)) 72 (mE (upd (upd (upd (upd (I 72) 0 0) 25 0) 3 0) 41 (Int32.ofNat (nb + 1))) 0), u2 (u2 L 53 (vp_updL (L 53) nb (pkF (I 91) K))) 105 (vp_updL (L 105) nb (pkF (I 91) K)), 0, nb + 1, ⟨Int32.ofNat (nb + 1), E, _, _, P, nx, us, hfx, ?_⟩, ?_, ?_, by omega, ?_, ?_, ?_, ?_⟩
    · simp (decide := true) only [f_X15_bar, f_X15_bar_81, ht, hp, hml', q1, q0, b3, c2, c3, oN_succ, isO_s, gI_s, gA_s, gL_s, pI_s, pZ_s, pL_s, aI_s, aL_s, aN_s, aQ_s, sI_s, sL_s, cr, LNs, Option.map_some, Option.map_none, Option.bind_some, b2, tr, lt, if_true, if_false, ckZ, X_within, M_in, inR_z, X_refuse, X_tell, X_deny, X_grant, M_refused, M_denied, M_done, M_granted, u2_same, u2_ne, u2_u2, upd_same, upd_ne, aW0, ixR_z, ixR_1, M_isWall, M_isPainter, M_isWork, X_has4, X_has10, X_at, or_false, false_or, or_true, true_or, not_true, not_false_iff, Option.isSome_some, isO_d, gI_d, gA_d, pI_d, ne_eq, not_false_eq_true, u2_hi, u2_hj, u2_dyn, u2_dynj, Nat.reduceAdd, mX_r, mX_rD, mX_rDj, mM_r, mX_u, mX_uM, mX_uD, mX_uDj, mM_u, mM_uX, mM_uD, mM_uDj, u2_dd, u2_d0, u2_0d]
    · simp (decide := true) only [GTI, u2_same, u2_ne, u2_u2, upd_same, upd_ne, mE, u2_dyn, dyn_u2, dyn_hi, u2_hi, u2_hj, u2_dynj, u2_dd, u2_d0, u2_0d]
      exact ⟨rfl, rfl, rfl⟩
    · simp (decide := true) only [u2_same, u2_ne, u2_u2, upd_same, upd_ne, mE, u2_dyn, dyn_u2, dyn_hi, u2_hi, u2_hj, u2_dynj, u2_dd, u2_d0, u2_0d]; exact ⟨by omega, rfl, rfl⟩
    · simp (decide := true) only [u2_same, u2_ne, u2_u2, upd_same, upd_ne, mE, u2_dyn, dyn_u2, dyn_hi, u2_hi, u2_hj, u2_dynj, u2_dd, u2_d0, u2_0d]; exact ⟨by omega, rfl, rfl⟩
    · simp (decide := true) only [u2_same, u2_ne, u2_u2, upd_same, upd_ne, mE, u2_dyn, dyn_u2, dyn_hi, u2_hi, u2_hj, u2_dynj, u2_dd, u2_d0, u2_0d]
      intro k hk
      unfold vp_updL
      by_cases hkk : k = nb
      · subst hkk; rw [if_pos rfl, if_pos rfl]
      · rw [if_neg hkk, if_neg hkk]; exact hB k (by omega)
    · intro c k1 k2
      rw [u2_ne k2, u2_ne k1]
    · exact (by repeat (first | exact Fr.refl _ _ _ | refine Fr.whole ?_ (by decide) | refine Fr.slot ?_ (fun k hk => by (try simp (decide := true) only [mE, u2_ne, u2_same, u2_u2]); repeat rw [upd_fr (by decide) hk])))
end BAR
