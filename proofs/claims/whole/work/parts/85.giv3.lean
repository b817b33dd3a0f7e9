/-! ===== give: the asked walls ===== -/
/-- the asked walls in a row, from the i-th wall and place c on -/
def askR (s : Nat) : Nat → Nat → Nat → RW → RW
  | 0, _, _, r => r
  | m + 1, i, c, r => if s.testBit i = true then askR s m (i + 1) (c + 1) (upd r c (Int32.ofNat i)) else askR s m (i + 1) c r
theorem bcN_z {s : Nat} (hs : s < 65536) (h : bcN s = 0) : s = 0 := by
  refine Classical.byContradiction fun q => ?_
  have := (bcK_16 hs).2 q
  omega
theorem tb_s {s i : Nat} : s.testBit i = decide ((s >>> i) % 2 = 1) := by
  have h : (s >>> i).testBit 0 = s.testBit i := by rw [Nat.testBit_shiftRight, Nat.add_zero]
  rw [← h, Nat.testBit_zero]
theorem bcN_s {s i : Nat} (hs : s < 65536) : bcN (s >>> i) = (if s.testBit i = true then 1 else 0) + bcN (s >>> (i + 1)) := by
  have hle := Nat.shiftRight_le s i
  rw [(bcK_16 (s := s >>> i) (by omega)).1, Nat.shiftRight_succ, tb_s]
  by_cases h : (s >>> i) % 2 = 1
  · simp [h]
  · have : (s >>> i) % 2 = 0 := by omega
    simp [this]
theorem askR_z {s : Nat} : ∀ (m i c : Nat) (r : RW), s >>> i = 0 → askR s m i c r = r := by
  intro m
  induction m with
  | zero => intro i c r h; rfl
  | succ m ih =>
    intro i c r h
    have hb : ¬ s.testBit i = true := by rw [tb_s, h]; decide
    unfold askR
    rw [if_neg hb]
    refine ih (i + 1) c r ?_
    rw [Nat.shiftRight_succ, h]
theorem u2_idd {I : Nat → Nat → Int32} {c k : Nat} {v : Int32} (h : I c k = v) : u2 I c (upd (I c) k v) = I := by
  funext a j
  unfold u2
  split
  · rename_i e
    subst e
    unfold upd
    split
    · rename_i e; subst e; exact h.symm
    · rfl
  · rfl
theorem u2_idr {I : Nat → Nat → Int32} {c : Nat} : u2 I c (I c) = I := by
  funext a j
  unfold u2
  split
  · rename_i e; subst e; rfl
  · rfl
theorem upd_upd (f : RW) (k : Nat) (x y : Int32) : upd (upd f k x) k y = upd f k y := by
  funext j
  unfold upd
  split <;> rfl
theorem u2_abab {α : Type} {I : Nat → α} {c d : Nat} {f g h k : α} : u2 (u2 (u2 (u2 I c f) d g) c h) d k = u2 (u2 I c h) d k := by
  funext a
  unfold u2
  by_cases h1 : a = d
  · simp [h1]
  · by_cases h2 : a = c
    · simp [h2]
    · simp [h1, h2]
theorem u2_sixM {α : Type} {I : Nat → α} {c d e : Nat} {f g h f' g' h' : α} : u2 (u2 (u2 (u2 (u2 (u2 I c f) d g) e h) c f') d g') e h' = u2 (u2 (u2 I c f') d g') e h' := by
  funext a
  unfold u2
  by_cases h1 : a = e
  · simp [h1]
  · by_cases h2 : a = d
    · simp [h2]
    · by_cases h3 : a = c
      · simp [h3]
      · simp [h1, h2, h3]
/-- nothing is given, from the i-th wall on -/
def nonR (i m : Nat) (r : RW) : RW := fun k => if i ≤ k ∧ k < i + m then -1 else r k
theorem nonR_0 {i : Nat} {r : RW} : nonR i 0 r = r := by
  funext k
  unfold nonR
  rw [if_neg (by omega)]
theorem nonR_s {i m : Nat} {r : RW} : nonR (i + 1) m (upd r i (-1)) = nonR i (m + 1) r := by
  funext k
  unfold nonR upd
  by_cases h : k = i
  · subst h; simp
  · by_cases h2 : i + 1 ≤ k ∧ k < i + 1 + m
    · rw [if_pos h2, if_pos (by omega)]
    · rw [if_neg h2, if_neg h, if_neg (by omega)]
section GIV3
variable {b : Nat} {F : Nat → Option AE} {D E : Nat → Option KD} {I : Nat → Nat → Int32} {L : Nat → Nat → Int64} {P : Nat → Nat → Option Nat} {nx us : Nat}
theorem X_ask {nw s n : Nat} (hs : s < 65536) (h16 : nw ≤ 16) (hn6 : n ≤ 6) (hsn : s >>> nw = 0) : ∀ (m i : Nat), i + m = nw → ∀ (fu c : Nat) (I : Nat → Nat → Int32), m < fu → I 1 1 = Int32.ofNat nw → c + bcN (s >>> i) = n → I 26 5 = Int32.ofNat c → f_X3_giveAll_12 fu (ad b 26) (Int32.ofNat s) (Int32.ofNat i) (lay b F E I L P nx us) = f_X3_giveAll_67 (ad b 26) (lay b F E (u2 (u2 I 27 (askR s m i c (I 27))) 26 (upd (I 26) 5 (Int32.ofNat n))) L P nx us) := by
  intro m
  induction m with
  | zero =>
    intro i hi fu c I hf hn1 hc h5
    obtain ⟨fu, rfl⟩ : ∃ f, fu = f + 1 := ⟨fu - 1, by omega⟩
    have : i = nw := by omega
    subst this
    have hz : bcN (s >>> i) = 0 := by rw [hsn]; decide
    have e : c = n := by omega
    subst e
    unfold askR
    rw [u2_idr, u2_idd h5]
    simp (decide := true) only [f_X3_giveAll_12, hn1, Int32.le_refl, isO_s, gI_s, gA_s, gL_s, pI_s, pZ_s, pL_s, aI_s, aL_s, aN_s, aQ_s, sI_s, sL_s, cr, LNs, Option.map_some, Option.map_none, Option.bind_some, b2, tr, lt, if_true, if_false, ckZ, X_within, M_in, inR_z, X_refuse, X_tell, X_deny, X_grant, M_refused, M_denied, M_done, M_granted, u2_same, u2_ne, u2_u2, upd_same, upd_ne, aW0, ixR_z, ixR_1, M_isWall, M_isPainter, M_isWork, X_has4, X_has10, X_at, or_false, false_or, or_true, true_or, not_true, not_false_iff, Option.isSome_some, isO_d, gI_d, gA_d, pI_d, ne_eq, not_false_eq_true, u2_hi, u2_hj, u2_dyn, u2_dynj, Nat.reduceAdd, mX_r, mX_rD, mX_rDj, mM_r, mX_u, mX_uM, mX_uD, mX_uDj, mM_u, mM_uX, mM_uD, mM_uDj, u2_dd, u2_d0, u2_0d]
  | succ m ih =>
    intro i hi fu c I hf hn1 hc h5
    obtain ⟨fu, rfl⟩ : ∃ f, fu = f + 1 := ⟨fu - 1, by omega⟩
    have e2 := oN_leF (show i < nw by omega) (by omega)
    have hle := Nat.shiftRight_le s i
    by_cases h6 : c = 6
    · have hz := bcN_z (s := s >>> i) (by omega) (by omega)
      have e : c = n := by omega
      subst e
      rw [askR_z _ _ _ _ hz, u2_idr, u2_idd h5]
      have e6 : ((6 : Int32) ≤ Int32.ofNat c) = True := by subst h6; decide
      simp (decide := true) only [f_X3_giveAll_12, hn1, e2, h5, e6, isO_s, gI_s, gA_s, gL_s, pI_s, pZ_s, pL_s, aI_s, aL_s, aN_s, aQ_s, sI_s, sL_s, cr, LNs, Option.map_some, Option.map_none, Option.bind_some, b2, tr, lt, if_true, if_false, ckZ, X_within, M_in, inR_z, X_refuse, X_tell, X_deny, X_grant, M_refused, M_denied, M_done, M_granted, u2_same, u2_ne, u2_u2, upd_same, upd_ne, aW0, ixR_z, ixR_1, M_isWall, M_isPainter, M_isWork, X_has4, X_has10, X_at, or_false, false_or, or_true, true_or, not_true, not_false_iff, Option.isSome_some, isO_d, gI_d, gA_d, pI_d, ne_eq, not_false_eq_true, u2_hi, u2_hj, u2_dyn, u2_dynj, Nat.reduceAdd, mX_r, mX_rD, mX_rDj, mM_r, mX_u, mX_uM, mX_uD, mX_uDj, mM_u, mM_uX, mM_uD, mM_uDj, u2_dd, u2_d0, u2_0d]
    · have e6 : ((6 : Int32) ≤ Int32.ofNat c) = False := oN_leF (c := 6) (by omega) (by omega)
      have t1 := tb1 (s := s) (k := i) (by omega) (by omega)
      have hb := bcN_s (s := s) (i := i) hs
      unfold askR
      by_cases h : s.testBit i = true
      · have e3 : iN (Int32.ofNat c) 6 = some c := iN_oN (by omega) (by omega)
        rw [if_pos h] at hb
        have ih' := ih (i + 1) (by omega) fu (c + 1) (u2 (u2 I 27 (upd (I 27) c (Int32.ofNat i))) 26 (upd (I 26) 5 (Int32.ofNat (c + 1)))) (by omega) (by simp (decide := true) only [hn1, isO_s, gI_s, gA_s, gL_s, pI_s, pZ_s, pL_s, aI_s, aL_s, aN_s, aQ_s, sI_s, sL_s, cr, LNs, Option.map_some, Option.map_none, Option.bind_some, b2, tr, lt, if_true, if_false, ckZ, X_within, M_in, inR_z, X_refuse, X_tell, X_deny, X_grant, M_refused, M_denied, M_done, M_granted, u2_same, u2_ne, u2_u2, upd_same, upd_ne, aW0, ixR_z, ixR_1, M_isWall, M_isPainter, M_isWork, X_has4, X_has10, X_at, or_false, false_or, or_true, true_or, not_true, not_false_iff, Option.isSome_some, isO_d, gI_d, gA_d, pI_d, ne_eq, not_false_eq_true, u2_hi, u2_hj, u2_dyn, u2_dynj, Nat.reduceAdd, mX_r, mX_rD, mX_rDj, mM_r, mX_u, mX_uM, mX_uD, mX_uDj, mM_u, mM_uX, mM_uD, mM_uDj, u2_dd, u2_d0, u2_0d]) (by omega) (by simp (decide := true) only [isO_s, gI_s, gA_s, gL_s, pI_s, pZ_s, pL_s, aI_s, aL_s, aN_s, aQ_s, sI_s, sL_s, cr, LNs, Option.map_some, Option.map_none, Option.bind_some, b2, tr, lt, if_true, if_false, ckZ, X_within, M_in, inR_z, X_refuse, X_tell, X_deny, X_grant, M_refused, M_denied, M_done, M_granted, u2_same, u2_ne, u2_u2, upd_same, upd_ne, aW0, ixR_z, ixR_1, M_isWall, M_isPainter, M_isWork, X_has4, X_has10, X_at, or_false, false_or, or_true, true_or, not_true, not_false_iff, Option.isSome_some, isO_d, gI_d, gA_d, pI_d, ne_eq, not_false_eq_true, u2_hi, u2_hj, u2_dyn, u2_dynj, Nat.reduceAdd, mX_r, mX_rD, mX_rDj, mM_r, mX_u, mX_uM, mX_uD, mX_uDj, mM_u, mM_uX, mM_uD, mM_uDj, u2_dd, u2_d0, u2_0d])
        rw [if_pos h]
        simp (decide := true) only [f_X3_giveAll_12, f_X3_giveAll_61, hn1, e2, h5, e6, t1, h, e3, oN_succ, isO_s, gI_s, gA_s, gL_s, pI_s, pZ_s, pL_s, aI_s, aL_s, aN_s, aQ_s, sI_s, sL_s, cr, LNs, Option.map_some, Option.map_none, Option.bind_some, b2, tr, lt, if_true, if_false, ckZ, X_within, M_in, inR_z, X_refuse, X_tell, X_deny, X_grant, M_refused, M_denied, M_done, M_granted, u2_same, u2_ne, u2_u2, upd_same, upd_ne, aW0, ixR_z, ixR_1, M_isWall, M_isPainter, M_isWork, X_has4, X_has10, X_at, or_false, false_or, or_true, true_or, not_true, not_false_iff, Option.isSome_some, isO_d, gI_d, gA_d, pI_d, ne_eq, not_false_eq_true, u2_hi, u2_hj, u2_dyn, u2_dynj, Nat.reduceAdd, mX_r, mX_rD, mX_rDj, mM_r, mX_u, mX_uM, mX_uD, mX_uDj, mM_u, mM_uX, mM_uD, mM_uDj, u2_dd, u2_d0, u2_0d]
        refine ih'.trans ?_
        simp (decide := true) only [upd_upd, u2_abab, isO_s, gI_s, gA_s, gL_s, pI_s, pZ_s, pL_s, aI_s, aL_s, aN_s, aQ_s, sI_s, sL_s, cr, LNs, Option.map_some, Option.map_none, Option.bind_some, b2, tr, lt, if_true, if_false, ckZ, X_within, M_in, inR_z, X_refuse, X_tell, X_deny, X_grant, M_refused, M_denied, M_done, M_granted, u2_same, u2_ne, u2_u2, upd_same, upd_ne, aW0, ixR_z, ixR_1, M_isWall, M_isPainter, M_isWork, X_has4, X_has10, X_at, or_false, false_or, or_true, true_or, not_true, not_false_iff, Option.isSome_some, isO_d, gI_d, gA_d, pI_d, ne_eq, not_false_eq_true, u2_hi, u2_hj, u2_dyn, u2_dynj, Nat.reduceAdd, mX_r, mX_rD, mX_rDj, mM_r, mX_u, mX_uM, mX_uD, mX_uDj, mM_u, mM_uX, mM_uD, mM_uDj, u2_dd, u2_d0, u2_0d]
      · rw [if_neg h] at hb
        have h' : (s.testBit i = true) = False := eq_false h
        rw [if_neg h]
        simp (decide := true) only [f_X3_giveAll_12, f_X3_giveAll_61, hn1, e2, h5, e6, t1, h', oN_succ, isO_s, gI_s, gA_s, gL_s, pI_s, pZ_s, pL_s, aI_s, aL_s, aN_s, aQ_s, sI_s, sL_s, cr, LNs, Option.map_some, Option.map_none, Option.bind_some, b2, tr, lt, if_true, if_false, ckZ, X_within, M_in, inR_z, X_refuse, X_tell, X_deny, X_grant, M_refused, M_denied, M_done, M_granted, u2_same, u2_ne, u2_u2, upd_same, upd_ne, aW0, ixR_z, ixR_1, M_isWall, M_isPainter, M_isWork, X_has4, X_has10, X_at, or_false, false_or, or_true, true_or, not_true, not_false_iff, Option.isSome_some, isO_d, gI_d, gA_d, pI_d, ne_eq, not_false_eq_true, u2_hi, u2_hj, u2_dyn, u2_dynj, Nat.reduceAdd, mX_r, mX_rD, mX_rDj, mM_r, mX_u, mX_uM, mX_uD, mX_uDj, mM_u, mM_uX, mM_uD, mM_uDj, u2_dd, u2_d0, u2_0d]
        exact ih (i + 1) (by omega) fu c I (by omega) hn1 (by omega) h5
theorem M_ask {nw s n : Nat} (hs : s < 65536) (h16 : nw ≤ 16) (hn6 : n ≤ 6) (hsn : s >>> nw = 0) : ∀ (m i : Nat), i + m = nw → ∀ (fu c : Nat) (I : Nat → Nat → Int32), m < fu → I 72 4 = Int32.ofNat nw → c + bcN (s >>> i) = n → I 72 72 = Int32.ofNat c → f_X15_give_113 fu (ad b 72) (Int32.ofNat s) (Int32.ofNat i) (lay b F E I L P nx us) = f_X15_give_170 FU (ad b 72) (Int32.ofNat nw) (lay b F E (u2 (u2 (u2 I 121 (nonR i m (I 121))) 118 (askR s m i c (I 118))) 72 (upd (I 72) 72 (Int32.ofNat n))) L P nx us) := by
  intro m
  induction m with
  | zero =>
    intro i hi fu c I hf hn1 hc h5
    obtain ⟨fu, rfl⟩ : ∃ f, fu = f + 1 := ⟨fu - 1, by omega⟩
    have : i = nw := by omega
    subst this
    have hz : bcN (s >>> i) = 0 := by rw [hsn]; decide
    have e : c = n := by omega
    subst e
    unfold askR
    rw [nonR_0, u2_idr, u2_idr, u2_idd h5]
    simp (decide := true) only [f_X15_give_113, hn1, Int32.le_refl, isO_s, gI_s, gA_s, gL_s, pI_s, pZ_s, pL_s, aI_s, aL_s, aN_s, aQ_s, sI_s, sL_s, cr, LNs, Option.map_some, Option.map_none, Option.bind_some, b2, tr, lt, if_true, if_false, ckZ, X_within, M_in, inR_z, X_refuse, X_tell, X_deny, X_grant, M_refused, M_denied, M_done, M_granted, u2_same, u2_ne, u2_u2, upd_same, upd_ne, aW0, ixR_z, ixR_1, M_isWall, M_isPainter, M_isWork, X_has4, X_has10, X_at, or_false, false_or, or_true, true_or, not_true, not_false_iff, Option.isSome_some, isO_d, gI_d, gA_d, pI_d, ne_eq, not_false_eq_true, u2_hi, u2_hj, u2_dyn, u2_dynj, Nat.reduceAdd, mX_r, mX_rD, mX_rDj, mM_r, mX_u, mX_uM, mX_uD, mX_uDj, mM_u, mM_uX, mM_uD, mM_uDj, u2_dd, u2_d0, u2_0d]
  | succ m ih =>
    intro i hi fu c I hf hn1 hc h5
    obtain ⟨fu, rfl⟩ : ∃ f, fu = f + 1 := ⟨fu - 1, by omega⟩
    have e2 := oN_leF (show i < nw by omega) (by omega)
    have e3 : iN (Int32.ofNat i) 16 = some i := iN_oN (by omega) (by omega)
    have t0 := tb0 (s := s) (k := i) (by omega) (by omega)
    have hb := bcN_s (s := s) (i := i) hs
    unfold askR
    by_cases h : s.testBit i = true
    · have h' : (s.testBit i = false) = False := by rw [h]; decide
      rw [if_pos h] at hb
      have e4 : iN (Int32.ofNat c) 6 = some c := iN_oN (by omega) (by omega)
      have ih' := ih (i + 1) (by omega) fu (c + 1) (u2 (u2 (u2 I 121 (upd (I 121) i (-1))) 118 (upd (I 118) c (Int32.ofNat i))) 72 (upd (I 72) 72 (Int32.ofNat (c + 1)))) (by omega) (by simp (decide := true) only [hn1, isO_s, gI_s, gA_s, gL_s, pI_s, pZ_s, pL_s, aI_s, aL_s, aN_s, aQ_s, sI_s, sL_s, cr, LNs, Option.map_some, Option.map_none, Option.bind_some, b2, tr, lt, if_true, if_false, ckZ, X_within, M_in, inR_z, X_refuse, X_tell, X_deny, X_grant, M_refused, M_denied, M_done, M_granted, u2_same, u2_ne, u2_u2, upd_same, upd_ne, aW0, ixR_z, ixR_1, M_isWall, M_isPainter, M_isWork, X_has4, X_has10, X_at, or_false, false_or, or_true, true_or, not_true, not_false_iff, Option.isSome_some, isO_d, gI_d, gA_d, pI_d, ne_eq, not_false_eq_true, u2_hi, u2_hj, u2_dyn, u2_dynj, Nat.reduceAdd, mX_r, mX_rD, mX_rDj, mM_r, mX_u, mX_uM, mX_uD, mX_uDj, mM_u, mM_uX, mM_uD, mM_uDj, u2_dd, u2_d0, u2_0d]) (by omega) (by simp (decide := true) only [isO_s, gI_s, gA_s, gL_s, pI_s, pZ_s, pL_s, aI_s, aL_s, aN_s, aQ_s, sI_s, sL_s, cr, LNs, Option.map_some, Option.map_none, Option.bind_some, b2, tr, lt, if_true, if_false, ckZ, X_within, M_in, inR_z, X_refuse, X_tell, X_deny, X_grant, M_refused, M_denied, M_done, M_granted, u2_same, u2_ne, u2_u2, upd_same, upd_ne, aW0, ixR_z, ixR_1, M_isWall, M_isPainter, M_isWork, X_has4, X_has10, X_at, or_false, false_or, or_true, true_or, not_true, not_false_iff, Option.isSome_some, isO_d, gI_d, gA_d, pI_d, ne_eq, not_false_eq_true, u2_hi, u2_hj, u2_dyn, u2_dynj, Nat.reduceAdd, mX_r, mX_rD, mX_rDj, mM_r, mX_u, mX_uM, mX_uD, mX_uDj, mM_u, mM_uX, mM_uD, mM_uDj, u2_dd, u2_d0, u2_0d])
      rw [if_pos h]
      simp (decide := true) only [f_X15_give_113, f_X15_give_159, hn1, e2, e3, e4, h5, t0, h', oN_succ, isO_s, gI_s, gA_s, gL_s, pI_s, pZ_s, pL_s, aI_s, aL_s, aN_s, aQ_s, sI_s, sL_s, cr, LNs, Option.map_some, Option.map_none, Option.bind_some, b2, tr, lt, if_true, if_false, ckZ, X_within, M_in, inR_z, X_refuse, X_tell, X_deny, X_grant, M_refused, M_denied, M_done, M_granted, u2_same, u2_ne, u2_u2, upd_same, upd_ne, aW0, ixR_z, ixR_1, M_isWall, M_isPainter, M_isWork, X_has4, X_has10, X_at, or_false, false_or, or_true, true_or, not_true, not_false_iff, Option.isSome_some, isO_d, gI_d, gA_d, pI_d, ne_eq, not_false_eq_true, u2_hi, u2_hj, u2_dyn, u2_dynj, Nat.reduceAdd, mX_r, mX_rD, mX_rDj, mM_r, mX_u, mX_uM, mX_uD, mX_uDj, mM_u, mM_uX, mM_uD, mM_uDj, u2_dd, u2_d0, u2_0d]
      refine ih'.trans ?_
      simp (decide := true) only [upd_upd, u2_sixM, nonR_s, isO_s, gI_s, gA_s, gL_s, pI_s, pZ_s, pL_s, aI_s, aL_s, aN_s, aQ_s, sI_s, sL_s, cr, LNs, Option.map_some, Option.map_none, Option.bind_some, b2, tr, lt, if_true, if_false, ckZ, X_within, M_in, inR_z, X_refuse, X_tell, X_deny, X_grant, M_refused, M_denied, M_done, M_granted, u2_same, u2_ne, u2_u2, upd_same, upd_ne, aW0, ixR_z, ixR_1, M_isWall, M_isPainter, M_isWork, X_has4, X_has10, X_at, or_false, false_or, or_true, true_or, not_true, not_false_iff, Option.isSome_some, isO_d, gI_d, gA_d, pI_d, ne_eq, not_false_eq_true, u2_hi, u2_hj, u2_dyn, u2_dynj, Nat.reduceAdd, mX_r, mX_rD, mX_rDj, mM_r, mX_u, mX_uM, mX_uD, mX_uDj, mM_u, mM_uX, mM_uD, mM_uDj, u2_dd, u2_d0, u2_0d]
    · have h' : (s.testBit i = false) = True := eq_true (by revert h; cases s.testBit i <;> decide)
      rw [if_neg h] at hb
      have ih' := ih (i + 1) (by omega) fu c (u2 I 121 (upd (I 121) i (-1))) (by omega) (by simp (decide := true) only [hn1, isO_s, gI_s, gA_s, gL_s, pI_s, pZ_s, pL_s, aI_s, aL_s, aN_s, aQ_s, sI_s, sL_s, cr, LNs, Option.map_some, Option.map_none, Option.bind_some, b2, tr, lt, if_true, if_false, ckZ, X_within, M_in, inR_z, X_refuse, X_tell, X_deny, X_grant, M_refused, M_denied, M_done, M_granted, u2_same, u2_ne, u2_u2, upd_same, upd_ne, aW0, ixR_z, ixR_1, M_isWall, M_isPainter, M_isWork, X_has4, X_has10, X_at, or_false, false_or, or_true, true_or, not_true, not_false_iff, Option.isSome_some, isO_d, gI_d, gA_d, pI_d, ne_eq, not_false_eq_true, u2_hi, u2_hj, u2_dyn, u2_dynj, Nat.reduceAdd, mX_r, mX_rD, mX_rDj, mM_r, mX_u, mX_uM, mX_uD, mX_uDj, mM_u, mM_uX, mM_uD, mM_uDj, u2_dd, u2_d0, u2_0d]) (by omega) (by simp (decide := true) only [h5, isO_s, gI_s, gA_s, gL_s, pI_s, pZ_s, pL_s, aI_s, aL_s, aN_s, aQ_s, sI_s, sL_s, cr, LNs, Option.map_some, Option.map_none, Option.bind_some, b2, tr, lt, if_true, if_false, ckZ, X_within, M_in, inR_z, X_refuse, X_tell, X_deny, X_grant, M_refused, M_denied, M_done, M_granted, u2_same, u2_ne, u2_u2, upd_same, upd_ne, aW0, ixR_z, ixR_1, M_isWall, M_isPainter, M_isWork, X_has4, X_has10, X_at, or_false, false_or, or_true, true_or, not_true, not_false_iff, Option.isSome_some, isO_d, gI_d, gA_d, pI_d, ne_eq, not_false_eq_true, u2_hi, u2_hj, u2_dyn, u2_dynj, Nat.reduceAdd, mX_r, mX_rD, mX_rDj, mM_r, mX_u, mX_uM, mX_uD, mX_uDj, mM_u, mM_uX, mM_uD, mM_uDj, u2_dd, u2_d0, u2_0d])
      rw [if_neg h]
      simp (decide := true) only [f_X15_give_113, f_X15_give_159, hn1, e2, e3, h5, t0, h', oN_succ, isO_s, gI_s, gA_s, gL_s, pI_s, pZ_s, pL_s, aI_s, aL_s, aN_s, aQ_s, sI_s, sL_s, cr, LNs, Option.map_some, Option.map_none, Option.bind_some, b2, tr, lt, if_true, if_false, ckZ, X_within, M_in, inR_z, X_refuse, X_tell, X_deny, X_grant, M_refused, M_denied, M_done, M_granted, u2_same, u2_ne, u2_u2, upd_same, upd_ne, aW0, ixR_z, ixR_1, M_isWall, M_isPainter, M_isWork, X_has4, X_has10, X_at, or_false, false_or, or_true, true_or, not_true, not_false_iff, Option.isSome_some, isO_d, gI_d, gA_d, pI_d, ne_eq, not_false_eq_true, u2_hi, u2_hj, u2_dyn, u2_dynj, Nat.reduceAdd, mX_r, mX_rD, mX_rDj, mM_r, mX_u, mX_uM, mX_uD, mX_uDj, mM_u, mM_uX, mM_uD, mM_uDj, u2_dd, u2_d0, u2_0d]
      refine ih'.trans ?_
      simp (decide := true) only [upd_upd, nonR_s, isO_s, gI_s, gA_s, gL_s, pI_s, pZ_s, pL_s, aI_s, aL_s, aN_s, aQ_s, sI_s, sL_s, cr, LNs, Option.map_some, Option.map_none, Option.bind_some, b2, tr, lt, if_true, if_false, ckZ, X_within, M_in, inR_z, X_refuse, X_tell, X_deny, X_grant, M_refused, M_denied, M_done, M_granted, u2_same, u2_ne, u2_u2, upd_same, upd_ne, aW0, ixR_z, ixR_1, M_isWall, M_isPainter, M_isWork, X_has4, X_has10, X_at, or_false, false_or, or_true, true_or, not_true, not_false_iff, Option.isSome_some, isO_d, gI_d, gA_d, pI_d, ne_eq, not_false_eq_true, u2_hi, u2_hj, u2_dyn, u2_dynj, Nat.reduceAdd, mX_r, mX_rD, mX_rDj, mM_r, mX_u, mX_uM, mX_uD, mX_uDj, mM_u, mM_uX, mM_uD, mM_uDj, u2_dd, u2_d0, u2_0d]
theorem M_non : ∀ (m i : Nat), i + m = 16 → ∀ (fu : Nat) (I : Nat → Nat → Int32), m < fu → f_X15_give_170 fu (ad b 72) (Int32.ofNat i) (lay b F E I L P nx us) = f_X15_give_191 FU (ad b 72) 0 (lay b F E (u2 I 121 (nonR i m (I 121))) L P nx us) := by
  intro m
  induction m with
  | zero =>
    intro i hi fu I hf
    obtain ⟨fu, rfl⟩ : ∃ f, fu = f + 1 := ⟨fu - 1, by omega⟩
    have : i = 16 := by omega
    subst this
    rw [nonR_0, u2_idr]
    simp (decide := true) only [f_X15_give_170, Int32.le_refl, isO_s, gI_s, gA_s, gL_s, pI_s, pZ_s, pL_s, aI_s, aL_s, aN_s, aQ_s, sI_s, sL_s, cr, LNs, Option.map_some, Option.map_none, Option.bind_some, b2, tr, lt, if_true, if_false, ckZ, X_within, M_in, inR_z, X_refuse, X_tell, X_deny, X_grant, M_refused, M_denied, M_done, M_granted, u2_same, u2_ne, u2_u2, upd_same, upd_ne, aW0, ixR_z, ixR_1, M_isWall, M_isPainter, M_isWork, X_has4, X_has10, X_at, or_false, false_or, or_true, true_or, not_true, not_false_iff, Option.isSome_some, isO_d, gI_d, gA_d, pI_d, ne_eq, not_false_eq_true, u2_hi, u2_hj, u2_dyn, u2_dynj, Nat.reduceAdd, mX_r, mX_rD, mX_rDj, mM_r, mX_u, mX_uM, mX_uD, mX_uDj, mM_u, mM_uX, mM_uD, mM_uDj, u2_dd, u2_d0, u2_0d]
  | succ m ih =>
    intro i hi fu I hf
    obtain ⟨fu, rfl⟩ : ∃ f, fu = f + 1 := ⟨fu - 1, by omega⟩
    have e2 : ((16 : Int32) ≤ Int32.ofNat i) = False := oN_leF (c := 16) (by omega) (by omega)
    have e3 : iN (Int32.ofNat i) 16 = some i := iN_oN (by omega) (by omega)
    have ih' := ih (i + 1) (by omega) fu (u2 I 121 (upd (I 121) i (-1))) (by omega)
    simp (decide := true) only [f_X15_give_170, e2, e3, oN_succ, isO_s, gI_s, gA_s, gL_s, pI_s, pZ_s, pL_s, aI_s, aL_s, aN_s, aQ_s, sI_s, sL_s, cr, LNs, Option.map_some, Option.map_none, Option.bind_some, b2, tr, lt, if_true, if_false, ckZ, X_within, M_in, inR_z, X_refuse, X_tell, X_deny, X_grant, M_refused, M_denied, M_done, M_granted, u2_same, u2_ne, u2_u2, upd_same, upd_ne, aW0, ixR_z, ixR_1, M_isWall, M_isPainter, M_isWork, X_has4, X_has10, X_at, or_false, false_or, or_true, true_or, not_true, not_false_iff, Option.isSome_some, isO_d, gI_d, gA_d, pI_d, ne_eq, not_false_eq_true, u2_hi, u2_hj, u2_dyn, u2_dynj, Nat.reduceAdd, mX_r, mX_rD, mX_rDj, mM_r, mX_u, mX_uM, mX_uD, mX_uDj, mM_u, mM_uX, mM_uD, mM_uDj, u2_dd, u2_d0, u2_0d]
    refine ih'.trans ?_
    simp (decide := true) only [nonR_s, isO_s, gI_s, gA_s, gL_s, pI_s, pZ_s, pL_s, aI_s, aL_s, aN_s, aQ_s, sI_s, sL_s, cr, LNs, Option.map_some, Option.map_none, Option.bind_some, b2, tr, lt, if_true, if_false, ckZ, X_within, M_in, inR_z, X_refuse, X_tell, X_deny, X_grant, M_refused, M_denied, M_done, M_granted, u2_same, u2_ne, u2_u2, upd_same, upd_ne, aW0, ixR_z, ixR_1, M_isWall, M_isPainter, M_isWork, X_has4, X_has10, X_at, or_false, false_or, or_true, true_or, not_true, not_false_iff, Option.isSome_some, isO_d, gI_d, gA_d, pI_d, ne_eq, not_false_eq_true, u2_hi, u2_hj, u2_dyn, u2_dynj, Nat.reduceAdd, mX_r, mX_rD, mX_rDj, mM_r, mX_u, mX_uM, mX_uD, mX_uDj, mM_u, mM_uX, mM_uD, mM_uDj, u2_dd, u2_d0, u2_0d]
end GIV3
