/-! ===== plain queries ===== -/
section Q1
variable {b : Nat} {F : Nat → Option AE} {D E : Nat → Option KD} {I : Nat → Nat → Int32} {L : Nat → Nat → Int64} {P : Nat → Nat → Option Nat} {nx us : Nat}
theorem call_fault (hT : GTI I) : Run b F E L P nx us (f_X11_fault (ad b 0)) (f_X15_fault (ad b 72)) I (th I) := by
  refine ⟨I 0 17, I, ?_, ?_⟩
  · (simp (decide := true) only [f_X11_fault, isO_s, gI_s, gA_s, gL_s, pI_s, pZ_s, pL_s, aI_s, aL_s, aN_s, aQ_s, sI_s, sL_s, cr, LNs, Option.map_some, Option.map_none, Option.bind_some, b2, tr, lt, if_true, if_false, ckZ, X_within, M_in, inR_z, X_refuse, X_tell, X_deny, X_grant, M_refused, M_denied, M_done, M_granted, u2_same, u2_ne, u2_u2, upd_same, upd_ne, aW0, ixR_z, ixR_1, M_isWall, M_isPainter, M_isWork, X_has4, X_has10, X_at, or_false, false_or, or_true, true_or, not_true, not_false_iff]; try exact rfl)
  · (simp (decide := true) only [f_X15_fault, ← hT.2.1, isO_s, gI_s, gA_s, gL_s, pI_s, pZ_s, pL_s, aI_s, aL_s, aN_s, aQ_s, sI_s, sL_s, cr, LNs, Option.map_some, Option.map_none, Option.bind_some, b2, tr, lt, if_true, if_false, ckZ, X_within, M_in, inR_z, X_refuse, X_tell, X_deny, X_grant, M_refused, M_denied, M_done, M_granted, u2_same, u2_ne, u2_u2, upd_same, upd_ne, aW0, ixR_z, ixR_1, M_isWall, M_isPainter, M_isWork, X_has4, X_has10, X_at, or_false, false_or, or_true, true_or, not_true, not_false_iff]; try exact rfl)
theorem call_where (hT : GTI I) : Run b F E L P nx us (f_X11_where (ad b 0)) (f_X15_where (ad b 72)) I (th I) := by
  obtain ⟨h1, h2, h3⟩ := hT
  by_cases h4 : I 72 1 = 4
  · rw [if_pos h4] at h3
    refine ⟨I 0 18, I, ?_, ?_⟩
    · (simp (decide := true) only [f_X11_where_16, f_X11_where, h1, h4, isO_s, gI_s, gA_s, gL_s, pI_s, pZ_s, pL_s, aI_s, aL_s, aN_s, aQ_s, sI_s, sL_s, cr, LNs, Option.map_some, Option.map_none, Option.bind_some, b2, tr, lt, if_true, if_false, ckZ, X_within, M_in, inR_z, X_refuse, X_tell, X_deny, X_grant, M_refused, M_denied, M_done, M_granted, u2_same, u2_ne, u2_u2, upd_same, upd_ne, aW0, ixR_z, ixR_1, M_isWall, M_isPainter, M_isWork, X_has4, X_has10, X_at, or_false, false_or, or_true, true_or, not_true, not_false_iff]; try exact rfl)
    · (simp (decide := true) only [f_X15_where, h3, isO_s, gI_s, gA_s, gL_s, pI_s, pZ_s, pL_s, aI_s, aL_s, aN_s, aQ_s, sI_s, sL_s, cr, LNs, Option.map_some, Option.map_none, Option.bind_some, b2, tr, lt, if_true, if_false, ckZ, X_within, M_in, inR_z, X_refuse, X_tell, X_deny, X_grant, M_refused, M_denied, M_done, M_granted, u2_same, u2_ne, u2_u2, upd_same, upd_ne, aW0, ixR_z, ixR_1, M_isWall, M_isPainter, M_isWork, X_has4, X_has10, X_at, or_false, false_or, or_true, true_or, not_true, not_false_iff]; try exact rfl)
  · rw [if_neg h4] at h3
    refine ⟨-1, I, ?_, ?_⟩
    · (simp (decide := true) only [f_X11_where_16, f_X11_where, h1, h4, isO_s, gI_s, gA_s, gL_s, pI_s, pZ_s, pL_s, aI_s, aL_s, aN_s, aQ_s, sI_s, sL_s, cr, LNs, Option.map_some, Option.map_none, Option.bind_some, b2, tr, lt, if_true, if_false, ckZ, X_within, M_in, inR_z, X_refuse, X_tell, X_deny, X_grant, M_refused, M_denied, M_done, M_granted, u2_same, u2_ne, u2_u2, upd_same, upd_ne, aW0, ixR_z, ixR_1, M_isWall, M_isPainter, M_isWork, X_has4, X_has10, X_at, or_false, false_or, or_true, true_or, not_true, not_false_iff]; try exact rfl)
    · (simp (decide := true) only [f_X15_where, h3, isO_s, gI_s, gA_s, gL_s, pI_s, pZ_s, pL_s, aI_s, aL_s, aN_s, aQ_s, sI_s, sL_s, cr, LNs, Option.map_some, Option.map_none, Option.bind_some, b2, tr, lt, if_true, if_false, ckZ, X_within, M_in, inR_z, X_refuse, X_tell, X_deny, X_grant, M_refused, M_denied, M_done, M_granted, u2_same, u2_ne, u2_u2, upd_same, upd_ne, aW0, ixR_z, ixR_1, M_isWall, M_isPainter, M_isWork, X_has4, X_has10, X_at, or_false, false_or, or_true, true_or, not_true, not_false_iff]; try exact rfl)
theorem call_trailOf (h : I 33 9 = I 72 102) : Run b F E L P nx us (f_X11_trailOf (ad b 0)) (f_X15_trailOf (ad b 72)) I (th I) := by
  refine ⟨I 33 9, I, ?_, ?_⟩
  · (simp (decide := true) only [f_X11_trailOf, isO_s, gI_s, gA_s, gL_s, pI_s, pZ_s, pL_s, aI_s, aL_s, aN_s, aQ_s, sI_s, sL_s, cr, LNs, Option.map_some, Option.map_none, Option.bind_some, b2, tr, lt, if_true, if_false, ckZ, X_within, M_in, inR_z, X_refuse, X_tell, X_deny, X_grant, M_refused, M_denied, M_done, M_granted, u2_same, u2_ne, u2_u2, upd_same, upd_ne, aW0, ixR_z, ixR_1, M_isWall, M_isPainter, M_isWork, X_has4, X_has10, X_at, or_false, false_or, or_true, true_or, not_true, not_false_iff]; try exact rfl)
  · (simp (decide := true) only [f_X15_trailOf, h, isO_s, gI_s, gA_s, gL_s, pI_s, pZ_s, pL_s, aI_s, aL_s, aN_s, aQ_s, sI_s, sL_s, cr, LNs, Option.map_some, Option.map_none, Option.bind_some, b2, tr, lt, if_true, if_false, ckZ, X_within, M_in, inR_z, X_refuse, X_tell, X_deny, X_grant, M_refused, M_denied, M_done, M_granted, u2_same, u2_ne, u2_u2, upd_same, upd_ne, aW0, ixR_z, ixR_1, M_isWall, M_isPainter, M_isWork, X_has4, X_has10, X_at, or_false, false_or, or_true, true_or, not_true, not_false_iff]; try exact rfl)
theorem X_isTin {p : Int32} (h : I 13 15 ≤ 60) : f_X10_isTin (ad b 13) p (lay b F E I L P nx us) = some (ixR p (I 13 15), (lay b F E I L P nx us)) := by
  unfold ixR
  simp (decide := true) only [f_X10_isTin, f_X10_isTin_23, f_X10_isTin_22, isO_s, gI_s, if_true, Option.bind_some, ckZ]
  split
  · rfl
  · split
    · rfl
    · rename_i h1 h2
      have h3 : ¬ 60 ≤ p := fun q => h2 (Int32.le_trans h q)
      rw [if_neg h3]
theorem oN_leL {n : Nat} {m : Nat} (h : n ≤ m) (hm : m < 2147483648) : Int32.ofNat n ≤ Int32.ofNat m := (oN_le (by omega) hm).mpr h
theorem call_left (p : Int32) {nt : Nat} (hn : Cn nt 60 (I 13 15) (I 72 77)) (hG : GTin nt (I 24) (I 25) (I 135) (I 136)) : Run b F E L P nx us (f_X11_left (ad b 0) p) (f_X15_left (ad b 72) p) I (th I) := by
  obtain ⟨hn1, hn2, hn3⟩ := hn
  have h60 : I 13 15 ≤ 60 := by rw [hn2]; exact oN_leL hn1 (by decide)
  have hx := X_isTin (b := b) (F := F) (E := E) (L := L) (P := P) (nx := nx) (us := us) (p := p) h60
  rcases ixc p (n := nt) (by omega) with h | ⟨k, hk, rfl⟩
  · have h0 : ixR p (I 13 15) = 0 := by rw [ixR_z, hn2]; exact h
    refine ⟨-1, I, ?_, ?_⟩
    · (simp (decide := true) only [f_X11_left_24, f_X11_left, hx, h0, isO_s, gI_s, gA_s, gL_s, pI_s, pZ_s, pL_s, aI_s, aL_s, aN_s, aQ_s, sI_s, sL_s, cr, LNs, Option.map_some, Option.map_none, Option.bind_some, b2, tr, lt, if_true, if_false, ckZ, X_within, M_in, inR_z, X_refuse, X_tell, X_deny, X_grant, M_refused, M_denied, M_done, M_granted, u2_same, u2_ne, u2_u2, upd_same, upd_ne, aW0, ixR_1, M_isWall, M_isPainter, M_isWork, X_has4, X_has10, X_at, or_false, false_or, or_true, true_or, not_true, not_false_iff]; try exact rfl)
    · by_cases h5 : p < 0
      · (simp (decide := true) only [f_X15_left_27, f_X15_left_26, f_X15_left, h5, isO_s, gI_s, gA_s, gL_s, pI_s, pZ_s, pL_s, aI_s, aL_s, aN_s, aQ_s, sI_s, sL_s, cr, LNs, Option.map_some, Option.map_none, Option.bind_some, b2, tr, lt, if_true, if_false, ckZ, X_within, M_in, inR_z, X_refuse, X_tell, X_deny, X_grant, M_refused, M_denied, M_done, M_granted, u2_same, u2_ne, u2_u2, upd_same, upd_ne, aW0, ixR_z, ixR_1, M_isWall, M_isPainter, M_isWork, X_has4, X_has10, X_at, or_false, false_or, or_true, true_or, not_true, not_false_iff]; try exact rfl)
      · have h6 := h.resolve_left h5
        (simp (decide := true) only [f_X15_left_27, f_X15_left_26, f_X15_left, h5, hn3, h6, isO_s, gI_s, gA_s, gL_s, pI_s, pZ_s, pL_s, aI_s, aL_s, aN_s, aQ_s, sI_s, sL_s, cr, LNs, Option.map_some, Option.map_none, Option.bind_some, b2, tr, lt, if_true, if_false, ckZ, X_within, M_in, inR_z, X_refuse, X_tell, X_deny, X_grant, M_refused, M_denied, M_done, M_granted, u2_same, u2_ne, u2_u2, upd_same, upd_ne, aW0, ixR_z, ixR_1, M_isWall, M_isPainter, M_isWork, X_has4, X_has10, X_at, or_false, false_or, or_true, true_or, not_true, not_false_iff]; try exact rfl)
  · have e1 := oN_neg (w := k) (by omega)
    have e2 := oN_leF hk (by omega)
    have e3 : iN (Int32.ofNat k) 60 = some k := iN_oN (by omega) (by omega)
    refine ⟨I 25 k, I, ?_, ?_⟩
    · (simp (decide := true) only [f_X11_left_24, f_X11_left, hx, hn2, e1, e2, e3, isO_s, gI_s, gA_s, gL_s, pI_s, pZ_s, pL_s, aI_s, aL_s, aN_s, aQ_s, sI_s, sL_s, cr, LNs, Option.map_some, Option.map_none, Option.bind_some, b2, tr, lt, if_true, if_false, ckZ, X_within, M_in, inR_z, X_refuse, X_tell, X_deny, X_grant, M_refused, M_denied, M_done, M_granted, u2_same, u2_ne, u2_u2, upd_same, upd_ne, aW0, ixR_z, ixR_1, M_isWall, M_isPainter, M_isWork, X_has4, X_has10, X_at, or_false, false_or, or_true, true_or, not_true, not_false_iff]; try exact rfl)
    · (simp (decide := true) only [f_X15_left_27, f_X15_left_26, f_X15_left, hn3, e1, e2, e3, (hG k hk).2.1, isO_s, gI_s, gA_s, gL_s, pI_s, pZ_s, pL_s, aI_s, aL_s, aN_s, aQ_s, sI_s, sL_s, cr, LNs, Option.map_some, Option.map_none, Option.bind_some, b2, tr, lt, if_true, if_false, ckZ, X_within, M_in, inR_z, X_refuse, X_tell, X_deny, X_grant, M_refused, M_denied, M_done, M_granted, u2_same, u2_ne, u2_u2, upd_same, upd_ne, aW0, ixR_z, ixR_1, M_isWall, M_isPainter, M_isWork, X_has4, X_has10, X_at, or_false, false_or, or_true, true_or, not_true, not_false_iff]; try exact rfl)
theorem call_given (p : Int32) {nw : Nat} (hn : Cn nw 16 (I 1 1) (I 72 4)) (hG : GGiv nw (I 32) (I 121) (I 72 75)) : Run b F E L P nx us (f_X11_given (ad b 0) p) (f_X15_given (ad b 72) p) I (th I) := by
  obtain ⟨hn1, hn2, hn3⟩ := hn
  rcases ixc p (n := 16) (by omega) with h | ⟨k, hk, rfl⟩
  · have h0 : ixR p (I 72 4) = 0 := by
      rw [ixR_z, hn3]
      rcases h with h | h
      · exact Or.inl h
      · exact Or.inr (Int32.le_trans (oN_leL hn1 (by decide)) h)
    refine ⟨-1, I, ?_, ?_⟩
    · by_cases h5 : p < 0
      · (simp (decide := true) only [f_X11_given, f_X3_painterFor_23, f_X3_painterFor_22, f_X3_painterFor, h5, isO_s, gI_s, gA_s, gL_s, pI_s, pZ_s, pL_s, aI_s, aL_s, aN_s, aQ_s, sI_s, sL_s, cr, LNs, Option.map_some, Option.map_none, Option.bind_some, b2, tr, lt, if_true, if_false, ckZ, X_within, M_in, inR_z, X_refuse, X_tell, X_deny, X_grant, M_refused, M_denied, M_done, M_granted, u2_same, u2_ne, u2_u2, upd_same, upd_ne, aW0, ixR_z, ixR_1, M_isWall, M_isPainter, M_isWork, X_has4, X_has10, X_at, or_false, false_or, or_true, true_or, not_true, not_false_iff]; try exact rfl)
      · have h6 := h.resolve_left h5
        (simp (decide := true) only [f_X11_given, f_X3_painterFor_23, f_X3_painterFor_22, f_X3_painterFor, h5, h6, isO_s, gI_s, gA_s, gL_s, pI_s, pZ_s, pL_s, aI_s, aL_s, aN_s, aQ_s, sI_s, sL_s, cr, LNs, Option.map_some, Option.map_none, Option.bind_some, b2, tr, lt, if_true, if_false, ckZ, X_within, M_in, inR_z, X_refuse, X_tell, X_deny, X_grant, M_refused, M_denied, M_done, M_granted, u2_same, u2_ne, u2_u2, upd_same, upd_ne, aW0, ixR_z, ixR_1, M_isWall, M_isPainter, M_isWork, X_has4, X_has10, X_at, or_false, false_or, or_true, true_or, not_true, not_false_iff]; try exact rfl)
    · by_cases h7 : I 72 75 = 0
      · (simp (decide := true) only [f_X15_given_30, f_X15_given_29, f_X15_given, h7, isO_s, gI_s, gA_s, gL_s, pI_s, pZ_s, pL_s, aI_s, aL_s, aN_s, aQ_s, sI_s, sL_s, cr, LNs, Option.map_some, Option.map_none, Option.bind_some, b2, tr, lt, if_true, if_false, ckZ, X_within, M_in, inR_z, X_refuse, X_tell, X_deny, X_grant, M_refused, M_denied, M_done, M_granted, u2_same, u2_ne, u2_u2, upd_same, upd_ne, aW0, ixR_z, ixR_1, M_isWall, M_isPainter, M_isWork, X_has4, X_has10, X_at, or_false, false_or, or_true, true_or, not_true, not_false_iff]; try exact rfl)
      · (simp (decide := true) only [f_X15_given_30, f_X15_given_29, f_X15_given, h7, h0, isO_s, gI_s, gA_s, gL_s, pI_s, pZ_s, pL_s, aI_s, aL_s, aN_s, aQ_s, sI_s, sL_s, cr, LNs, Option.map_some, Option.map_none, Option.bind_some, b2, tr, lt, if_true, if_false, ckZ, X_within, M_in, inR_z, X_refuse, X_tell, X_deny, X_grant, M_refused, M_denied, M_done, M_granted, u2_same, u2_ne, u2_u2, upd_same, upd_ne, aW0, ixR_1, M_isWall, M_isPainter, M_isWork, X_has4, X_has10, X_at, or_false, false_or, or_true, true_or, not_true, not_false_iff]; try exact rfl)
  · have e1 := oN_neg (w := k) (by omega)
    have e2 := oN_leF hk (by omega)
    have e3 : iN (Int32.ofNat k) 16 = some k := iN_oN (by omega) (by omega)
    by_cases h7 : I 72 75 = 0
    · refine ⟨-1, I, ?_, ?_⟩
      · (simp (decide := true) only [f_X11_given, f_X3_painterFor_23, f_X3_painterFor_22, f_X3_painterFor, e1, e2, e3, hG.1 h7 k hk, isO_s, gI_s, gA_s, gL_s, pI_s, pZ_s, pL_s, aI_s, aL_s, aN_s, aQ_s, sI_s, sL_s, cr, LNs, Option.map_some, Option.map_none, Option.bind_some, b2, tr, lt, if_true, if_false, ckZ, X_within, M_in, inR_z, X_refuse, X_tell, X_deny, X_grant, M_refused, M_denied, M_done, M_granted, u2_same, u2_ne, u2_u2, upd_same, upd_ne, aW0, ixR_z, ixR_1, M_isWall, M_isPainter, M_isWork, X_has4, X_has10, X_at, or_false, false_or, or_true, true_or, not_true, not_false_iff]; try exact rfl)
      · (simp (decide := true) only [f_X15_given_30, f_X15_given_29, f_X15_given, h7, isO_s, gI_s, gA_s, gL_s, pI_s, pZ_s, pL_s, aI_s, aL_s, aN_s, aQ_s, sI_s, sL_s, cr, LNs, Option.map_some, Option.map_none, Option.bind_some, b2, tr, lt, if_true, if_false, ckZ, X_within, M_in, inR_z, X_refuse, X_tell, X_deny, X_grant, M_refused, M_denied, M_done, M_granted, u2_same, u2_ne, u2_u2, upd_same, upd_ne, aW0, ixR_z, ixR_1, M_isWall, M_isPainter, M_isWork, X_has4, X_has10, X_at, or_false, false_or, or_true, true_or, not_true, not_false_iff]; try exact rfl)
    · by_cases h8 : k < nw
      · have h9 := oN_leF h8 (by omega)
        refine ⟨I 32 k, I, ?_, ?_⟩
        · (simp (decide := true) only [f_X11_given, f_X3_painterFor_23, f_X3_painterFor_22, f_X3_painterFor, e1, e2, e3, isO_s, gI_s, gA_s, gL_s, pI_s, pZ_s, pL_s, aI_s, aL_s, aN_s, aQ_s, sI_s, sL_s, cr, LNs, Option.map_some, Option.map_none, Option.bind_some, b2, tr, lt, if_true, if_false, ckZ, X_within, M_in, inR_z, X_refuse, X_tell, X_deny, X_grant, M_refused, M_denied, M_done, M_granted, u2_same, u2_ne, u2_u2, upd_same, upd_ne, aW0, ixR_z, ixR_1, M_isWall, M_isPainter, M_isWork, X_has4, X_has10, X_at, or_false, false_or, or_true, true_or, not_true, not_false_iff]; try exact rfl)
        · (simp (decide := true) only [f_X15_given_30, f_X15_given_29, f_X15_given, h7, hn3, e1, h9, e3, (hG.2 h7 k hk).1, isO_s, gI_s, gA_s, gL_s, pI_s, pZ_s, pL_s, aI_s, aL_s, aN_s, aQ_s, sI_s, sL_s, cr, LNs, Option.map_some, Option.map_none, Option.bind_some, b2, tr, lt, if_true, if_false, ckZ, X_within, M_in, inR_z, X_refuse, X_tell, X_deny, X_grant, M_refused, M_denied, M_done, M_granted, u2_same, u2_ne, u2_u2, upd_same, upd_ne, aW0, ixR_z, ixR_1, M_isWall, M_isPainter, M_isWork, X_has4, X_has10, X_at, or_false, false_or, or_true, true_or, not_true, not_false_iff]; try exact rfl)
      · have h9 : Int32.ofNat nw ≤ Int32.ofNat k := oN_leL (by omega) (by omega)
        have h10 := hG.2 h7 k hk
        refine ⟨-1, I, ?_, ?_⟩
        · (simp (decide := true) only [f_X11_given, f_X3_painterFor_23, f_X3_painterFor_22, f_X3_painterFor, e1, e2, e3, h10.1, h10.2 (by omega), isO_s, gI_s, gA_s, gL_s, pI_s, pZ_s, pL_s, aI_s, aL_s, aN_s, aQ_s, sI_s, sL_s, cr, LNs, Option.map_some, Option.map_none, Option.bind_some, b2, tr, lt, if_true, if_false, ckZ, X_within, M_in, inR_z, X_refuse, X_tell, X_deny, X_grant, M_refused, M_denied, M_done, M_granted, u2_same, u2_ne, u2_u2, upd_same, upd_ne, aW0, ixR_z, ixR_1, M_isWall, M_isPainter, M_isWork, X_has4, X_has10, X_at, or_false, false_or, or_true, true_or, not_true, not_false_iff]; try exact rfl)
        · (simp (decide := true) only [f_X15_given_30, f_X15_given_29, f_X15_given, h7, hn3, e1, h9, isO_s, gI_s, gA_s, gL_s, pI_s, pZ_s, pL_s, aI_s, aL_s, aN_s, aQ_s, sI_s, sL_s, cr, LNs, Option.map_some, Option.map_none, Option.bind_some, b2, tr, lt, if_true, if_false, ckZ, X_within, M_in, inR_z, X_refuse, X_tell, X_deny, X_grant, M_refused, M_denied, M_done, M_granted, u2_same, u2_ne, u2_u2, upd_same, upd_ne, aW0, ixR_z, ixR_1, M_isWall, M_isPainter, M_isWork, X_has4, X_has10, X_at, or_false, false_or, or_true, true_or, not_true, not_false_iff]; try exact rfl)
/-! late -/
def lateF (td : Int32) (by_ cl : RW) : RW := fun k => if by_ k < (if cl k = -1 then td else cl k) then 1 else 0
theorem X_late {ng : Nat} (hn : I 33 1 = Int32.ofNat ng) (h100 : ng ≤ 100) (td : Int32) : f_X6_lateTags (ad b 33) td (lay b F E I L P nx us) = some (sm (lateF td (I 35) (I 36)) 0 ng, (lay b F E I L P nx us)) := by
  simp (decide := true) only [f_X6_lateTags_48, f_X6_lateTags_32, f_X6_lateTags, isO_s, gI_s, gA_s, gL_s, pI_s, pZ_s, pL_s, aI_s, aL_s, aN_s, aQ_s, sI_s, sL_s, cr, LNs, Option.map_some, Option.map_none, Option.bind_some, b2, tr, lt, if_true, if_false, ckZ, X_within, M_in, inR_z, X_refuse, X_tell, X_deny, X_grant, M_refused, M_denied, M_done, M_granted, u2_same, u2_ne, u2_u2, upd_same, upd_ne, aW0, ixR_z, ixR_1, M_isWall, M_isPainter, M_isWork, X_has4, X_has10, X_at, or_false, false_or, or_true, true_or, not_true, not_false_iff]
  refine lp_sum0 (T := fun n a k => f_X6_lateTags_4 n (ad b 33) td a k (lay b F E I L P nx us)) (R := fun a => some (a, (lay b F E I L P nx us))) (f := lateF td (I 35) (I 36)) (N := ng) (by omega) ?_ ?_
  · intro n a
    simp (decide := true) only [f_X6_lateTags_4, hn, Int32.le_refl, isO_s, gI_s, gA_s, gL_s, pI_s, pZ_s, pL_s, aI_s, aL_s, aN_s, aQ_s, sI_s, sL_s, cr, LNs, Option.map_some, Option.map_none, Option.bind_some, b2, tr, lt, if_true, if_false, ckZ, X_within, M_in, inR_z, X_refuse, X_tell, X_deny, X_grant, M_refused, M_denied, M_done, M_granted, u2_same, u2_ne, u2_u2, upd_same, upd_ne, aW0, ixR_z, ixR_1, M_isWall, M_isPainter, M_isWork, X_has4, X_has10, X_at, or_false, false_or, or_true, true_or, not_true, not_false_iff]
  · intro n a k hk
    have e2 := oN_leF hk (by omega)
    have e3 : iN (Int32.ofNat k) 100 = some k := iN_oN (by omega) (by omega)
    show f_X6_lateTags_4 (n + 1) (ad b 33) td a (Int32.ofNat k) (lay b F E I L P nx us) = _
    simp (decide := true) only [f_X6_lateTags_4, f_X6_lateTags_48, f_X6_lateTags_32, f_X6_lateTags, hn, e2, e3, oN_succ, lateF, isO_s, gI_s, gA_s, gL_s, pI_s, pZ_s, pL_s, aI_s, aL_s, aN_s, aQ_s, sI_s, sL_s, cr, LNs, Option.map_some, Option.map_none, Option.bind_some, b2, tr, lt, if_true, if_false, ckZ, X_within, M_in, inR_z, X_refuse, X_tell, X_deny, X_grant, M_refused, M_denied, M_done, M_granted, u2_same, u2_ne, u2_u2, upd_same, upd_ne, aW0, ixR_z, ixR_1, M_isWall, M_isPainter, M_isWork, X_has4, X_has10, X_at, or_false, false_or, or_true, true_or, not_true, not_false_iff]
    by_cases h1 : I 36 k = -1
    · simp only [h1, if_true]
      by_cases h2 : td ≤ I 35 k
      · simp only [h2, if_true, Int32.not_lt.mpr h2, if_false, Int32.add_zero]
      · simp only [h2, if_false, Int32.not_le.mp h2, if_true]
    · simp only [h1, if_false]
      by_cases h2 : I 36 k ≤ I 35 k
      · simp only [h2, if_true, Int32.not_lt.mpr h2, if_false, Int32.add_zero]
      · simp only [h2, if_false, Int32.not_le.mp h2, if_true]
theorem M_late {ng : Nat} (hn : I 72 95 = Int32.ofNat ng) (h100 : ng ≤ 100) : f_X15_late (ad b 72) (lay b F E I L P nx us) = some (sm (lateF (I 72 5) (I 140) (I 141)) 0 ng, lay b F E (th I) L P nx us) := by
  simp (decide := true) only [f_X15_late_55, f_X15_late_41, f_X15_late, isO_s, gI_s, gA_s, gL_s, pI_s, pZ_s, pL_s, aI_s, aL_s, aN_s, aQ_s, sI_s, sL_s, cr, LNs, Option.map_some, Option.map_none, Option.bind_some, b2, tr, lt, if_true, if_false, ckZ, X_within, M_in, inR_z, X_refuse, X_tell, X_deny, X_grant, M_refused, M_denied, M_done, M_granted, u2_same, u2_ne, u2_u2, upd_same, upd_ne, aW0, ixR_z, ixR_1, M_isWall, M_isPainter, M_isWork, X_has4, X_has10, X_at, or_false, false_or, or_true, true_or, not_true, not_false_iff]
  refine lp_sum0 (T := fun n a k => f_X15_late_9 n (ad b 72) a k (lay b F E (th I) L P nx us)) (R := fun a => some (a, lay b F E (th I) L P nx us)) (f := lateF (I 72 5) (I 140) (I 141)) (N := ng) (by omega) ?_ ?_
  · intro n a
    simp (decide := true) only [f_X15_late_9, th, hn, Int32.le_refl, isO_s, gI_s, gA_s, gL_s, pI_s, pZ_s, pL_s, aI_s, aL_s, aN_s, aQ_s, sI_s, sL_s, cr, LNs, Option.map_some, Option.map_none, Option.bind_some, b2, tr, lt, if_true, if_false, ckZ, X_within, M_in, inR_z, X_refuse, X_tell, X_deny, X_grant, M_refused, M_denied, M_done, M_granted, u2_same, u2_ne, u2_u2, upd_same, upd_ne, aW0, ixR_z, ixR_1, M_isWall, M_isPainter, M_isWork, X_has4, X_has10, X_at, or_false, false_or, or_true, true_or, not_true, not_false_iff]
  · intro n a k hk
    have e2 := oN_leF hk (by omega)
    have e3 : iN (Int32.ofNat k) 100 = some k := iN_oN (by omega) (by omega)
    show f_X15_late_9 (n + 1) (ad b 72) a (Int32.ofNat k) (lay b F E (th I) L P nx us) = _
    simp (decide := true) only [f_X15_late_9, f_X15_late_55, f_X15_late_41, f_X15_late, th, hn, e2, e3, oN_succ, lateF, isO_s, gI_s, gA_s, gL_s, pI_s, pZ_s, pL_s, aI_s, aL_s, aN_s, aQ_s, sI_s, sL_s, cr, LNs, Option.map_some, Option.map_none, Option.bind_some, b2, tr, lt, if_true, if_false, ckZ, X_within, M_in, inR_z, X_refuse, X_tell, X_deny, X_grant, M_refused, M_denied, M_done, M_granted, u2_same, u2_ne, u2_u2, upd_same, upd_ne, aW0, ixR_z, ixR_1, M_isWall, M_isPainter, M_isWork, X_has4, X_has10, X_at, or_false, false_or, or_true, true_or, not_true, not_false_iff]
    by_cases h1 : I 141 k = -1
    · simp only [h1, if_true]
      by_cases h2 : I 72 5 ≤ I 140 k
      · simp only [h2, if_true, Int32.not_lt.mpr h2, if_false, Int32.add_zero]
      · simp only [h2, if_false, Int32.not_le.mp h2, if_true]
    · simp only [h1, if_false]
      by_cases h2 : I 141 k ≤ I 140 k
      · simp only [h2, if_true, Int32.not_lt.mpr h2, if_false, Int32.add_zero]
      · simp only [h2, if_false, Int32.not_le.mp h2, if_true]
theorem call_late {ng nw td : Nat} (hn : Cn ng 100 (I 33 1) (I 72 95)) (ht : Cn td 3649 (I 13 14) (I 72 5)) (hG : GTag ng nw td (I 34) (I 35) (I 36) (I 139) (I 140) (I 141)) : Run b F E L P nx us (f_X11_late (ad b 0)) (f_X15_late (ad b 72)) I (th I) := by
  refine ⟨_, I, ?_, M_late hn.2.2 hn.1⟩
  have h1 : I 13 14 = I 72 5 := by rw [ht.2.1, ht.2.2]
  simp (decide := true) only [f_X11_late, X_late hn.2.1 hn.1, h1, isO_s, gI_s, gA_s, gL_s, pI_s, pZ_s, pL_s, aI_s, aL_s, aN_s, aQ_s, sI_s, sL_s, cr, LNs, Option.map_some, Option.map_none, Option.bind_some, b2, tr, lt, if_true, if_false, ckZ, X_within, M_in, inR_z, X_refuse, X_tell, X_deny, X_grant, M_refused, M_denied, M_done, M_granted, u2_same, u2_ne, u2_u2, upd_same, upd_ne, aW0, ixR_z, ixR_1, M_isWall, M_isPainter, M_isWork, X_has4, X_has10, X_at, or_false, false_or, or_true, true_or, not_true, not_false_iff]
  rw [sm_congr ng 0 (f := lateF (I 72 5) (I 35) (I 36)) (g := lateF (I 72 5) (I 140) (I 141))]
  intro k _ hk
  obtain ⟨-, g2, g3, -⟩ := hG k (by omega)
  unfold lateF
  rw [g2, g3]
end Q1
