/-! ===== tag, clean, leave, sold, themes ===== -/
theorem u2_hi {α : Type} {I : Nat → α} {a c : Nat} {f : α} (h : c < 149) : u2 I (149 + a) f c = I c := u2_ne (by omega)
theorem u2_hj {α : Type} {I : Nat → α} {a c j : Nat} {f : α} (h : c < 149) : u2 I (149 + a + j) f c = I c := u2_ne (by omega)
theorem u2_dynj {α : Type} {I : Nat → α} {c q j : Nat} {f : α} (h : c < 149) : u2 I c f (149 + q + j) = I (149 + q + j) := u2_ne (by omega)
section S3
variable {b : Nat} {F : Nat → Option AE} {D E : Nat → Option KD} {I : Nat → Nat → Int32} {L : Nat → Nat → Int64} {P : Nat → Nat → Option Nat} {nx us : Nat}
theorem call_tag (p v : Int32) {nw ng td : Nat} {q wd hg ow : Nat → Nat} (hT : GTI I) (hnw : Cn nw 16 (I 1 1) (I 72 4)) (hA : WA nw q wd hg ow E (P 2)) (hn : Cn ng 100 (I 33 1) (I 72 95)) (ht : Cn td 3649 (I 13 14) (I 72 5)) (hG : GTag ng nw td (I 34) (I 35) (I 36) (I 139) (I 140) (I 141)) : RunS b F E L P nx us (f_X11_tag (ad b 0) p v) (f_X15_tag (ad b 72) p v) I (fun I2 => Cn (ng + 1) 100 (I2 33 1) (I2 72 95) ∧ GTag (ng + 1) nw td (I2 34) (I2 35) (I2 36) (I2 139) (I2 140) (I2 141) ∧ Fr I I2 [(0, 16), (33, 1), (72, 0), (72, 1), (72, 2), (72, 95)] [34, 35, 36, 139, 140, 141]) := by
  obtain ⟨hn1, hn2, hn3⟩ := hn
  obtain ⟨ht1, ht2, ht3⟩ := ht
  rcases wallCase hnw hA p with ⟨h1, h2⟩ | ⟨w, hw, rfl, h1, h2⟩
  · exact Or.inl ⟨1, by decide, -1, u2 I 0 (upd (I 0) 16 1), by (simp (decide := true) only [f_X11_tag, h1, isO_s, gI_s, gA_s, gL_s, pI_s, pZ_s, pL_s, aI_s, aL_s, aN_s, aQ_s, sI_s, sL_s, cr, LNs, Option.map_some, Option.map_none, Option.bind_some, b2, tr, lt, if_true, if_false, ckZ, X_within, M_in, inR_z, X_refuse, X_tell, X_deny, X_grant, M_refused, M_denied, M_done, M_granted, u2_same, u2_ne, u2_u2, upd_same, upd_ne, aW0, ixR_z, ixR_1, M_isWall, M_isPainter, M_isWork, X_has4, X_has10, X_at, or_false, false_or, or_true, true_or, not_true, not_false_iff, Option.isSome_some, isO_d, gI_d, gA_d, pI_d, ne_eq, not_false_eq_true, u2_hi, u2_hj, u2_dyn, u2_dynj]; try exact rfl), by (simp (decide := true) only [f_X15_tag, h2, isO_s, gI_s, gA_s, gL_s, pI_s, pZ_s, pL_s, aI_s, aL_s, aN_s, aQ_s, sI_s, sL_s, cr, LNs, Option.map_some, Option.map_none, Option.bind_some, b2, tr, lt, if_true, if_false, ckZ, X_within, M_in, inR_z, X_refuse, X_tell, X_deny, X_grant, M_refused, M_denied, M_done, M_granted, u2_same, u2_ne, u2_u2, upd_same, upd_ne, aW0, ixR_1, M_isWall, M_isPainter, M_isWork, X_has4, X_has10, X_at, or_false, false_or, or_true, true_or, not_true, not_false_iff, Option.isSome_some, isO_d, gI_d, gA_d, pI_d, ne_eq, not_false_eq_true, u2_hi, u2_hj, u2_dyn, u2_dynj]; try exact rfl)⟩
  by_cases hv : (v < 1 ∨ 30 < v)
  · exact Or.inl ⟨2, by decide, -1, u2 I 0 (upd (I 0) 16 2), by (simp (decide := true) only [f_X11_tag, h1, hv, isO_s, gI_s, gA_s, gL_s, pI_s, pZ_s, pL_s, aI_s, aL_s, aN_s, aQ_s, sI_s, sL_s, cr, LNs, Option.map_some, Option.map_none, Option.bind_some, b2, tr, lt, if_true, if_false, ckZ, X_within, M_in, inR_z, X_refuse, X_tell, X_deny, X_grant, M_refused, M_denied, M_done, M_granted, u2_same, u2_ne, u2_u2, upd_same, upd_ne, aW0, ixR_z, ixR_1, M_isWall, M_isPainter, M_isWork, X_has4, X_has10, X_at, or_false, false_or, or_true, true_or, not_true, not_false_iff, Option.isSome_some, isO_d, gI_d, gA_d, pI_d, ne_eq, not_false_eq_true, u2_hi, u2_hj, u2_dyn, u2_dynj]; try exact rfl), by (simp (decide := true) only [f_X15_tag, h2, hv, isO_s, gI_s, gA_s, gL_s, pI_s, pZ_s, pL_s, aI_s, aL_s, aN_s, aQ_s, sI_s, sL_s, cr, LNs, Option.map_some, Option.map_none, Option.bind_some, b2, tr, lt, if_true, if_false, ckZ, X_within, M_in, inR_z, X_refuse, X_tell, X_deny, X_grant, M_refused, M_denied, M_done, M_granted, u2_same, u2_ne, u2_u2, upd_same, upd_ne, aW0, ixR_1, M_isWall, M_isPainter, M_isWork, X_has4, X_has10, X_at, or_false, false_or, or_true, true_or, not_true, not_false_iff, Option.isSome_some, isO_d, gI_d, gA_d, pI_d, ne_eq, not_false_eq_true, u2_hi, u2_hj, u2_dyn, u2_dynj]; try exact rfl)⟩
  by_cases hz : ng = 100
  · subst hz
    exact Or.inl ⟨3, by decide, -1, u2 I 0 (upd (I 0) 16 3), by (simp (decide := true) only [f_X11_tag, h1, hv, hn2, isO_s, gI_s, gA_s, gL_s, pI_s, pZ_s, pL_s, aI_s, aL_s, aN_s, aQ_s, sI_s, sL_s, cr, LNs, Option.map_some, Option.map_none, Option.bind_some, b2, tr, lt, if_true, if_false, ckZ, X_within, M_in, inR_z, X_refuse, X_tell, X_deny, X_grant, M_refused, M_denied, M_done, M_granted, u2_same, u2_ne, u2_u2, upd_same, upd_ne, aW0, ixR_z, ixR_1, M_isWall, M_isPainter, M_isWork, X_has4, X_has10, X_at, or_false, false_or, or_true, true_or, not_true, not_false_iff, Option.isSome_some, isO_d, gI_d, gA_d, pI_d, ne_eq, not_false_eq_true, u2_hi, u2_hj, u2_dyn, u2_dynj]; try exact rfl), by (simp (decide := true) only [f_X15_tag, h2, hv, hn3, isO_s, gI_s, gA_s, gL_s, pI_s, pZ_s, pL_s, aI_s, aL_s, aN_s, aQ_s, sI_s, sL_s, cr, LNs, Option.map_some, Option.map_none, Option.bind_some, b2, tr, lt, if_true, if_false, ckZ, X_within, M_in, inR_z, X_refuse, X_tell, X_deny, X_grant, M_refused, M_denied, M_done, M_granted, u2_same, u2_ne, u2_u2, upd_same, upd_ne, aW0, ixR_1, M_isWall, M_isPainter, M_isWork, X_has4, X_has10, X_at, or_false, false_or, or_true, true_or, not_true, not_false_iff, Option.isSome_some, isO_d, gI_d, gA_d, pI_d, ne_eq, not_false_eq_true, u2_hi, u2_hj, u2_dyn, u2_dynj]; try exact rfl)⟩
  have h3 : ng < 100 := by omega
  have e1 : (Int32.ofNat ng < 100) = True := oN_ltT (c := 100) h3 (by omega)
  have e2 : ¬ Int32.ofNat ng = 100 := fun q => hz ((oN_eq (by omega) (by omega : 100 < 2147483648)).mp q)
  have e3 := iN_oN h3 (by omega)
  obtain ⟨d, hd1, hd2, rfl⟩ := lo_1 (n := 30) hv (by decide)
  have e4 : Int32.ofNat td + Int32.ofNat d = Int32.ofNat (td + d) := oN_add td d
  refine Or.inr ?_
  apply Exists.intro
  refine ⟨?_, ?_, ?_, ?_, ?_⟩
  · apply Exists.intro; apply Exists.intro
    refine ⟨?_, ?_⟩
    · simp (decide := true) only [f_X11_tag, f_X6_addTag, h1, hv, hn2, e1, e3, ht2, e4, oN_succ, oN_pred, isO_s, gI_s, gA_s, gL_s, pI_s, pZ_s, pL_s, aI_s, aL_s, aN_s, aQ_s, sI_s, sL_s, cr, LNs, Option.map_some, Option.map_none, Option.bind_some, b2, tr, lt, if_true, if_false, ckZ, X_within, M_in, inR_z, X_refuse, X_tell, X_deny, X_grant, M_refused, M_denied, M_done, M_granted, u2_same, u2_ne, u2_u2, upd_same, upd_ne, aW0, ixR_z, ixR_1, M_isWall, M_isPainter, M_isWork, X_has4, X_has10, X_at, or_false, false_or, or_true, true_or, not_true, not_false_iff, Option.isSome_some, isO_d, gI_d, gA_d, pI_d, ne_eq, not_false_eq_true, u2_hi, u2_hj, u2_dyn, u2_dynj]
      exact rfl
    · simp (decide := true) only [f_X15_tag, h2, hv, hn3, e2, e3, ht3, e4, oN_succ, oN_pred, isO_s, gI_s, gA_s, gL_s, pI_s, pZ_s, pL_s, aI_s, aL_s, aN_s, aQ_s, sI_s, sL_s, cr, LNs, Option.map_some, Option.map_none, Option.bind_some, b2, tr, lt, if_true, if_false, ckZ, X_within, M_in, inR_z, X_refuse, X_tell, X_deny, X_grant, M_refused, M_denied, M_done, M_granted, u2_same, u2_ne, u2_u2, upd_same, upd_ne, aW0, ixR_1, M_isWall, M_isPainter, M_isWork, X_has4, X_has10, X_at, or_false, false_or, or_true, true_or, not_true, not_false_iff, Option.isSome_some, isO_d, gI_d, gA_d, pI_d, ne_eq, not_false_eq_true, u2_hi, u2_hj, u2_dyn, u2_dynj]
      exact rfl
  · simp (decide := true) only [GTI, u2_same, u2_ne, u2_u2, upd_same, upd_ne, mE, u2_dyn, dyn_u2, dyn_hi, u2_hi, u2_hj, u2_dynj]
    exact GT_end hT (by decide)
  · simp (decide := true) only [u2_same, u2_ne, u2_u2, upd_same, upd_ne, mE, u2_dyn, dyn_u2, dyn_hi, u2_hi, u2_hj, u2_dynj]
    exact ⟨h3, rfl, rfl⟩
  · simp (decide := true) only [u2_same, u2_ne, u2_u2, upd_same, upd_ne, mE, u2_dyn, dyn_u2, dyn_hi, u2_hi, u2_hj, u2_dynj]
    intro k hk
    by_cases hkn : k = ng
    · subst hkn
      simp only [upd_same]
      exact ⟨trivial, trivial, trivial, ⟨w, hw, rfl⟩, ⟨td + d, by omega, rfl⟩, Or.inl trivial⟩
    · simp only [upd_ne hkn]
      exact hG k (by omega)
  · exact (by intro c k h1 h2; simp at h1 h2; simp only [mE, u2, upd]; (repeat' split) <;> first | rfl | (subst_vars; simp_all [upd]))
theorem X_isTag {p : Int32} (h : I 33 1 ≤ 100) : f_X6_isTag (ad b 33) p (lay b F E I L P nx us) = some (ixR p (I 33 1), (lay b F E I L P nx us)) := by
  unfold ixR
  simp (decide := true) only [f_X6_isTag, f_X6_isTag_23, f_X6_isTag_22, isO_s, gI_s, if_true, Option.bind_some, ckZ]
  split
  · rfl
  · split
    · rfl
    · rename_i h1 h2
      have h3 : ¬ 100 ≤ p := fun q => h2 (Int32.le_trans h q)
      rw [if_neg h3]
theorem call_clean (p : Int32) {nw ng td : Nat} (hT : GTI I) (hn : Cn ng 100 (I 33 1) (I 72 95)) (ht : Cn td 3649 (I 13 14) (I 72 5)) (hG : GTag ng nw td (I 34) (I 35) (I 36) (I 139) (I 140) (I 141)) : RunS b F E L P nx us (f_X11_clean (ad b 0) p) (f_X15_clean (ad b 72) p) I (fun I2 => GTag ng nw td (I2 34) (I2 35) (I2 36) (I2 139) (I2 140) (I2 141) ∧ Fr I I2 [(0, 16), (72, 0), (72, 1), (72, 2)] [36, 141]) := by
  obtain ⟨hn1, hn2, hn3⟩ := hn
  obtain ⟨ht1, ht2, ht3⟩ := ht
  have h100 : Int32.ofNat ng ≤ 100 := oN_leL hn1 (by decide)
  rcases ixc p (n := ng) (by omega) with h | ⟨k, hk, rfl⟩
  · refine Or.inl ⟨1, by decide, 0, u2 I 0 (upd (I 0) 16 1), by (simp (decide := true) only [f_X11_clean, X_isTag, h100, hn2, h, isO_s, gI_s, gA_s, gL_s, pI_s, pZ_s, pL_s, aI_s, aL_s, aN_s, aQ_s, sI_s, sL_s, cr, LNs, Option.map_some, Option.map_none, Option.bind_some, b2, tr, lt, if_true, if_false, ckZ, X_within, M_in, inR_z, X_refuse, X_tell, X_deny, X_grant, M_refused, M_denied, M_done, M_granted, u2_same, u2_ne, u2_u2, upd_same, upd_ne, aW0, ixR_z, ixR_1, M_isWall, M_isPainter, M_isWork, X_has4, X_has10, X_at, or_false, false_or, or_true, true_or, not_true, not_false_iff, Option.isSome_some, isO_d, gI_d, gA_d, pI_d, ne_eq, not_false_eq_true, u2_hi, u2_hj, u2_dyn, u2_dynj]; try exact rfl), ?_⟩
    by_cases h5 : p < 0
    · (simp (decide := true) only [f_X15_clean_17, f_X15_clean, h5, isO_s, gI_s, gA_s, gL_s, pI_s, pZ_s, pL_s, aI_s, aL_s, aN_s, aQ_s, sI_s, sL_s, cr, LNs, Option.map_some, Option.map_none, Option.bind_some, b2, tr, lt, if_true, if_false, ckZ, X_within, M_in, inR_z, X_refuse, X_tell, X_deny, X_grant, M_refused, M_denied, M_done, M_granted, u2_same, u2_ne, u2_u2, upd_same, upd_ne, aW0, ixR_z, ixR_1, M_isWall, M_isPainter, M_isWork, X_has4, X_has10, X_at, or_false, false_or, or_true, true_or, not_true, not_false_iff, Option.isSome_some, isO_d, gI_d, gA_d, pI_d, ne_eq, not_false_eq_true, u2_hi, u2_hj, u2_dyn, u2_dynj]; try exact rfl)
    · have h6 := h.resolve_left h5
      (simp (decide := true) only [f_X15_clean_17, f_X15_clean, h5, hn3, Int32.not_lt.mpr h6, isO_s, gI_s, gA_s, gL_s, pI_s, pZ_s, pL_s, aI_s, aL_s, aN_s, aQ_s, sI_s, sL_s, cr, LNs, Option.map_some, Option.map_none, Option.bind_some, b2, tr, lt, if_true, if_false, ckZ, X_within, M_in, inR_z, X_refuse, X_tell, X_deny, X_grant, M_refused, M_denied, M_done, M_granted, u2_same, u2_ne, u2_u2, upd_same, upd_ne, aW0, ixR_z, ixR_1, M_isWall, M_isPainter, M_isWork, X_has4, X_has10, X_at, or_false, false_or, or_true, true_or, not_true, not_false_iff, Option.isSome_some, isO_d, gI_d, gA_d, pI_d, ne_eq, not_false_eq_true, u2_hi, u2_hj, u2_dyn, u2_dynj]; try exact rfl)
  have e1 := oN_neg (w := k) (by omega)
  have e2 := oN_leF hk (by omega)
  have e3 : iN (Int32.ofNat k) 100 = some k := iN_oN (by omega) (by omega)
  have e4 := oN_ltT hk (by omega)
  obtain ⟨g1, g2, g3, g4, g5, g6⟩ := hG k hk
  by_cases hc : I 141 k = -1
  · have hc' : I 36 k = -1 := by rw [g3]; exact hc
    refine Or.inr ?_
    apply Exists.intro
    refine ⟨?_, ?_, ?_, ?_⟩
    · apply Exists.intro; apply Exists.intro
      refine ⟨?_, ?_⟩
      · simp (decide := true) only [f_X11_clean, f_X6_cleanTag_18, f_X6_cleanTag, X_isTag, h100, hn2, e1, e2, e3, hc', ht2, isO_s, gI_s, gA_s, gL_s, pI_s, pZ_s, pL_s, aI_s, aL_s, aN_s, aQ_s, sI_s, sL_s, cr, LNs, Option.map_some, Option.map_none, Option.bind_some, b2, tr, lt, if_true, if_false, ckZ, X_within, M_in, inR_z, X_refuse, X_tell, X_deny, X_grant, M_refused, M_denied, M_done, M_granted, u2_same, u2_ne, u2_u2, upd_same, upd_ne, aW0, ixR_z, ixR_1, M_isWall, M_isPainter, M_isWork, X_has4, X_has10, X_at, or_false, false_or, or_true, true_or, not_true, not_false_iff, Option.isSome_some, isO_d, gI_d, gA_d, pI_d, ne_eq, not_false_eq_true, u2_hi, u2_hj, u2_dyn, u2_dynj]
        exact rfl
      · simp (decide := true) only [f_X15_clean_17, f_X15_clean, hn3, e1, e4, e3, hc, ht3, isO_s, gI_s, gA_s, gL_s, pI_s, pZ_s, pL_s, aI_s, aL_s, aN_s, aQ_s, sI_s, sL_s, cr, LNs, Option.map_some, Option.map_none, Option.bind_some, b2, tr, lt, if_true, if_false, ckZ, X_within, M_in, inR_z, X_refuse, X_tell, X_deny, X_grant, M_refused, M_denied, M_done, M_granted, u2_same, u2_ne, u2_u2, upd_same, upd_ne, aW0, ixR_z, ixR_1, M_isWall, M_isPainter, M_isWork, X_has4, X_has10, X_at, or_false, false_or, or_true, true_or, not_true, not_false_iff, Option.isSome_some, isO_d, gI_d, gA_d, pI_d, ne_eq, not_false_eq_true, u2_hi, u2_hj, u2_dyn, u2_dynj]
        exact rfl
    · simp (decide := true) only [GTI, u2_same, u2_ne, u2_u2, upd_same, upd_ne, mE, u2_dyn, dyn_u2, dyn_hi, u2_hi, u2_hj, u2_dynj]
      exact GT_end hT (by decide)
    · simp (decide := true) only [u2_same, u2_ne, u2_u2, upd_same, upd_ne, mE, u2_dyn, dyn_u2, dyn_hi, u2_hi, u2_hj, u2_dynj]
      intro j hj
      by_cases hkn : j = k
      · subst hkn
        simp only [upd_same]
        exact ⟨g1, g2, trivial, g4, g5, Or.inr ⟨td, by omega, rfl⟩⟩
      · simp only [upd_ne hkn]
        exact hG j (by omega)
    · exact (by intro c k h1 h2; simp at h1 h2; simp only [mE, u2, upd]; (repeat' split) <;> first | rfl | (subst_vars; simp_all [upd]))
  · have hc' : ¬ I 36 k = -1 := by rw [g3]; exact hc
    exact Or.inl ⟨5, by decide, 0, u2 I 0 (upd (I 0) 16 5), by (simp (decide := true) only [f_X11_clean, f_X6_cleanTag_18, f_X6_cleanTag, X_isTag, h100, hn2, e1, e2, e3, hc', isO_s, gI_s, gA_s, gL_s, pI_s, pZ_s, pL_s, aI_s, aL_s, aN_s, aQ_s, sI_s, sL_s, cr, LNs, Option.map_some, Option.map_none, Option.bind_some, b2, tr, lt, if_true, if_false, ckZ, X_within, M_in, inR_z, X_refuse, X_tell, X_deny, X_grant, M_refused, M_denied, M_done, M_granted, u2_same, u2_ne, u2_u2, upd_same, upd_ne, aW0, ixR_z, ixR_1, M_isWall, M_isPainter, M_isWork, X_has4, X_has10, X_at, or_false, false_or, or_true, true_or, not_true, not_false_iff, Option.isSome_some, isO_d, gI_d, gA_d, pI_d, ne_eq, not_false_eq_true, u2_hi, u2_hj, u2_dyn, u2_dynj]; try exact rfl), by (simp (decide := true) only [f_X15_clean_17, f_X15_clean, hn3, e1, e4, e3, hc, isO_s, gI_s, gA_s, gL_s, pI_s, pZ_s, pL_s, aI_s, aL_s, aN_s, aQ_s, sI_s, sL_s, cr, LNs, Option.map_some, Option.map_none, Option.bind_some, b2, tr, lt, if_true, if_false, ckZ, X_within, M_in, inR_z, X_refuse, X_tell, X_deny, X_grant, M_refused, M_denied, M_done, M_granted, u2_same, u2_ne, u2_u2, upd_same, upd_ne, aW0, ixR_z, ixR_1, M_isWall, M_isPainter, M_isWork, X_has4, X_has10, X_at, or_false, false_or, or_true, true_or, not_true, not_false_iff, Option.isSome_some, isO_d, gI_d, gA_d, pI_d, ne_eq, not_false_eq_true, u2_hi, u2_hj, u2_dyn, u2_dynj]; try exact rfl)⟩
theorem call_leave (p x y c : Int32) {nw nk nt : Nat} {q wd hg ow : Nat → Nat} (hc : c = 0 ∨ c = 1) (hT : GTI I) (hnw : Cn nw 16 (I 1 1) (I 72 4)) (hA : WA nw q wd hg ow E (P 2)) (hW : WALL nw nk nt q wd hg I) : RunS b F E L P nx us (f_X11_leave (ad b 0) p x y c) (f_X15_leave (ad b 72) p x y c) I (fun I2 => WALL nw nk nt q wd hg I2 ∧ FrW ow I I2 [(0, 16), (72, 0), (72, 1), (72, 2)] [77, 78, 83]) := by
  rcases wallCase hnw hA p with ⟨h1, h2⟩ | ⟨w, hw, rfl, h1, h2⟩
  · exact Or.inl ⟨1, by decide, 0, u2 I 0 (upd (I 0) 16 1), by (simp (decide := true) only [f_X11_leave_41, f_X11_leave, h1, isO_s, gI_s, gA_s, gL_s, pI_s, pZ_s, pL_s, aI_s, aL_s, aN_s, aQ_s, sI_s, sL_s, cr, LNs, Option.map_some, Option.map_none, Option.bind_some, b2, tr, lt, if_true, if_false, ckZ, X_within, M_in, inR_z, X_refuse, X_tell, X_deny, X_grant, M_refused, M_denied, M_done, M_granted, u2_same, u2_ne, u2_u2, upd_same, upd_ne, aW0, ixR_z, ixR_1, M_isWall, M_isPainter, M_isWork, X_has4, X_has10, X_at, or_false, false_or, or_true, true_or, not_true, not_false_iff, Option.isSome_some, isO_d, gI_d, gA_d, pI_d, ne_eq, not_false_eq_true, u2_hi, u2_hj, u2_dyn, u2_dynj]; try exact rfl), by (simp (decide := true) only [f_X15_leave_39, f_X15_leave, h2, isO_s, gI_s, gA_s, gL_s, pI_s, pZ_s, pL_s, aI_s, aL_s, aN_s, aQ_s, sI_s, sL_s, cr, LNs, Option.map_some, Option.map_none, Option.bind_some, b2, tr, lt, if_true, if_false, ckZ, X_within, M_in, inR_z, X_refuse, X_tell, X_deny, X_grant, M_refused, M_denied, M_done, M_granted, u2_same, u2_ne, u2_u2, upd_same, upd_ne, aW0, ixR_1, M_isWall, M_isPainter, M_isWork, X_has4, X_has10, X_at, or_false, false_or, or_true, true_or, not_true, not_false_iff, Option.isSome_some, isO_d, gI_d, gA_d, pI_d, ne_eq, not_false_eq_true, u2_hi, u2_hj, u2_dyn, u2_dynj]; try exact rfl)⟩
  by_cases hx : (x < 0 ∨ 9 < x)
  · exact Or.inl ⟨2, by decide, 0, u2 I 0 (upd (I 0) 16 2), by (simp (decide := true) only [f_X11_leave_41, f_X11_leave, h1, hx, isO_s, gI_s, gA_s, gL_s, pI_s, pZ_s, pL_s, aI_s, aL_s, aN_s, aQ_s, sI_s, sL_s, cr, LNs, Option.map_some, Option.map_none, Option.bind_some, b2, tr, lt, if_true, if_false, ckZ, X_within, M_in, inR_z, X_refuse, X_tell, X_deny, X_grant, M_refused, M_denied, M_done, M_granted, u2_same, u2_ne, u2_u2, upd_same, upd_ne, aW0, ixR_z, ixR_1, M_isWall, M_isPainter, M_isWork, X_has4, X_has10, X_at, or_false, false_or, or_true, true_or, not_true, not_false_iff, Option.isSome_some, isO_d, gI_d, gA_d, pI_d, ne_eq, not_false_eq_true, u2_hi, u2_hj, u2_dyn, u2_dynj]; try exact rfl), by (simp (decide := true) only [f_X15_leave_39, f_X15_leave, h2, hx, isO_s, gI_s, gA_s, gL_s, pI_s, pZ_s, pL_s, aI_s, aL_s, aN_s, aQ_s, sI_s, sL_s, cr, LNs, Option.map_some, Option.map_none, Option.bind_some, b2, tr, lt, if_true, if_false, ckZ, X_within, M_in, inR_z, X_refuse, X_tell, X_deny, X_grant, M_refused, M_denied, M_done, M_granted, u2_same, u2_ne, u2_u2, upd_same, upd_ne, aW0, ixR_1, M_isWall, M_isPainter, M_isWork, X_has4, X_has10, X_at, or_false, false_or, or_true, true_or, not_true, not_false_iff, Option.isSome_some, isO_d, gI_d, gA_d, pI_d, ne_eq, not_false_eq_true, u2_hi, u2_hj, u2_dyn, u2_dynj]; try exact rfl)⟩
  by_cases hy : (y < x ∨ 9 < y)
  · exact Or.inl ⟨2, by decide, 0, u2 I 0 (upd (I 0) 16 2), by (simp (decide := true) only [f_X11_leave_41, f_X11_leave, h1, hx, hy, isO_s, gI_s, gA_s, gL_s, pI_s, pZ_s, pL_s, aI_s, aL_s, aN_s, aQ_s, sI_s, sL_s, cr, LNs, Option.map_some, Option.map_none, Option.bind_some, b2, tr, lt, if_true, if_false, ckZ, X_within, M_in, inR_z, X_refuse, X_tell, X_deny, X_grant, M_refused, M_denied, M_done, M_granted, u2_same, u2_ne, u2_u2, upd_same, upd_ne, aW0, ixR_z, ixR_1, M_isWall, M_isPainter, M_isWork, X_has4, X_has10, X_at, or_false, false_or, or_true, true_or, not_true, not_false_iff, Option.isSome_some, isO_d, gI_d, gA_d, pI_d, ne_eq, not_false_eq_true, u2_hi, u2_hj, u2_dyn, u2_dynj]; try exact rfl), by (simp (decide := true) only [f_X15_leave_39, f_X15_leave, h2, hx, hy, isO_s, gI_s, gA_s, gL_s, pI_s, pZ_s, pL_s, aI_s, aL_s, aN_s, aQ_s, sI_s, sL_s, cr, LNs, Option.map_some, Option.map_none, Option.bind_some, b2, tr, lt, if_true, if_false, ckZ, X_within, M_in, inR_z, X_refuse, X_tell, X_deny, X_grant, M_refused, M_denied, M_done, M_granted, u2_same, u2_ne, u2_u2, upd_same, upd_ne, aW0, ixR_1, M_isWall, M_isPainter, M_isWork, X_has4, X_has10, X_at, or_false, false_or, or_true, true_or, not_true, not_false_iff, Option.isSome_some, isO_d, gI_d, gA_d, pI_d, ne_eq, not_false_eq_true, u2_hi, u2_hj, u2_dyn, u2_dynj]; try exact rfl)⟩
  obtain ⟨-, hK, -⟩ := hA w hw
  obtain ⟨k0, -⟩ := WKk hK
  have hw16 : w < 16 := by have := hnw.1; omega
  have e3 : iN (Int32.ofNat w) 16 = some w := iN_oN hw16 (by omega)
  have e6 : aW 2 c = c := by rcases hc with rfl | rfl <;> decide
  obtain ⟨hB, hC, hD, hE, hF, hG, hH, hI, hU⟩ := hW
  have hpz := fun I' => pZ_d (b := b) (F := F) (L := L) (P := P) (nx := nx) (us := us) (I := I') (k := 6) (x := c) k0 (by decide) hc
  refine Or.inr ?_
  apply Exists.intro
  refine ⟨?_, ?_, ?_, ?_⟩
  · apply Exists.intro; apply Exists.intro
    refine ⟨?_, ?_⟩
    · simp (decide := true) only [f_X11_leave_41, f_X11_leave, f_X8_setLeave, h1, hx, hy, k0, hpz, isO_s, gI_s, gA_s, gL_s, pI_s, pL_s, aI_s, aL_s, aN_s, aQ_s, sI_s, sL_s, cr, LNs, Option.map_some, Option.map_none, Option.bind_some, b2, tr, lt, if_true, if_false, ckZ, X_within, M_in, inR_z, X_refuse, X_tell, X_deny, X_grant, M_refused, M_denied, M_done, M_granted, u2_same, u2_ne, u2_u2, upd_same, upd_ne, aW0, ixR_z, ixR_1, M_isWall, M_isPainter, M_isWork, X_has4, X_has10, X_at, or_false, false_or, or_true, true_or, not_true, not_false_iff, Option.isSome_some, isO_d, gI_d, gA_d, pI_d, ne_eq, not_false_eq_true, u2_hi, u2_hj, u2_dyn, u2_dynj]
      exact rfl
    · simp (decide := true) only [f_X15_leave_39, f_X15_leave, h2, hx, hy, e3, e6, isO_s, gI_s, gA_s, gL_s, pI_s, pZ_s, pL_s, aI_s, aL_s, aN_s, aQ_s, sI_s, sL_s, cr, LNs, Option.map_some, Option.map_none, Option.bind_some, b2, tr, lt, if_true, if_false, ckZ, X_within, M_in, inR_z, X_refuse, X_tell, X_deny, X_grant, M_refused, M_denied, M_done, M_granted, u2_same, u2_ne, u2_u2, upd_same, upd_ne, aW0, ixR_1, M_isWall, M_isPainter, M_isWork, X_has4, X_has10, X_at, or_false, false_or, or_true, true_or, not_true, not_false_iff, Option.isSome_some, isO_d, gI_d, gA_d, pI_d, ne_eq, not_false_eq_true, u2_hi, u2_hj, u2_dyn, u2_dynj]
      exact rfl
  · simp (decide := true) only [GTI, u2_dyn, u2_same, u2_ne, u2_u2, upd_same, upd_ne, mE, u2_dyn, dyn_u2, dyn_hi, u2_hi, u2_hj, u2_dynj]
    exact GT_end hT (by decide)
  · simp (decide := true) only [WALL, u2_same, u2_ne, u2_u2, upd_same, upd_ne, mE, u2_dyn, dyn_u2, dyn_hi, u2_hi, u2_hj, u2_dynj]
    refine ⟨hB.sl hA hw rfl rfl, hC.sl hA hw rfl rfl rfl, ?_, hE.sl hA hw rfl rfl rfl, hF.sl hA hw, hG.sl hA hw, hH.sl hA hw, hI.sl hA hw, ?_⟩
    · intro w' hw'
      by_cases hz : w' = w
      · subst hz
        simp only [u2_same, upd_same]
        exact ⟨trivial, hc, fun y hy => rfl⟩
      · rw [sl0 hA hw hw' hz, upd_ne hz, upd_ne hz, upd_ne hz]
        exact hD w' hw'
    · intro w' h3 h4
      rw [upd_ne (show w' ≠ w by omega)]
      exact hU w' h3 h4
  · exact (by refine ⟨?_, ?_⟩; (intro c k h0 h1 h2; simp at h1 h2; simp only [mE, u2, upd]; (repeat' split) <;> first | rfl | omega | (subst_vars; simp_all [upd])); (intro c hc; simp (decide := true) only [dyn_u2, dyn_hi]; exact u2_ne (fun e => hc (e ▸ (hA w hw).2.2.2.2.2.2.2 0 (by omega)))))
theorem call_themes (p x : Int32) {nw nk nt : Nat} {q wd hg ow : Nat → Nat} (hT : GTI I) (hnw : Cn nw 16 (I 1 1) (I 72 4)) (hA : WA nw q wd hg ow E (P 2)) (hW : WALL nw nk nt q wd hg I) : RunS b F E L P nx us (f_X11_themes (ad b 0) p x) (f_X15_themes (ad b 72) p x) I (fun I2 => WALL nw nk nt q wd hg I2 ∧ FrW ow I I2 [(0, 16), (72, 0), (72, 1), (72, 2)] [79]) := by
  rcases wallCase hnw hA p with ⟨h1, h2⟩ | ⟨w, hw, rfl, h1, h2⟩
  · exact Or.inl ⟨1, by decide, 0, u2 I 0 (upd (I 0) 16 1), by (simp (decide := true) only [f_X11_themes, h1, isO_s, gI_s, gA_s, gL_s, pI_s, pZ_s, pL_s, aI_s, aL_s, aN_s, aQ_s, sI_s, sL_s, cr, LNs, Option.map_some, Option.map_none, Option.bind_some, b2, tr, lt, if_true, if_false, ckZ, X_within, M_in, inR_z, X_refuse, X_tell, X_deny, X_grant, M_refused, M_denied, M_done, M_granted, u2_same, u2_ne, u2_u2, upd_same, upd_ne, aW0, ixR_z, ixR_1, M_isWall, M_isPainter, M_isWork, X_has4, X_has10, X_at, or_false, false_or, or_true, true_or, not_true, not_false_iff, Option.isSome_some, isO_d, gI_d, gA_d, pI_d, ne_eq, not_false_eq_true, u2_hi, u2_hj, u2_dyn, u2_dynj]; try exact rfl), by (simp (decide := true) only [f_X15_themes, h2, isO_s, gI_s, gA_s, gL_s, pI_s, pZ_s, pL_s, aI_s, aL_s, aN_s, aQ_s, sI_s, sL_s, cr, LNs, Option.map_some, Option.map_none, Option.bind_some, b2, tr, lt, if_true, if_false, ckZ, X_within, M_in, inR_z, X_refuse, X_tell, X_deny, X_grant, M_refused, M_denied, M_done, M_granted, u2_same, u2_ne, u2_u2, upd_same, upd_ne, aW0, ixR_1, M_isWall, M_isPainter, M_isWork, X_has4, X_has10, X_at, or_false, false_or, or_true, true_or, not_true, not_false_iff, Option.isSome_some, isO_d, gI_d, gA_d, pI_d, ne_eq, not_false_eq_true, u2_hi, u2_hj, u2_dyn, u2_dynj]; try exact rfl)⟩
  by_cases hx : (x < 0 ∨ 1023 < x)
  · exact Or.inl ⟨2, by decide, 0, u2 I 0 (upd (I 0) 16 2), by (simp (decide := true) only [f_X11_themes, h1, hx, isO_s, gI_s, gA_s, gL_s, pI_s, pZ_s, pL_s, aI_s, aL_s, aN_s, aQ_s, sI_s, sL_s, cr, LNs, Option.map_some, Option.map_none, Option.bind_some, b2, tr, lt, if_true, if_false, ckZ, X_within, M_in, inR_z, X_refuse, X_tell, X_deny, X_grant, M_refused, M_denied, M_done, M_granted, u2_same, u2_ne, u2_u2, upd_same, upd_ne, aW0, ixR_z, ixR_1, M_isWall, M_isPainter, M_isWork, X_has4, X_has10, X_at, or_false, false_or, or_true, true_or, not_true, not_false_iff, Option.isSome_some, isO_d, gI_d, gA_d, pI_d, ne_eq, not_false_eq_true, u2_hi, u2_hj, u2_dyn, u2_dynj]; try exact rfl), by (simp (decide := true) only [f_X15_themes, h2, hx, isO_s, gI_s, gA_s, gL_s, pI_s, pZ_s, pL_s, aI_s, aL_s, aN_s, aQ_s, sI_s, sL_s, cr, LNs, Option.map_some, Option.map_none, Option.bind_some, b2, tr, lt, if_true, if_false, ckZ, X_within, M_in, inR_z, X_refuse, X_tell, X_deny, X_grant, M_refused, M_denied, M_done, M_granted, u2_same, u2_ne, u2_u2, upd_same, upd_ne, aW0, ixR_1, M_isWall, M_isPainter, M_isWork, X_has4, X_has10, X_at, or_false, false_or, or_true, true_or, not_true, not_false_iff, Option.isSome_some, isO_d, gI_d, gA_d, pI_d, ne_eq, not_false_eq_true, u2_hi, u2_hj, u2_dyn, u2_dynj]; try exact rfl)⟩
  obtain ⟨-, hK, -⟩ := hA w hw
  obtain ⟨k0, -⟩ := WKk hK
  have hw16 : w < 16 := by have := hnw.1; omega
  have e3 : iN (Int32.ofNat w) 16 = some w := iN_oN hw16 (by omega)
  obtain ⟨hB, hC, hD, hE, hF, hG, hH, hI, hU⟩ := hW
  refine Or.inr ?_
  apply Exists.intro
  refine ⟨?_, ?_, ?_, ?_⟩
  · apply Exists.intro; apply Exists.intro
    refine ⟨?_, ?_⟩
    · simp (decide := true) only [f_X11_themes, h1, hx, k0, isO_s, gI_s, gA_s, gL_s, pI_s, pZ_s, pL_s, aI_s, aL_s, aN_s, aQ_s, sI_s, sL_s, cr, LNs, Option.map_some, Option.map_none, Option.bind_some, b2, tr, lt, if_true, if_false, ckZ, X_within, M_in, inR_z, X_refuse, X_tell, X_deny, X_grant, M_refused, M_denied, M_done, M_granted, u2_same, u2_ne, u2_u2, upd_same, upd_ne, aW0, ixR_z, ixR_1, M_isWall, M_isPainter, M_isWork, X_has4, X_has10, X_at, or_false, false_or, or_true, true_or, not_true, not_false_iff, Option.isSome_some, isO_d, gI_d, gA_d, pI_d, ne_eq, not_false_eq_true, u2_hi, u2_hj, u2_dyn, u2_dynj]
      exact rfl
    · simp (decide := true) only [f_X15_themes, h2, hx, e3, isO_s, gI_s, gA_s, gL_s, pI_s, pZ_s, pL_s, aI_s, aL_s, aN_s, aQ_s, sI_s, sL_s, cr, LNs, Option.map_some, Option.map_none, Option.bind_some, b2, tr, lt, if_true, if_false, ckZ, X_within, M_in, inR_z, X_refuse, X_tell, X_deny, X_grant, M_refused, M_denied, M_done, M_granted, u2_same, u2_ne, u2_u2, upd_same, upd_ne, aW0, ixR_1, M_isWall, M_isPainter, M_isWork, X_has4, X_has10, X_at, or_false, false_or, or_true, true_or, not_true, not_false_iff, Option.isSome_some, isO_d, gI_d, gA_d, pI_d, ne_eq, not_false_eq_true, u2_hi, u2_hj, u2_dyn, u2_dynj]
      exact rfl
  · simp (decide := true) only [GTI, u2_dyn, u2_same, u2_ne, u2_u2, upd_same, upd_ne, mE, u2_dyn, dyn_u2, dyn_hi, u2_hi, u2_hj, u2_dynj]
    exact GT_end hT (by decide)
  · simp (decide := true) only [WALL, u2_same, u2_ne, u2_u2, upd_same, upd_ne, mE, u2_dyn, dyn_u2, dyn_hi, u2_hi, u2_hj, u2_dynj]
    refine ⟨hB.sl hA hw rfl rfl, ?_, hD.sl hA hw rfl rfl rfl, hE.sl hA hw rfl rfl rfl, hF.sl hA hw, hG.sl hA hw, hH.sl hA hw, hI.sl hA hw, ?_⟩
    · intro w' hw'
      by_cases hz : w' = w
      · subst hz
        simp only [u2_same, upd_same]
        obtain ⟨c1, c2, c3, -⟩ := hC w' hw'
        exact ⟨c1, c2, c3, trivial, nI_rng hx⟩
      · rw [sl0 hA hw hw' hz, upd_ne hz]
        exact hC w' hw'
    · intro w' h3 h4
      rw [upd_ne (show w' ≠ w by omega)]
      exact hU w' h3 h4
  · exact (by refine ⟨?_, ?_⟩; (intro c k h0 h1 h2; simp at h1 h2; simp only [mE, u2, upd]; (repeat' split) <;> first | rfl | omega | (subst_vars; simp_all [upd])); (intro c hc; simp (decide := true) only [dyn_u2, dyn_hi]; exact u2_ne (fun e => hc (e ▸ (hA w hw).2.2.2.2.2.2.2 0 (by omega)))))
end S3
