/-! ===== unlike, shows, pale ===== -/
section Q7
variable {b : Nat} {F : Nat → Option AE} {D E : Nat → Option KD} {I : Nat → Nat → Int32} {L : Nat → Nat → Int64} {P : Nat → Nat → Option Nat} {nx us : Nat}
theorem X_unlike {a n : Nat} (k0 : kdf E (149 + a) = some (.inr (8, true))) (k2 : kdf E (149 + a + 2) = some (.inl (1, n))) (hn : n ≤ 192) : f_X11_unlike_58 FU (ad b 0) (ad b (149 + a)) 0 0 (lay b F E I L P nx us) = some (sm (fun c => if I (149 + a + 2) c = I 59 c then 0 else 1) 0 n, (lay b F E I L P nx us)) := by
  refine lp_sum0 (T := fun n a' k => f_X11_unlike_58 n (ad b 0) (ad b (149 + a)) a' k (lay b F E I L P nx us)) (R := fun a => some (a, (lay b F E I L P nx us))) (f := fun c => if I (149 + a + 2) c = I 59 c then 0 else 1) (N := n) (by omega) ?_ ?_
  · intro n' a'
    simp (decide := true) only [f_X11_unlike_58, f_X11_unlike_105, k0, aN_d k2, Int32.le_refl, isO_s, gI_s, gA_s, gL_s, pI_s, pZ_s, pL_s, aI_s, aL_s, aN_s, aQ_s, sI_s, sL_s, cr, LNs, Option.map_some, Option.map_none, Option.bind_some, b2, tr, lt, if_true, if_false, ckZ, X_within, M_in, inR_z, X_refuse, X_tell, X_deny, X_grant, M_refused, M_denied, M_done, M_granted, u2_same, u2_ne, u2_u2, upd_same, upd_ne, aW0, ixR_z, ixR_1, M_isWall, M_isPainter, M_isWork, X_has4, X_has10, X_at, or_false, false_or, or_true, true_or, not_true, not_false_iff, Option.isSome_some, isO_d, gI_d, gA_d, pI_d, ne_eq, not_false_eq_true, u2_hi, u2_hj, u2_dyn, u2_dynj, Nat.reduceAdd]
  · intro n' a' k hk
    have e2 := oN_leF hk (by omega)
    have e3 : iN (Int32.ofNat k) n = some k := iN_oN (by omega) (by omega)
    have e4 : ((192 : Int32) ≤ Int32.ofNat k) = False := oN_leF (c := 192) (by omega) (by omega)
    have e5 : iN (Int32.ofNat k) 192 = some k := iN_oN (by omega) (by omega)
    show f_X11_unlike_58 (n' + 1) (ad b 0) (ad b (149 + a)) a' (Int32.ofNat k) (lay b F E I L P nx us) = _
    simp (decide := true) only [f_X11_unlike_58, f_X11_unlike_99, k0, aN_d k2, aI_d k2 (by decide), e2, e3, e4, e5, oN_succ, isO_s, gI_s, gA_s, gL_s, pI_s, pZ_s, pL_s, aI_s, aL_s, aN_s, aQ_s, sI_s, sL_s, cr, LNs, Option.map_some, Option.map_none, Option.bind_some, b2, tr, lt, if_true, if_false, ckZ, X_within, M_in, inR_z, X_refuse, X_tell, X_deny, X_grant, M_refused, M_denied, M_done, M_granted, u2_same, u2_ne, u2_u2, upd_same, upd_ne, aW0, ixR_z, ixR_1, M_isWall, M_isPainter, M_isWork, X_has4, X_has10, X_at, or_false, false_or, or_true, true_or, not_true, not_false_iff, Option.isSome_some, isO_d, gI_d, gA_d, pI_d, ne_eq, not_false_eq_true, u2_hi, u2_hj, u2_dyn, u2_dynj, Nat.reduceAdd]
    by_cases h1 : I (149 + a + 2) k = I 59 k
    · simp only [h1, if_true, Int32.add_zero]
    · simp only [h1, if_false]
theorem M_unlike {w wd hg : Nat} (hw : w < 16) (h1 : I 72 52 = Int32.ofNat wd) (h2 : I 72 53 = Int32.ofNat hg) (hn : wd * hg ≤ 192) : f_X15_unlike_52 FU (ad b 72) (Int32.ofNat w) 0 0 (lay b F E I L P nx us) = some (sm (fun c => if I 110 c = I 86 (192 * w + c) then 0 else 1) 0 (wd * hg), (lay b F E I L P nx us)) := by
  refine lp_sum0 (T := fun n a' k => f_X15_unlike_52 n (ad b 72) (Int32.ofNat w) a' k (lay b F E I L P nx us)) (R := fun a => some (a, (lay b F E I L P nx us))) (f := fun c => if I 110 c = I 86 (192 * w + c) then 0 else 1) (N := wd * hg) (by omega) ?_ ?_
  · intro n' a'
    simp (decide := true) only [f_X15_unlike_52, h1, h2, oN_mul, Int32.le_refl, isO_s, gI_s, gA_s, gL_s, pI_s, pZ_s, pL_s, aI_s, aL_s, aN_s, aQ_s, sI_s, sL_s, cr, LNs, Option.map_some, Option.map_none, Option.bind_some, b2, tr, lt, if_true, if_false, ckZ, X_within, M_in, inR_z, X_refuse, X_tell, X_deny, X_grant, M_refused, M_denied, M_done, M_granted, u2_same, u2_ne, u2_u2, upd_same, upd_ne, aW0, ixR_z, ixR_1, M_isWall, M_isPainter, M_isWork, X_has4, X_has10, X_at, or_false, false_or, or_true, true_or, not_true, not_false_iff, Option.isSome_some, isO_d, gI_d, gA_d, pI_d, ne_eq, not_false_eq_true, u2_hi, u2_hj, u2_dyn, u2_dynj, Nat.reduceAdd]
  · intro n' a' k hk
    have e2 := oN_leF hk (by omega)
    have e3 : iN (Int32.ofNat (192 * w + k)) 3072 = some (192 * w + k) := iN_oN (by omega) (by omega)
    have e5 : iN (Int32.ofNat k) 192 = some k := iN_oN (by omega) (by omega)
    show f_X15_unlike_52 (n' + 1) (ad b 72) (Int32.ofNat w) a' (Int32.ofNat k) (lay b F E I L P nx us) = _
    simp (decide := true) only [f_X15_unlike_52, f_X15_unlike_92, h1, h2, ix192, oN_mul, e2, e3, e5, oN_succ, isO_s, gI_s, gA_s, gL_s, pI_s, pZ_s, pL_s, aI_s, aL_s, aN_s, aQ_s, sI_s, sL_s, cr, LNs, Option.map_some, Option.map_none, Option.bind_some, b2, tr, lt, if_true, if_false, ckZ, X_within, M_in, inR_z, X_refuse, X_tell, X_deny, X_grant, M_refused, M_denied, M_done, M_granted, u2_same, u2_ne, u2_u2, upd_same, upd_ne, aW0, ixR_z, ixR_1, M_isWall, M_isPainter, M_isWork, X_has4, X_has10, X_at, or_false, false_or, or_true, true_or, not_true, not_false_iff, Option.isSome_some, isO_d, gI_d, gA_d, pI_d, ne_eq, not_false_eq_true, u2_hi, u2_hj, u2_dyn, u2_dynj, Nat.reduceAdd]
    by_cases h1 : I 110 k = I 86 (192 * w + k)
    · simp only [h1, if_true, Int32.add_zero]
    · simp only [h1, if_false]
theorem call_unlike (p : Int32) {nw nk nt : Nat} {q wd hg ow : Nat → Nat} (hnw : Cn nw 16 (I 1 1) (I 72 4)) (hA : WA nw q wd hg ow E (P 2)) (hW : WALL nw nk nt q wd hg I) (hG : GSk (I 58) (I 59) (I 110) (I 72 52) (I 72 53) (I 72 54) (I 72 55) (I 72 56) (I 72 57)) : Run b F E L P nx us (f_X11_unlike (ad b 0) p) (f_X15_unlike (ad b 72) p) I (th I) := by
  obtain ⟨hB, hC, hD, hE, hF, hGG, hH, hI, hU⟩ := hW
  rcases wallCase hnw hA p with ⟨h1, h2⟩ | ⟨w, hw, rfl, h1, h2⟩
  · refine ⟨-1, I, by (simp (decide := true) only [f_X11_unlike_105, f_X11_unlike_99, f_X11_unlike_51, f_X11_unlike, h1, isO_s, gI_s, gA_s, gL_s, pI_s, pZ_s, pL_s, aI_s, aL_s, aN_s, aQ_s, sI_s, sL_s, cr, LNs, Option.map_some, Option.map_none, Option.bind_some, b2, tr, lt, if_true, if_false, ckZ, X_within, M_in, inR_z, X_refuse, X_tell, X_deny, X_grant, M_refused, M_denied, M_done, M_granted, u2_same, u2_ne, u2_u2, upd_same, upd_ne, aW0, ixR_z, ixR_1, M_isWall, M_isPainter, M_isWork, X_has4, X_has10, X_at, or_false, false_or, or_true, true_or, not_true, not_false_iff, Option.isSome_some, isO_d, gI_d, gA_d, pI_d, ne_eq, not_false_eq_true, u2_hi, u2_hj, u2_dyn, u2_dynj, Nat.reduceAdd]; try exact rfl), ?_⟩
    by_cases h3 : I 72 56 = 0
    · (simp (decide := true) only [f_X15_unlike_92, f_X15_unlike_46, f_X15_unlike, h3, isO_s, gI_s, gA_s, gL_s, pI_s, pZ_s, pL_s, aI_s, aL_s, aN_s, aQ_s, sI_s, sL_s, cr, LNs, Option.map_some, Option.map_none, Option.bind_some, b2, tr, lt, if_true, if_false, ckZ, X_within, M_in, inR_z, X_refuse, X_tell, X_deny, X_grant, M_refused, M_denied, M_done, M_granted, u2_same, u2_ne, u2_u2, upd_same, upd_ne, aW0, ixR_z, ixR_1, M_isWall, M_isPainter, M_isWork, X_has4, X_has10, X_at, or_false, false_or, or_true, true_or, not_true, not_false_iff, Option.isSome_some, isO_d, gI_d, gA_d, pI_d, ne_eq, not_false_eq_true, u2_hi, u2_hj, u2_dyn, u2_dynj, Nat.reduceAdd]; try exact rfl)
    · (simp (decide := true) only [f_X15_unlike_92, f_X15_unlike_46, f_X15_unlike, h3, h2, isO_s, gI_s, gA_s, gL_s, pI_s, pZ_s, pL_s, aI_s, aL_s, aN_s, aQ_s, sI_s, sL_s, cr, LNs, Option.map_some, Option.map_none, Option.bind_some, b2, tr, lt, if_true, if_false, ckZ, X_within, M_in, inR_z, X_refuse, X_tell, X_deny, X_grant, M_refused, M_denied, M_done, M_granted, u2_same, u2_ne, u2_u2, upd_same, upd_ne, aW0, ixR_1, M_isWall, M_isPainter, M_isWork, X_has4, X_has10, X_at, or_false, false_or, or_true, true_or, not_true, not_false_iff, Option.isSome_some, isO_d, gI_d, gA_d, pI_d, ne_eq, not_false_eq_true, u2_hi, u2_hj, u2_dyn, u2_dynj, Nat.reduceAdd]; try exact rfl)
  obtain ⟨-, hK, a1, a2, a3, a4, -, -⟩ := hA w hw
  obtain ⟨k0, k1, k2, k3, k4⟩ := WKk hK
  rcases hG with ⟨g1, g2, g3, g4⟩ | ⟨g1, g2, g3, g4, ⟨wd', w1, w2, w3⟩, ⟨hg', y1, y2, y3⟩, -, -, -, -, -, -, g9⟩
  · exact ⟨-1, I, by (simp (decide := true) only [f_X11_unlike_105, f_X11_unlike_99, f_X11_unlike_51, f_X11_unlike, h1, g2, isO_s, gI_s, gA_s, gL_s, pI_s, pZ_s, pL_s, aI_s, aL_s, aN_s, aQ_s, sI_s, sL_s, cr, LNs, Option.map_some, Option.map_none, Option.bind_some, b2, tr, lt, if_true, if_false, ckZ, X_within, M_in, inR_z, X_refuse, X_tell, X_deny, X_grant, M_refused, M_denied, M_done, M_granted, u2_same, u2_ne, u2_u2, upd_same, upd_ne, aW0, ixR_z, ixR_1, M_isWall, M_isPainter, M_isWork, X_has4, X_has10, X_at, or_false, false_or, or_true, true_or, not_true, not_false_iff, Option.isSome_some, isO_d, gI_d, gA_d, pI_d, ne_eq, not_false_eq_true, u2_hi, u2_hj, u2_dyn, u2_dynj, Nat.reduceAdd]; try exact rfl), by (simp (decide := true) only [f_X15_unlike_92, f_X15_unlike_46, f_X15_unlike, g1, isO_s, gI_s, gA_s, gL_s, pI_s, pZ_s, pL_s, aI_s, aL_s, aN_s, aQ_s, sI_s, sL_s, cr, LNs, Option.map_some, Option.map_none, Option.bind_some, b2, tr, lt, if_true, if_false, ckZ, X_within, M_in, inR_z, X_refuse, X_tell, X_deny, X_grant, M_refused, M_denied, M_done, M_granted, u2_same, u2_ne, u2_u2, upd_same, upd_ne, aW0, ixR_z, ixR_1, M_isWall, M_isPainter, M_isWork, X_has4, X_has10, X_at, or_false, false_or, or_true, true_or, not_true, not_false_iff, Option.isSome_some, isO_d, gI_d, gA_d, pI_d, ne_eq, not_false_eq_true, u2_hi, u2_hj, u2_dyn, u2_dynj, Nat.reduceAdd]; try exact rfl)⟩
  obtain ⟨b1, b2', b3, b4⟩ := hB w hw
  have b1' : I (149 + q w) 0 = Int32.ofNat (wd w) := b1
  have b2'' : I (149 + q w) 1 = Int32.ofNat (hg w) := b2'
  have hw16 : w < 16 := by have := hnw.1; omega
  have e3 : iN (Int32.ofNat w) 16 = some w := iN_oN hw16 (by omega)
  by_cases c1 : wd w = wd'
  · by_cases c2 : hg w = hg'
    · subst c1 c2
      have h192 := n192 a2 a4
      have hm := M_unlike (b := b) (F := F) (E := E) (L := L) (P := P) (nx := nx) (us := us) (I := th I) (w := w) (wd := wd w) (hg := hg w) hw16 (by simp (decide := true) only [th, isO_s, gI_s, gA_s, gL_s, pI_s, pZ_s, pL_s, aI_s, aL_s, aN_s, aQ_s, sI_s, sL_s, cr, LNs, Option.map_some, Option.map_none, Option.bind_some, b2, tr, lt, if_true, if_false, ckZ, X_within, M_in, inR_z, X_refuse, X_tell, X_deny, X_grant, M_refused, M_denied, M_done, M_granted, u2_same, u2_ne, u2_u2, upd_same, upd_ne, aW0, ixR_z, ixR_1, M_isWall, M_isPainter, M_isWork, X_has4, X_has10, X_at, or_false, false_or, or_true, true_or, not_true, not_false_iff, Option.isSome_some, isO_d, gI_d, gA_d, pI_d, ne_eq, not_false_eq_true, u2_hi, u2_hj, u2_dyn, u2_dynj, Nat.reduceAdd]; exact w3) (by simp (decide := true) only [th, isO_s, gI_s, gA_s, gL_s, pI_s, pZ_s, pL_s, aI_s, aL_s, aN_s, aQ_s, sI_s, sL_s, cr, LNs, Option.map_some, Option.map_none, Option.bind_some, b2, tr, lt, if_true, if_false, ckZ, X_within, M_in, inR_z, X_refuse, X_tell, X_deny, X_grant, M_refused, M_denied, M_done, M_granted, u2_same, u2_ne, u2_u2, upd_same, upd_ne, aW0, ixR_z, ixR_1, M_isWall, M_isPainter, M_isWork, X_has4, X_has10, X_at, or_false, false_or, or_true, true_or, not_true, not_false_iff, Option.isSome_some, isO_d, gI_d, gA_d, pI_d, ne_eq, not_false_eq_true, u2_hi, u2_hj, u2_dyn, u2_dynj, Nat.reduceAdd]; exact y3) h192
      unfold th at hm
      have e : sm (fun c => if I (149 + q w + 2) c = I 59 c then 0 else 1) 0 (wd w * hg w) = sm (fun c => if I 110 c = I 86 (192 * w + c) then 0 else 1) 0 (wd w * hg w) := by
        refine sm_congr _ _ ?_
        intro k _ hk
        have d1 := (hGG w hw k (by omega)).1
        rw [dy2] at d1
        rw [d1, (g9 k (by omega)).1]
        by_cases hz : I 86 (192 * w + k) = I 110 k
        · rw [if_pos hz, if_pos hz.symm]
        · rw [if_neg hz, if_neg (fun q => hz q.symm)]
      refine ⟨sm (fun c => if I 110 c = I 86 (192 * w + c) then 0 else 1) 0 (wd w * hg w), I, ?_, ?_⟩
      · (simp (decide := true) only [f_X11_unlike_105, f_X11_unlike_99, f_X11_unlike_51, f_X11_unlike, h1, k0, g2, g3, g4, b1', b2'', w3, y3, X_unlike k0 k2 h192, e, isO_s, gI_s, gA_s, gL_s, pI_s, pZ_s, pL_s, aI_s, aL_s, aN_s, aQ_s, sI_s, sL_s, cr, LNs, Option.map_some, Option.map_none, Option.bind_some, b2, tr, lt, if_true, if_false, ckZ, X_within, M_in, inR_z, X_refuse, X_tell, X_deny, X_grant, M_refused, M_denied, M_done, M_granted, u2_same, u2_ne, u2_u2, upd_same, upd_ne, aW0, ixR_z, ixR_1, M_isWall, M_isPainter, M_isWork, X_has4, X_has10, X_at, or_false, false_or, or_true, true_or, not_true, not_false_iff, Option.isSome_some, isO_d, gI_d, gA_d, pI_d, ne_eq, not_false_eq_true, u2_hi, u2_hj, u2_dyn, u2_dynj, Nat.reduceAdd]; try exact rfl)
      · (simp (decide := true) only [f_X15_unlike_92, f_X15_unlike_46, f_X15_unlike, g1, h2, e3, b3, b4, w3, y3, hm, isO_s, gI_s, gA_s, gL_s, pI_s, pZ_s, pL_s, aI_s, aL_s, aN_s, aQ_s, sI_s, sL_s, cr, LNs, Option.map_some, Option.map_none, Option.bind_some, b2, tr, lt, if_true, if_false, ckZ, X_within, M_in, inR_z, X_refuse, X_tell, X_deny, X_grant, M_refused, M_denied, M_done, M_granted, u2_same, u2_ne, u2_u2, upd_same, upd_ne, aW0, ixR_1, M_isWall, M_isPainter, M_isWork, X_has4, X_has10, X_at, or_false, false_or, or_true, true_or, not_true, not_false_iff, Option.isSome_some, isO_d, gI_d, gA_d, pI_d, ne_eq, not_false_eq_true, u2_hi, u2_hj, u2_dyn, u2_dynj, Nat.reduceAdd]; try exact rfl)
    · subst c1
      have hne := oN_ne c2 (by omega) (by omega)
      exact ⟨-1, I, by (simp (decide := true) only [f_X11_unlike_105, f_X11_unlike_99, f_X11_unlike_51, f_X11_unlike, h1, k0, g2, g3, g4, b1', b2'', w3, y3, hne, isO_s, gI_s, gA_s, gL_s, pI_s, pZ_s, pL_s, aI_s, aL_s, aN_s, aQ_s, sI_s, sL_s, cr, LNs, Option.map_some, Option.map_none, Option.bind_some, b2, tr, lt, if_true, if_false, ckZ, X_within, M_in, inR_z, X_refuse, X_tell, X_deny, X_grant, M_refused, M_denied, M_done, M_granted, u2_same, u2_ne, u2_u2, upd_same, upd_ne, aW0, ixR_z, ixR_1, M_isWall, M_isPainter, M_isWork, X_has4, X_has10, X_at, or_false, false_or, or_true, true_or, not_true, not_false_iff, Option.isSome_some, isO_d, gI_d, gA_d, pI_d, ne_eq, not_false_eq_true, u2_hi, u2_hj, u2_dyn, u2_dynj, Nat.reduceAdd]; try exact rfl), by (simp (decide := true) only [f_X15_unlike_92, f_X15_unlike_46, f_X15_unlike, g1, h2, e3, b3, b4, w3, y3, hne, isO_s, gI_s, gA_s, gL_s, pI_s, pZ_s, pL_s, aI_s, aL_s, aN_s, aQ_s, sI_s, sL_s, cr, LNs, Option.map_some, Option.map_none, Option.bind_some, b2, tr, lt, if_true, if_false, ckZ, X_within, M_in, inR_z, X_refuse, X_tell, X_deny, X_grant, M_refused, M_denied, M_done, M_granted, u2_same, u2_ne, u2_u2, upd_same, upd_ne, aW0, ixR_1, M_isWall, M_isPainter, M_isWork, X_has4, X_has10, X_at, or_false, false_or, or_true, true_or, not_true, not_false_iff, Option.isSome_some, isO_d, gI_d, gA_d, pI_d, ne_eq, not_false_eq_true, u2_hi, u2_hj, u2_dyn, u2_dynj, Nat.reduceAdd]; try exact rfl)⟩
  · have hne := oN_ne c1 (by omega) (by omega)
    exact ⟨-1, I, by (simp (decide := true) only [f_X11_unlike_105, f_X11_unlike_99, f_X11_unlike_51, f_X11_unlike, h1, k0, g2, g3, g4, b1', w3, hne, isO_s, gI_s, gA_s, gL_s, pI_s, pZ_s, pL_s, aI_s, aL_s, aN_s, aQ_s, sI_s, sL_s, cr, LNs, Option.map_some, Option.map_none, Option.bind_some, b2, tr, lt, if_true, if_false, ckZ, X_within, M_in, inR_z, X_refuse, X_tell, X_deny, X_grant, M_refused, M_denied, M_done, M_granted, u2_same, u2_ne, u2_u2, upd_same, upd_ne, aW0, ixR_z, ixR_1, M_isWall, M_isPainter, M_isWork, X_has4, X_has10, X_at, or_false, false_or, or_true, true_or, not_true, not_false_iff, Option.isSome_some, isO_d, gI_d, gA_d, pI_d, ne_eq, not_false_eq_true, u2_hi, u2_hj, u2_dyn, u2_dynj, Nat.reduceAdd]; try exact rfl), by (simp (decide := true) only [f_X15_unlike_92, f_X15_unlike_46, f_X15_unlike, g1, h2, e3, b3, w3, hne, isO_s, gI_s, gA_s, gL_s, pI_s, pZ_s, pL_s, aI_s, aL_s, aN_s, aQ_s, sI_s, sL_s, cr, LNs, Option.map_some, Option.map_none, Option.bind_some, b2, tr, lt, if_true, if_false, ckZ, X_within, M_in, inR_z, X_refuse, X_tell, X_deny, X_grant, M_refused, M_denied, M_done, M_granted, u2_same, u2_ne, u2_u2, upd_same, upd_ne, aW0, ixR_1, M_isWall, M_isPainter, M_isWork, X_has4, X_has10, X_at, or_false, false_or, or_true, true_or, not_true, not_false_iff, Option.isSome_some, isO_d, gI_d, gA_d, pI_d, ne_eq, not_false_eq_true, u2_hi, u2_hj, u2_dyn, u2_dynj, Nat.reduceAdd]; try exact rfl)⟩
theorem wAt_w {nw w : Nat} {q wd hg ow : Nat → Nat} (hnw : I 1 1 = Int32.ofNat nw) (h16 : nw ≤ 16) (hA : WA nw q wd hg ow E (P 2)) (hw : w < nw) : wAt (Int32.ofNat w) (I 1 1) (P 2) = some (149 + q w) := by
  unfold wAt
  have e1 := oN_neg (w := w) (by omega)
  have e2 := oN_leF hw (by omega)
  have e3 : ((16 : Int32) ≤ Int32.ofNat w) = False := oN_leF (c := 16) (by omega) (by omega)
  simp only [hnw, e1, e2, e3, if_false, oN_nn (show w < 2147483648 by omega)]
  exact (hA w hw).1
theorem X_cellsOfTin {a n : Nat} (t : Int32) (k0 : kdf E (149 + a) = some (.inr (8, true))) (k3 : kdf E (149 + a + 3) = some (.inl (1, n))) (hn : n ≤ 192) : f_X8_cellsOfTin (ad b (149 + a)) t (lay b F E I L P nx us) = some (sm (fun c => if I (149 + a + 3) c = t then 1 else 0) 0 n, (lay b F E I L P nx us)) := by
  simp (decide := true) only [f_X8_cellsOfTin_26, f_X8_cellsOfTin, k0, isO_s, gI_s, gA_s, gL_s, pI_s, pZ_s, pL_s, aI_s, aL_s, aN_s, aQ_s, sI_s, sL_s, cr, LNs, Option.map_some, Option.map_none, Option.bind_some, b2, tr, lt, if_true, if_false, ckZ, X_within, M_in, inR_z, X_refuse, X_tell, X_deny, X_grant, M_refused, M_denied, M_done, M_granted, u2_same, u2_ne, u2_u2, upd_same, upd_ne, aW0, ixR_z, ixR_1, M_isWall, M_isPainter, M_isWork, X_has4, X_has10, X_at, or_false, false_or, or_true, true_or, not_true, not_false_iff, Option.isSome_some, isO_d, gI_d, gA_d, pI_d, ne_eq, not_false_eq_true, u2_hi, u2_hj, u2_dyn, u2_dynj, Nat.reduceAdd]
  refine lp_sum0 (T := fun n a' k => f_X8_cellsOfTin_4 n (ad b (149 + a)) t a' k (lay b F E I L P nx us)) (R := fun a => some (a, (lay b F E I L P nx us))) (f := fun c => if I (149 + a + 3) c = t then 1 else 0) (N := n) (by omega) ?_ ?_
  · intro n' a'
    simp (decide := true) only [f_X8_cellsOfTin_4, k0, aN_d k3, Int32.le_refl, isO_s, gI_s, gA_s, gL_s, pI_s, pZ_s, pL_s, aI_s, aL_s, aN_s, aQ_s, sI_s, sL_s, cr, LNs, Option.map_some, Option.map_none, Option.bind_some, b2, tr, lt, if_true, if_false, ckZ, X_within, M_in, inR_z, X_refuse, X_tell, X_deny, X_grant, M_refused, M_denied, M_done, M_granted, u2_same, u2_ne, u2_u2, upd_same, upd_ne, aW0, ixR_z, ixR_1, M_isWall, M_isPainter, M_isWork, X_has4, X_has10, X_at, or_false, false_or, or_true, true_or, not_true, not_false_iff, Option.isSome_some, isO_d, gI_d, gA_d, pI_d, ne_eq, not_false_eq_true, u2_hi, u2_hj, u2_dyn, u2_dynj, Nat.reduceAdd]
  · intro n' a' k hk
    have e2 := oN_leF hk (by omega)
    have e3 : iN (Int32.ofNat k) n = some k := iN_oN (by omega) (by omega)
    show f_X8_cellsOfTin_4 (n' + 1) (ad b (149 + a)) t a' (Int32.ofNat k) (lay b F E I L P nx us) = _
    simp (decide := true) only [f_X8_cellsOfTin_4, f_X8_cellsOfTin_26, k0, aN_d k3, aI_d k3 (by decide), e2, e3, oN_succ, isO_s, gI_s, gA_s, gL_s, pI_s, pZ_s, pL_s, aI_s, aL_s, aN_s, aQ_s, sI_s, sL_s, cr, LNs, Option.map_some, Option.map_none, Option.bind_some, b2, tr, lt, if_true, if_false, ckZ, X_within, M_in, inR_z, X_refuse, X_tell, X_deny, X_grant, M_refused, M_denied, M_done, M_granted, u2_same, u2_ne, u2_u2, upd_same, upd_ne, aW0, ixR_z, ixR_1, M_isWall, M_isPainter, M_isWork, X_has4, X_has10, X_at, or_false, false_or, or_true, true_or, not_true, not_false_iff, Option.isSome_some, isO_d, gI_d, gA_d, pI_d, ne_eq, not_false_eq_true, u2_hi, u2_hj, u2_dyn, u2_dynj, Nat.reduceAdd]
    by_cases h1 : I (149 + a + 3) k = t
    · simp only [h1, if_true]
    · simp only [h1, if_false, Int32.add_zero]
theorem call_shows (p : Int32) {nw nk nt : Nat} {q wd hg ow : Nat → Nat} (hnt : Cn nt 60 (I 13 15) (I 72 77)) (hnw : Cn nw 16 (I 1 1) (I 72 4)) (hA : WA nw q wd hg ow E (P 2)) (hW : WALL nw nk nt q wd hg I) : Run b F E L P nx us (f_X11_shows (ad b 0) p) (f_X15_shows (ad b 72) p) I (th I) := by
  obtain ⟨hB, hC, hD, hE, hF, hG, hH, hI, hU⟩ := hW
  obtain ⟨ht1, ht2, ht3⟩ := hnt
  obtain ⟨hn1, hn2, hn3⟩ := hnw
  have h60 : Int32.ofNat nt ≤ 60 := oN_leL ht1 (by decide)
  rcases ixc p (n := nt) (by omega) with h | ⟨t, htt, rfl⟩
  · refine ⟨-1, I, by (simp (decide := true) only [f_X11_shows_52, f_X11_shows, X_isTin, h60, ht2, h, isO_s, gI_s, gA_s, gL_s, pI_s, pZ_s, pL_s, aI_s, aL_s, aN_s, aQ_s, sI_s, sL_s, cr, LNs, Option.map_some, Option.map_none, Option.bind_some, b2, tr, lt, if_true, if_false, ckZ, X_within, M_in, inR_z, X_refuse, X_tell, X_deny, X_grant, M_refused, M_denied, M_done, M_granted, u2_same, u2_ne, u2_u2, upd_same, upd_ne, aW0, ixR_z, ixR_1, M_isWall, M_isPainter, M_isWork, X_has4, X_has10, X_at, or_false, false_or, or_true, true_or, not_true, not_false_iff, Option.isSome_some, isO_d, gI_d, gA_d, pI_d, ne_eq, not_false_eq_true, u2_hi, u2_hj, u2_dyn, u2_dynj, Nat.reduceAdd]; try exact rfl), ?_⟩
    by_cases h5 : p < 0
    · (simp (decide := true) only [f_X15_shows_92, f_X15_shows_91, f_X15_shows_17, f_X15_shows, h5, isO_s, gI_s, gA_s, gL_s, pI_s, pZ_s, pL_s, aI_s, aL_s, aN_s, aQ_s, sI_s, sL_s, cr, LNs, Option.map_some, Option.map_none, Option.bind_some, b2, tr, lt, if_true, if_false, ckZ, X_within, M_in, inR_z, X_refuse, X_tell, X_deny, X_grant, M_refused, M_denied, M_done, M_granted, u2_same, u2_ne, u2_u2, upd_same, upd_ne, aW0, ixR_z, ixR_1, M_isWall, M_isPainter, M_isWork, X_has4, X_has10, X_at, or_false, false_or, or_true, true_or, not_true, not_false_iff, Option.isSome_some, isO_d, gI_d, gA_d, pI_d, ne_eq, not_false_eq_true, u2_hi, u2_hj, u2_dyn, u2_dynj, Nat.reduceAdd]; try exact rfl)
    · have h6 := h.resolve_left h5
      (simp (decide := true) only [f_X15_shows_92, f_X15_shows_91, f_X15_shows_17, f_X15_shows, h5, ht3, Int32.not_lt.mpr h6, isO_s, gI_s, gA_s, gL_s, pI_s, pZ_s, pL_s, aI_s, aL_s, aN_s, aQ_s, sI_s, sL_s, cr, LNs, Option.map_some, Option.map_none, Option.bind_some, b2, tr, lt, if_true, if_false, ckZ, X_within, M_in, inR_z, X_refuse, X_tell, X_deny, X_grant, M_refused, M_denied, M_done, M_granted, u2_same, u2_ne, u2_u2, upd_same, upd_ne, aW0, ixR_z, ixR_1, M_isWall, M_isPainter, M_isWork, X_has4, X_has10, X_at, or_false, false_or, or_true, true_or, not_true, not_false_iff, Option.isSome_some, isO_d, gI_d, gA_d, pI_d, ne_eq, not_false_eq_true, u2_hi, u2_hj, u2_dyn, u2_dynj, Nat.reduceAdd]; try exact rfl)
  have e1 := oN_neg (w := t) (by omega)
  have e2 := oN_leF htt (by omega)
  have e4 := oN_ltT htt (by omega)
  refine ⟨sm (fun w => sm (fun c => if I (149 + q w + 3) c = Int32.ofNat t then 1 else 0) 0 (wd w * hg w)) 0 nw, I, ?_, ?_⟩
  · simp (decide := true) only [f_X11_shows_52, f_X11_shows, X_isTin, h60, ht2, e1, e2, isO_s, gI_s, gA_s, gL_s, pI_s, pZ_s, pL_s, aI_s, aL_s, aN_s, aQ_s, sI_s, sL_s, cr, LNs, Option.map_some, Option.map_none, Option.bind_some, b2, tr, lt, if_true, if_false, ckZ, X_within, M_in, inR_z, X_refuse, X_tell, X_deny, X_grant, M_refused, M_denied, M_done, M_granted, u2_same, u2_ne, u2_u2, upd_same, upd_ne, aW0, ixR_z, ixR_1, M_isWall, M_isPainter, M_isWork, X_has4, X_has10, X_at, or_false, false_or, or_true, true_or, not_true, not_false_iff, Option.isSome_some, isO_d, gI_d, gA_d, pI_d, ne_eq, not_false_eq_true, u2_hi, u2_hj, u2_dyn, u2_dynj, Nat.reduceAdd]
    refine lp_sum0 (T := fun n a' k => f_X11_shows_17 n (ad b 0) (Int32.ofNat t) a' k (lay b F E I L P nx us)) (R := fun a => some (a, (lay b F E I L P nx us))) (f := fun w => sm (fun c => if I (149 + q w + 3) c = Int32.ofNat t then 1 else 0) 0 (wd w * hg w)) (N := nw) (by omega) ?_ ?_
    · intro n' a'
      simp (decide := true) only [f_X11_shows_17, hn2, Int32.le_refl, isO_s, gI_s, gA_s, gL_s, pI_s, pZ_s, pL_s, aI_s, aL_s, aN_s, aQ_s, sI_s, sL_s, cr, LNs, Option.map_some, Option.map_none, Option.bind_some, b2, tr, lt, if_true, if_false, ckZ, X_within, M_in, inR_z, X_refuse, X_tell, X_deny, X_grant, M_refused, M_denied, M_done, M_granted, u2_same, u2_ne, u2_u2, upd_same, upd_ne, aW0, ixR_z, ixR_1, M_isWall, M_isPainter, M_isWork, X_has4, X_has10, X_at, or_false, false_or, or_true, true_or, not_true, not_false_iff, Option.isSome_some, isO_d, gI_d, gA_d, pI_d, ne_eq, not_false_eq_true, u2_hi, u2_hj, u2_dyn, u2_dynj, Nat.reduceAdd]
    · intro n' a' w hw
      have e5 := oN_leF hw (by omega)
      obtain ⟨-, hK, a1, a2, a3, a4, -, -⟩ := hA w hw
      obtain ⟨k0, k1, k2, k3, k4⟩ := WKk hK
      show f_X11_shows_17 (n' + 1) (ad b 0) (Int32.ofNat t) a' (Int32.ofNat w) (lay b F E I L P nx us) = _
      have hwa := wAt_w hn2 hn1 hA hw
      rw [hn2] at hwa
      simp (decide := true) only [f_X11_shows_17, f_X11_shows_52, hn2, e5, hwa, X_cellsOfTin (Int32.ofNat t) k0 k3 (n192 a2 a4), oN_succ, isO_s, gI_s, gA_s, gL_s, pI_s, pZ_s, pL_s, aI_s, aL_s, aN_s, aQ_s, sI_s, sL_s, cr, LNs, Option.map_some, Option.map_none, Option.bind_some, b2, tr, lt, if_true, if_false, ckZ, X_within, M_in, inR_z, X_refuse, X_tell, X_deny, X_grant, M_refused, M_denied, M_done, M_granted, u2_same, u2_ne, u2_u2, upd_same, upd_ne, aW0, ixR_z, ixR_1, M_isWall, M_isPainter, M_isWork, X_has4, X_has10, X_at, or_false, false_or, or_true, true_or, not_true, not_false_iff, Option.isSome_some, isO_d, gI_d, gA_d, pI_d, ne_eq, not_false_eq_true, u2_hi, u2_hj, u2_dyn, u2_dynj, Nat.reduceAdd]
  · simp (decide := true) only [f_X15_shows_92, f_X15_shows_91, f_X15_shows_17, f_X15_shows, ht3, e1, e4, isO_s, gI_s, gA_s, gL_s, pI_s, pZ_s, pL_s, aI_s, aL_s, aN_s, aQ_s, sI_s, sL_s, cr, LNs, Option.map_some, Option.map_none, Option.bind_some, b2, tr, lt, if_true, if_false, ckZ, X_within, M_in, inR_z, X_refuse, X_tell, X_deny, X_grant, M_refused, M_denied, M_done, M_granted, u2_same, u2_ne, u2_u2, upd_same, upd_ne, aW0, ixR_z, ixR_1, M_isWall, M_isPainter, M_isWork, X_has4, X_has10, X_at, or_false, false_or, or_true, true_or, not_true, not_false_iff, Option.isSome_some, isO_d, gI_d, gA_d, pI_d, ne_eq, not_false_eq_true, u2_hi, u2_hj, u2_dyn, u2_dynj, Nat.reduceAdd]
    have hsm : sm (fun w => sm (fun c => if I (149 + q w + 3) c = Int32.ofNat t then 1 else 0) 0 (wd w * hg w)) 0 nw = sm (fun w => sm (fun c => if I 86 (192 * w + c) ≠ -1 ∧ I 88 (192 * w + c) = Int32.ofNat t then 1 else 0) 0 (wd w * hg w)) 0 nw := by
      refine sm_congr _ _ ?_
      intro w _ hw
      refine sm_congr _ _ ?_
      intro c _ hc
      obtain ⟨d1, d2⟩ := hH w (by omega) c (by omega)
      rw [dy3] at d1 d2
      by_cases hz : I 86 (192 * w + c) = -1
      · rw [d1 hz, if_neg (fun q => oN_m2 (k := t) (by omega) q.symm)]
        simp only [hz, ne_eq, not_true, false_and, if_false]
      · rw [(d2 hz).1]
        simp only [hz, ne_eq, not_false_eq_true, true_and]
    rw [hsm]
    refine lp_sum0 (T := fun n a' k => f_X15_shows_23 n (ad b 72) (Int32.ofNat t) a' k (lay b F E (u2 I 72 (upd (I 72) 0 0)) L P nx us)) (R := fun a => some (a, lay b F E (u2 I 72 (upd (I 72) 0 0)) L P nx us)) (f := fun w => sm (fun c => if I 86 (192 * w + c) ≠ -1 ∧ I 88 (192 * w + c) = Int32.ofNat t then 1 else 0) 0 (wd w * hg w)) (N := nw) (by omega) ?_ ?_
    · intro n' a'
      simp (decide := true) only [f_X15_shows_23, hn3, Int32.le_refl, isO_s, gI_s, gA_s, gL_s, pI_s, pZ_s, pL_s, aI_s, aL_s, aN_s, aQ_s, sI_s, sL_s, cr, LNs, Option.map_some, Option.map_none, Option.bind_some, b2, tr, lt, if_true, if_false, ckZ, X_within, M_in, inR_z, X_refuse, X_tell, X_deny, X_grant, M_refused, M_denied, M_done, M_granted, u2_same, u2_ne, u2_u2, upd_same, upd_ne, aW0, ixR_z, ixR_1, M_isWall, M_isPainter, M_isWork, X_has4, X_has10, X_at, or_false, false_or, or_true, true_or, not_true, not_false_iff, Option.isSome_some, isO_d, gI_d, gA_d, pI_d, ne_eq, not_false_eq_true, u2_hi, u2_hj, u2_dyn, u2_dynj, Nat.reduceAdd]
    · intro n' a' w hw
      have e5 := oN_leF hw (by omega)
      obtain ⟨b1, b2', b3, b4⟩ := hB w hw
      obtain ⟨-, hK, a1, a2, a3, a4, -, -⟩ := hA w hw
      have h192 := n192 a2 a4
      have e6 : iN (Int32.ofNat w) 16 = some w := iN_oN (by omega) (by omega)
      show f_X15_shows_23 (n' + 1) (ad b 72) (Int32.ofNat t) a' (Int32.ofNat w) (lay b F E (u2 I 72 (upd (I 72) 0 0)) L P nx us) = _
      simp (decide := true) only [f_X15_shows_23, hn3, e5, isO_s, gI_s, gA_s, gL_s, pI_s, pZ_s, pL_s, aI_s, aL_s, aN_s, aQ_s, sI_s, sL_s, cr, LNs, Option.map_some, Option.map_none, Option.bind_some, b2, tr, lt, if_true, if_false, ckZ, X_within, M_in, inR_z, X_refuse, X_tell, X_deny, X_grant, M_refused, M_denied, M_done, M_granted, u2_same, u2_ne, u2_u2, upd_same, upd_ne, aW0, ixR_z, ixR_1, M_isWall, M_isPainter, M_isWork, X_has4, X_has10, X_at, or_false, false_or, or_true, true_or, not_true, not_false_iff, Option.isSome_some, isO_d, gI_d, gA_d, pI_d, ne_eq, not_false_eq_true, u2_hi, u2_hj, u2_dyn, u2_dynj, Nat.reduceAdd]
      refine lp_sum (T := fun n a' k => f_X15_shows_34 (f_X15_shows_23 n') n (ad b 72) (Int32.ofNat t) a' (Int32.ofNat w) k (lay b F E (u2 I 72 (upd (I 72) 0 0)) L P nx us)) (R := fun a' => f_X15_shows_23 n' (ad b 72) (Int32.ofNat t) a' (Int32.ofNat (w + 1)) (lay b F E (u2 I 72 (upd (I 72) 0 0)) L P nx us)) (f := fun c => if I 86 (192 * w + c) ≠ -1 ∧ I 88 (192 * w + c) = Int32.ofNat t then 1 else 0) (N := wd w * hg w) (by omega) ?_ ?_ (wd w * hg w) 0 a' FU (by omega) (by unfold FU; omega)
      · intro n2 a2
        simp (decide := true) only [f_X15_shows_34, e6, b3, b4, oN_mul, Int32.le_refl, oN_succ, isO_s, gI_s, gA_s, gL_s, pI_s, pZ_s, pL_s, aI_s, aL_s, aN_s, aQ_s, sI_s, sL_s, cr, LNs, Option.map_some, Option.map_none, Option.bind_some, b2, tr, lt, if_true, if_false, ckZ, X_within, M_in, inR_z, X_refuse, X_tell, X_deny, X_grant, M_refused, M_denied, M_done, M_granted, u2_same, u2_ne, u2_u2, upd_same, upd_ne, aW0, ixR_z, ixR_1, M_isWall, M_isPainter, M_isWork, X_has4, X_has10, X_at, or_false, false_or, or_true, true_or, not_true, not_false_iff, Option.isSome_some, isO_d, gI_d, gA_d, pI_d, ne_eq, not_false_eq_true, u2_hi, u2_hj, u2_dyn, u2_dynj, Nat.reduceAdd]
      · intro n2 a2 k hk
        have e7 := oN_leF hk (by omega)
        have e8 : iN (Int32.ofNat (192 * w + k)) 3072 = some (192 * w + k) := iN_oN (by omega) (by omega)
        show f_X15_shows_34 (f_X15_shows_23 n') (n2 + 1) (ad b 72) (Int32.ofNat t) a2 (Int32.ofNat w) (Int32.ofNat k) (lay b F E (u2 I 72 (upd (I 72) 0 0)) L P nx us) = _
        simp (decide := true) only [f_X15_shows_34, f_X15_shows_91, f_X15_shows_92, e6, b3, b4, oN_mul, ix192, e7, e8, oN_succ, isO_s, gI_s, gA_s, gL_s, pI_s, pZ_s, pL_s, aI_s, aL_s, aN_s, aQ_s, sI_s, sL_s, cr, LNs, Option.map_some, Option.map_none, Option.bind_some, b2, tr, lt, if_true, if_false, ckZ, X_within, M_in, inR_z, X_refuse, X_tell, X_deny, X_grant, M_refused, M_denied, M_done, M_granted, u2_same, u2_ne, u2_u2, upd_same, upd_ne, aW0, ixR_z, ixR_1, M_isWall, M_isPainter, M_isWork, X_has4, X_has10, X_at, or_false, false_or, or_true, true_or, not_true, not_false_iff, Option.isSome_some, isO_d, gI_d, gA_d, pI_d, ne_eq, not_false_eq_true, u2_hi, u2_hj, u2_dyn, u2_dynj, Nat.reduceAdd]
        by_cases z1 : I 86 (192 * w + k) = -1
        · simp only [z1, if_true, not_true, false_and, if_false, Int32.add_zero]
        · by_cases z2 : I 88 (192 * w + k) = Int32.ofNat t
          · simp only [z1, z2, if_true, not_false_eq_true, and_self, if_false]
          · simp only [z1, z2, not_false_eq_true, and_false, if_false, Int32.add_zero]
end Q7
