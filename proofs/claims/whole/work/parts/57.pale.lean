/-! ===== pale ===== -/
def lkV (td ov sd col : Int32) : Int32 := mxI 0 (100 - (((td - ov) / 30) * fadeV sd col))
def plR (bd s c : Int32) : Int32 := if c ≤ 0 then 0 else if bd ≤ s / c then 0 else 1
/-- the two sums of a wall -/
def plS (td ov sd : Int32) (co : RW) : RW := fun c => if co c = -1 then 0 else lkV td ov sd (co c)
def plC (co : RW) : RW := fun c => if co c = -1 then 0 else 1
section PALE
variable {b : Nat} {F : Nat → Option AE} {D E : Nat → Option KD} {I : Nat → Nat → Int32} {L : Nat → Nat → Int64} {P : Nat → Nat → Option Nat} {nx us : Nat}
theorem X_isPale {z : ZX} {a n : Nat} (bd td : Int32) (hz : FZ b F z.2.1) (k0 : kdf E (149 + a) = some (.inr (8, true))) (k2 : kdf E (149 + a + 2) = some (.inl (1, n))) (hn : n ≤ 192) (hs : I (149 + a) 2 = 0 ∨ I (149 + a) 2 = 1 ∨ I (149 + a) 2 = 2 ∨ I (149 + a) 2 = 3) : f_X8_isPale z (ad b (149 + a)) bd td (lay b F E I L P nx us) = some (plR bd (sm (plS td (I (149 + a) 10) (I (149 + a) 2) (I (149 + a + 2))) 0 n) (sm (plC (I (149 + a + 2))) 0 n), (lay b F E I L P nx us)) := by
  simp (decide := true) only [f_X8_isPale_71, f_X8_isPale_70, f_X8_isPale_47, f_X8_isPale, k0, isO_s, gI_s, gA_s, gL_s, pI_s, pZ_s, pL_s, aI_s, aL_s, aN_s, aQ_s, sI_s, sL_s, cr, LNs, Option.map_some, Option.map_none, Option.bind_some, b2, tr, lt, if_true, if_false, ckZ, X_within, M_in, inR_z, X_refuse, X_tell, X_deny, X_grant, M_refused, M_denied, M_done, M_granted, u2_same, u2_ne, u2_u2, upd_same, upd_ne, aW0, ixR_z, ixR_1, M_isWall, M_isPainter, M_isWork, X_has4, X_has10, X_at, or_false, false_or, or_true, true_or, not_true, not_false_iff, Option.isSome_some, isO_d, gI_d, gA_d, pI_d, ne_eq, not_false_eq_true, u2_hi, u2_hj, u2_dyn, u2_dynj, Nat.reduceAdd]
  have := lp_sum2 (T := fun n a' c' k => f_X8_isPale_8 z n (ad b (149 + a)) bd td a' c' k (lay b F E I L P nx us)) (R := fun a c => some (plR bd a c, (lay b F E I L P nx us))) (f := plS td (I (149 + a) 10) (I (149 + a) 2) (I (149 + a + 2))) (g := plC (I (149 + a + 2))) (N := n) ?_ ?_ n 0 0 0 FU (by omega) (by unfold FU; omega)
  · rw [sm_0, sm_0] at this
    exact this
  · intro n' a' c'
    simp (decide := true) only [f_X8_isPale_8, f_X8_isPale_70, f_X8_isPale_71, k0, aN_d k2, Int32.le_refl, isO_s, gI_s, gA_s, gL_s, pI_s, pZ_s, pL_s, aI_s, aL_s, aN_s, aQ_s, sI_s, sL_s, cr, LNs, Option.map_some, Option.map_none, Option.bind_some, b2, tr, lt, if_true, if_false, ckZ, X_within, M_in, inR_z, X_refuse, X_tell, X_deny, X_grant, M_refused, M_denied, M_done, M_granted, u2_same, u2_ne, u2_u2, upd_same, upd_ne, aW0, ixR_z, ixR_1, M_isWall, M_isPainter, M_isWork, X_has4, X_has10, X_at, or_false, false_or, or_true, true_or, not_true, not_false_iff, Option.isSome_some, isO_d, gI_d, gA_d, pI_d, ne_eq, not_false_eq_true, u2_hi, u2_hj, u2_dyn, u2_dynj, Nat.reduceAdd]
    unfold plR ckD
    by_cases h1 : c' ≤ 0
    · simp only [h1, if_true]
    · have h2 : ¬ c' = 0 := fun q => h1 (by rw [q]; exact Int32.le_refl _)
      simp only [h1, h2, if_false, Option.bind_some]
      by_cases h3 : bd ≤ a' / c'
      · simp only [h3, if_true]
      · simp only [h3, if_false]
  · intro n' a' c' k hk
    have e2 := oN_leF hk (by omega)
    have e3 : iN (Int32.ofNat k) n = some k := iN_oN (by omega) (by omega)
    show f_X8_isPale_8 z (n' + 1) (ad b (149 + a)) bd td a' c' (Int32.ofNat k) (lay b F E I L P nx us) = _
    simp (decide := true) only [f_X8_isPale_8, f_X8_isPale_47, k0, aN_d k2, aI_d k2 (by decide), e2, e3, oN_succ, plS, plC, isO_s, gI_s, gA_s, gL_s, pI_s, pZ_s, pL_s, aI_s, aL_s, aN_s, aQ_s, sI_s, sL_s, cr, LNs, Option.map_some, Option.map_none, Option.bind_some, b2, tr, lt, if_true, if_false, ckZ, X_within, M_in, inR_z, X_refuse, X_tell, X_deny, X_grant, M_refused, M_denied, M_done, M_granted, u2_same, u2_ne, u2_u2, upd_same, upd_ne, aW0, ixR_z, ixR_1, M_isWall, M_isPainter, M_isWork, X_has4, X_has10, X_at, or_false, false_or, or_true, true_or, not_true, not_false_iff, Option.isSome_some, isO_d, gI_d, gA_d, pI_d, ne_eq, not_false_eq_true, u2_hi, u2_hj, u2_dyn, u2_dynj, Nat.reduceAdd]
    by_cases h1 : I (149 + a + 2) k = -1
    · simp only [h1, if_true, Int32.add_zero]
    · simp only [h1, if_false, X_fresh (I (149 + a + 2) k) td hz k0 hs, lkV]
theorem M_pale1 {bd : Int32} {w wd hg : Nat} {k25 : Nat → Int32 → Int32 → Int32 → AH → Option (Int32 × AH)} (n : Int32) (ov : Int32) (hw : w < 16) (h1 : I 73 w = Int32.ofNat wd) (h2 : I 74 w = Int32.ofNat hg) (hn : wd * hg ≤ 192) (hov : ∀ c, c < wd * hg → I 86 (192 * w + c) ≠ -1 → ∃ k, k < 40 ∧ I 81 w = Int32.ofNat k ∧ I 129 k = ov) (many : Int32) : f_X15_pale_46 k25 FU (ad b 72) bd n (Int32.ofNat w) 0 many 0 (lay b F E I L P nx us) = k25 (ad b 72) bd (n + plR bd (sm (plS (I 72 5) ov (I 75 w) (fun c => I 86 (192 * w + c))) 0 (wd * hg)) many) (Int32.ofNat (w + 1)) (lay b F E I L P nx us) := by
  have e0 : iN (Int32.ofNat w) 16 = some w := iN_oN hw (by omega)
  refine lp_sum0 (T := fun f a' k => f_X15_pale_46 k25 f (ad b 72) bd n (Int32.ofNat w) a' many k (lay b F E I L P nx us)) (R := fun a => k25 (ad b 72) bd (n + plR bd a many) (Int32.ofNat (w + 1)) (lay b F E I L P nx us)) (f := plS (I 72 5) ov (I 75 w) (fun c => I 86 (192 * w + c))) (N := wd * hg) (by omega) ?_ ?_
  · intro n' a'
    simp (decide := true) only [f_X15_pale_46, f_X15_pale_133, f_X15_pale_134, e0, h1, h2, oN_mul, Int32.le_refl, oN_succ, isO_s, gI_s, gA_s, gL_s, pI_s, pZ_s, pL_s, aI_s, aL_s, aN_s, aQ_s, sI_s, sL_s, cr, LNs, Option.map_some, Option.map_none, Option.bind_some, b2, tr, lt, if_true, if_false, ckZ, X_within, M_in, inR_z, X_refuse, X_tell, X_deny, X_grant, M_refused, M_denied, M_done, M_granted, u2_same, u2_ne, u2_u2, upd_same, upd_ne, aW0, ixR_z, ixR_1, M_isWall, M_isPainter, M_isWork, X_has4, X_has10, X_at, or_false, false_or, or_true, true_or, not_true, not_false_iff, Option.isSome_some, isO_d, gI_d, gA_d, pI_d, ne_eq, not_false_eq_true, u2_hi, u2_hj, u2_dyn, u2_dynj, Nat.reduceAdd]
    unfold plR ckD
    by_cases h3 : many ≤ 0
    · simp only [h3, if_true]
    · have h4 : ¬ many = 0 := fun q => h3 (by rw [q]; exact Int32.le_refl _)
      simp only [h3, h4, if_false, Option.bind_some]
      by_cases h5 : bd ≤ a' / many
      · simp only [h5, if_true]
      · simp only [h5, if_false]
  · intro n' a' k hk
    have e2 := oN_leF hk (by omega)
    have e3 : iN (Int32.ofNat (192 * w + k)) 3072 = some (192 * w + k) := iN_oN (by omega) (by omega)
    show f_X15_pale_46 k25 (n' + 1) (ad b 72) bd n (Int32.ofNat w) a' many (Int32.ofNat k) (lay b F E I L P nx us) = _
    simp (decide := true) only [f_X15_pale_46, f_X15_pale_105, e0, h1, h2, oN_mul, ix192, e2, e3, oN_succ, plS, isO_s, gI_s, gA_s, gL_s, pI_s, pZ_s, pL_s, aI_s, aL_s, aN_s, aQ_s, sI_s, sL_s, cr, LNs, Option.map_some, Option.map_none, Option.bind_some, b2, tr, lt, if_true, if_false, ckZ, X_within, M_in, inR_z, X_refuse, X_tell, X_deny, X_grant, M_refused, M_denied, M_done, M_granted, u2_same, u2_ne, u2_u2, upd_same, upd_ne, aW0, ixR_z, ixR_1, M_isWall, M_isPainter, M_isWork, X_has4, X_has10, X_at, or_false, false_or, or_true, true_or, not_true, not_false_iff, Option.isSome_some, isO_d, gI_d, gA_d, pI_d, ne_eq, not_false_eq_true, u2_hi, u2_hj, u2_dyn, u2_dynj, Nat.reduceAdd]
    by_cases h3 : I 86 (192 * w + k) = -1
    · simp only [h3, if_true, Int32.add_zero]
    · obtain ⟨j, hj, h4, h5⟩ := hov k hk h3
      simp only [h3, if_false, M_looksOf (I 86 (192 * w + k)) hw hj h4, lkV, h5]
theorem call_pale {z : ZX} (p : Int32) {nw nk nt td : Nat} {q wd hg ow : Nat → Nat} (hz : FZ b F z.2.1) (hk : nk ≤ 40) (hnw : Cn nw 16 (I 1 1) (I 72 4)) (hA : WA nw q wd hg ow E (P 2)) (ht : Cn td 3649 (I 13 14) (I 72 5)) (hW : WALL nw nk nt q wd hg I) : ∃ x : Int32, x ≠ 4 ∧ Run b F E L P nx us (f_X11_pale z (ad b 0) p) (f_X15_pale (ad b 72) p) I (rf I x) := by
  obtain ⟨hB, hC, hD, hE, hF, hG, hH, hI, hU⟩ := hW
  obtain ⟨hn1, hn2, hn3⟩ := hnw
  have htd : I 13 14 = I 72 5 := by rw [ht.2.1, ht.2.2]
  by_cases hp : (p < 0 ∨ 100 < p)
  · exact ⟨2, by decide, -1, u2 I 0 (upd (I 0) 16 2), by (simp (decide := true) only [f_X11_pale_65, f_X11_pale, hp, isO_s, gI_s, gA_s, gL_s, pI_s, pZ_s, pL_s, aI_s, aL_s, aN_s, aQ_s, sI_s, sL_s, cr, LNs, Option.map_some, Option.map_none, Option.bind_some, b2, tr, lt, if_true, if_false, ckZ, X_within, M_in, inR_z, X_refuse, X_tell, X_deny, X_grant, M_refused, M_denied, M_done, M_granted, u2_same, u2_ne, u2_u2, upd_same, upd_ne, aW0, ixR_z, ixR_1, M_isWall, M_isPainter, M_isWork, X_has4, X_has10, X_at, or_false, false_or, or_true, true_or, not_true, not_false_iff, Option.isSome_some, isO_d, gI_d, gA_d, pI_d, ne_eq, not_false_eq_true, u2_hi, u2_hj, u2_dyn, u2_dynj, Nat.reduceAdd]; try exact rfl), by (simp (decide := true) only [f_X15_pale_134, f_X15_pale_133, f_X15_pale_105, f_X15_pale, hp, isO_s, gI_s, gA_s, gL_s, pI_s, pZ_s, pL_s, aI_s, aL_s, aN_s, aQ_s, sI_s, sL_s, cr, LNs, Option.map_some, Option.map_none, Option.bind_some, b2, tr, lt, if_true, if_false, ckZ, X_within, M_in, inR_z, X_refuse, X_tell, X_deny, X_grant, M_refused, M_denied, M_done, M_granted, u2_same, u2_ne, u2_u2, upd_same, upd_ne, aW0, ixR_z, ixR_1, M_isWall, M_isPainter, M_isWork, X_has4, X_has10, X_at, or_false, false_or, or_true, true_or, not_true, not_false_iff, Option.isSome_some, isO_d, gI_d, gA_d, pI_d, ne_eq, not_false_eq_true, u2_hi, u2_hj, u2_dyn, u2_dynj, Nat.reduceAdd]; try exact rfl)⟩
  refine ⟨0, by decide, sm (fun w => plR p (sm (plS (I 72 5) (I (149 + q w) 10) (I 75 w) (fun c => I 86 (192 * w + c))) 0 (wd w * hg w)) (sm (plC (fun c => I 86 (192 * w + c))) 0 (wd w * hg w))) 0 nw, u2 I 0 (upd (I 0) 16 0), ?_, ?_⟩
  · simp (decide := true) only [f_X11_pale_65, f_X11_pale, hp, isO_s, gI_s, gA_s, gL_s, pI_s, pZ_s, pL_s, aI_s, aL_s, aN_s, aQ_s, sI_s, sL_s, cr, LNs, Option.map_some, Option.map_none, Option.bind_some, b2, tr, lt, if_true, if_false, ckZ, X_within, M_in, inR_z, X_refuse, X_tell, X_deny, X_grant, M_refused, M_denied, M_done, M_granted, u2_same, u2_ne, u2_u2, upd_same, upd_ne, aW0, ixR_z, ixR_1, M_isWall, M_isPainter, M_isWork, X_has4, X_has10, X_at, or_false, false_or, or_true, true_or, not_true, not_false_iff, Option.isSome_some, isO_d, gI_d, gA_d, pI_d, ne_eq, not_false_eq_true, u2_hi, u2_hj, u2_dyn, u2_dynj, Nat.reduceAdd]
    refine lp_sum0 (T := fun n a' k => f_X11_pale_20 z n (ad b 0) p a' k (lay b F E I L P nx us)) (R := fun a => some (a, lay b F E (u2 I 0 (upd (I 0) 16 0)) L P nx us)) (f := fun w => plR p (sm (plS (I 72 5) (I (149 + q w) 10) (I 75 w) (fun c => I 86 (192 * w + c))) 0 (wd w * hg w)) (sm (plC (fun c => I 86 (192 * w + c))) 0 (wd w * hg w))) (N := nw) (by omega) ?_ ?_
    · intro n' a'
      simp (decide := true) only [f_X11_pale_20, hn2, Int32.le_refl, isO_s, gI_s, gA_s, gL_s, pI_s, pZ_s, pL_s, aI_s, aL_s, aN_s, aQ_s, sI_s, sL_s, cr, LNs, Option.map_some, Option.map_none, Option.bind_some, b2, tr, lt, if_true, if_false, ckZ, X_within, M_in, inR_z, X_refuse, X_tell, X_deny, X_grant, M_refused, M_denied, M_done, M_granted, u2_same, u2_ne, u2_u2, upd_same, upd_ne, aW0, ixR_z, ixR_1, M_isWall, M_isPainter, M_isWork, X_has4, X_has10, X_at, or_false, false_or, or_true, true_or, not_true, not_false_iff, Option.isSome_some, isO_d, gI_d, gA_d, pI_d, ne_eq, not_false_eq_true, u2_hi, u2_hj, u2_dyn, u2_dynj, Nat.reduceAdd]
    · intro n' a' w hw
      have e5 := oN_leF hw (by omega)
      obtain ⟨-, hK, a1, a2, a3, a4, -, -⟩ := hA w hw
      obtain ⟨k0, k1, k2, k3, k4⟩ := WKk hK
      obtain ⟨c1, c2, -⟩ := hC w hw
      rw [dy0] at c1
      show f_X11_pale_20 z (n' + 1) (ad b 0) p a' (Int32.ofNat w) (lay b F E I L P nx us) = _
      have hwa := wAt_w hn2 hn1 hA hw
      rw [hn2] at hwa
      have hx := X_isPale (b := b) (F := F) (E := E) (L := L) (P := P) (nx := nx) (us := us) (I := I) p (I 72 5) hz k0 k2 (n192 a2 a4) (by rw [c1]; exact c2)
      have s1 : sm (plS (I 72 5) (I (149 + q w) 10) (I (149 + q w) 2) (I (149 + q w + 2))) 0 (wd w * hg w) = sm (plS (I 72 5) (I (149 + q w) 10) (I 75 w) (fun c => I 86 (192 * w + c))) 0 (wd w * hg w) := by
        refine sm_congr _ _ ?_
        intro k _ hk
        have d1 := (hG w hw k (by omega)).1
        rw [dy2] at d1
        unfold plS
        rw [d1, c1]
      have s2 : sm (plC (I (149 + q w + 2))) 0 (wd w * hg w) = sm (plC (fun c => I 86 (192 * w + c))) 0 (wd w * hg w) := by
        refine sm_congr _ _ ?_
        intro k _ hk
        have d1 := (hG w hw k (by omega)).1
        rw [dy2] at d1
        unfold plC
        rw [d1]
      rw [s1, s2] at hx
      simp (decide := true) only [f_X11_pale_20, f_X11_pale_65, hn2, e5, hwa, htd, hx, oN_succ, isO_s, gI_s, gA_s, gL_s, pI_s, pZ_s, pL_s, aI_s, aL_s, aN_s, aQ_s, sI_s, sL_s, cr, LNs, Option.map_some, Option.map_none, Option.bind_some, b2, tr, lt, if_true, if_false, ckZ, X_within, M_in, inR_z, X_refuse, X_tell, X_deny, X_grant, M_refused, M_denied, M_done, M_granted, u2_same, u2_ne, u2_u2, upd_same, upd_ne, aW0, ixR_z, ixR_1, M_isWall, M_isPainter, M_isWork, X_has4, X_has10, X_at, or_false, false_or, or_true, true_or, not_true, not_false_iff, Option.isSome_some, isO_d, gI_d, gA_d, pI_d, ne_eq, not_false_eq_true, u2_hi, u2_hj, u2_dyn, u2_dynj, Nat.reduceAdd]
      generalize hg : plR p _ _ = r
      have hr : r = 0 ∨ r = 1 := by
        rw [← hg]; unfold plR
        split
        · exact Or.inl rfl
        · split
          · exact Or.inl rfl
          · exact Or.inr rfl
      rcases hr with rfl | rfl
      · simp (decide := true) only [if_true, Int32.add_zero]
      · simp (decide := true) only [if_false]
  · simp (decide := true) only [f_X15_pale_134, f_X15_pale_133, f_X15_pale_105, f_X15_pale, hp, isO_s, gI_s, gA_s, gL_s, pI_s, pZ_s, pL_s, aI_s, aL_s, aN_s, aQ_s, sI_s, sL_s, cr, LNs, Option.map_some, Option.map_none, Option.bind_some, b2, tr, lt, if_true, if_false, ckZ, X_within, M_in, inR_z, X_refuse, X_tell, X_deny, X_grant, M_refused, M_denied, M_done, M_granted, u2_same, u2_ne, u2_u2, upd_same, upd_ne, aW0, ixR_z, ixR_1, M_isWall, M_isPainter, M_isWork, X_has4, X_has10, X_at, or_false, false_or, or_true, true_or, not_true, not_false_iff, Option.isSome_some, isO_d, gI_d, gA_d, pI_d, ne_eq, not_false_eq_true, u2_hi, u2_hj, u2_dyn, u2_dynj, Nat.reduceAdd]
    refine lp_sum0 (T := fun n a' k => f_X15_pale_25 n (ad b 72) p a' k (lay b F E (u2 (u2 I 0 (upd (I 0) 16 0)) 72 (upd (I 72) 0 0)) L P nx us)) (R := fun a => some (a, lay b F E (rf I 0) L P nx us)) (f := fun w => plR p (sm (plS (I 72 5) (I (149 + q w) 10) (I 75 w) (fun c => I 86 (192 * w + c))) 0 (wd w * hg w)) (sm (plC (fun c => I 86 (192 * w + c))) 0 (wd w * hg w))) (N := nw) (by omega) ?_ ?_
    · intro n' a'
      (simp (decide := true) only [f_X15_pale_25, hn3, Int32.le_refl, isO_s, gI_s, gA_s, gL_s, pI_s, pZ_s, pL_s, aI_s, aL_s, aN_s, aQ_s, sI_s, sL_s, cr, LNs, Option.map_some, Option.map_none, Option.bind_some, b2, tr, lt, if_true, if_false, ckZ, X_within, M_in, inR_z, X_refuse, X_tell, X_deny, X_grant, M_refused, M_denied, M_done, M_granted, u2_same, u2_ne, u2_u2, upd_same, upd_ne, aW0, ixR_z, ixR_1, M_isWall, M_isPainter, M_isWork, X_has4, X_has10, X_at, or_false, false_or, or_true, true_or, not_true, not_false_iff, Option.isSome_some, isO_d, gI_d, gA_d, pI_d, ne_eq, not_false_eq_true, u2_hi, u2_hj, u2_dyn, u2_dynj, Nat.reduceAdd]; try exact rfl)
    · intro n' a' w hw
      have e5 := oN_leF hw (by omega)
      obtain ⟨-, hK, a1, a2, a3, a4, -, -⟩ := hA w hw
      obtain ⟨b1, b2', b3, b4⟩ := hB w hw
      have hwb : w < 16 := by omega
      have hmp := M_painted (b := b) (F := F) (E := E) (L := L) (P := P) (nx := nx) (us := us) (I := u2 (u2 I 0 (upd (I 0) 16 0)) 72 (upd (I 72) 0 0)) (w := w) hwb (by simp (decide := true) only [u2_same, u2_ne, u2_u2, upd_same, upd_ne, mE, u2_dyn, dyn_u2, dyn_hi, u2_hi, u2_hj, u2_dynj]; exact b3) (by simp (decide := true) only [u2_same, u2_ne, u2_u2, upd_same, upd_ne, mE, u2_dyn, dyn_u2, dyn_hi, u2_hi, u2_hj, u2_dynj]; exact b4) (n192 a2 a4)
      have hm1 := fun many => M_pale1 (b := b) (F := F) (E := E) (L := L) (P := P) (nx := nx) (us := us) (I := u2 (u2 I 0 (upd (I 0) 16 0)) 72 (upd (I 72) 0 0)) (bd := p) (w := w) (k25 := f_X15_pale_25 n') a' (I (149 + q w) 10) hwb (by simp (decide := true) only [u2_same, u2_ne, u2_u2, upd_same, upd_ne, mE, u2_dyn, dyn_u2, dyn_hi, u2_hi, u2_hj, u2_dynj]; exact b3) (by simp (decide := true) only [u2_same, u2_ne, u2_u2, upd_same, upd_ne, mE, u2_dyn, dyn_u2, dyn_hi, u2_hi, u2_hj, u2_dynj]; exact b4) (n192 a2 a4) (by
        simp (decide := true) only [u2_same, u2_ne, u2_u2, upd_same, upd_ne, mE, u2_dyn, dyn_u2, dyn_hi, u2_hi, u2_hj, u2_dynj]
        intro c hc hne
        obtain ⟨-, d2⟩ := hH w hw c hc
        obtain ⟨-, -, d3, -⟩ := d2 hne
        obtain ⟨-, -, -, -, f5⟩ := hE.1 w hw
        rw [dy0] at f5
        rcases f5 with f5 | ⟨k, hk', f5, -, f6⟩
        · exact absurd f5 d3
        · exact ⟨k, by omega, f5, f6.symm⟩) many
      simp (decide := true) only [u2_same, u2_ne, upd_ne, ne_eq] at hm1
      show f_X15_pale_25 (n' + 1) (ad b 72) p a' (Int32.ofNat w) (lay b F E (u2 (u2 I 0 (upd (I 0) 16 0)) 72 (upd (I 72) 0 0)) L P nx us) = _
      simp (decide := true) only [f_X15_pale_25, hn3, e5, hmp, hm1, isO_s, gI_s, gA_s, gL_s, pI_s, pZ_s, pL_s, aI_s, aL_s, aN_s, aQ_s, sI_s, sL_s, cr, LNs, Option.map_some, Option.map_none, Option.bind_some, b2, tr, lt, if_true, if_false, ckZ, X_within, M_in, inR_z, X_refuse, X_tell, X_deny, X_grant, M_refused, M_denied, M_done, M_granted, u2_same, u2_ne, u2_u2, upd_same, upd_ne, aW0, ixR_z, ixR_1, M_isWall, M_isPainter, M_isWork, X_has4, X_has10, X_at, or_false, false_or, or_true, true_or, not_true, not_false_iff, Option.isSome_some, isO_d, gI_d, gA_d, pI_d, ne_eq, not_false_eq_true, u2_hi, u2_hj, u2_dyn, u2_dynj, Nat.reduceAdd]
      exact rfl
end PALE
