/-! ===== right: the reference reads lines ===== -/
/-- the reference stands at token i -/
def QM (t : RW) (n : Nat) (rg : Int32) (i : Nat) (I : Nat → Nat → Int32) (L : Nat → Nat → Int64) : Prop := TM t n rg (pl t n i) (I 72) (L 72) ∧ I 72 26 = Int32.ofNat n ∧ (∀ k, k < n → I 91 k = t k) ∧ I 72 36 = rg
def FRm (sp : Nat) (I J : Nat → Nat → Int32) : Prop := (∀ c, c ≠ 72 → c ≠ 90 → c ≠ sp → c ≠ sp + 1 → c ≠ sp + 2 → J c = I c) ∧ F72 (I 72) (J 72) ∧ ∀ k, k ≠ 6 → k ≠ 7 → J 90 k = I 90 k
theorem F72.refl {r : RW} : F72 r r := fun _ _ _ _ _ _ _ => rfl
theorem F72.trans {r s u : RW} (h : F72 r s) (h' : F72 s u) : F72 r u := fun j a c d e f g => (h' j a c d e f g).trans (h j a c d e f g)
theorem FRm.refl {sp : Nat} {I : Nat → Nat → Int32} : FRm sp I I := ⟨fun _ _ _ _ _ _ => rfl, F72.refl, fun _ _ _ => rfl⟩
theorem FRm.trans {sp : Nat} {I J K : Nat → Nat → Int32} (h : FRm sp I J) (h' : FRm sp J K) : FRm sp I K := ⟨fun c c1 c2 c3 c4 c5 => (h'.1 c c1 c2 c3 c4 c5).trans (h.1 c c1 c2 c3 c4 c5), h.2.1.trans h'.2.1, fun k k1 k2 => (h'.2.2 k k1 k2).trans (h.2.2 k k1 k2)⟩
theorem QM.fr {t : RW} {n i : Nat} {rg : Int32} {I J : Nat → Nat → Int32} {L : Nat → Nat → Int64} (h : QM t n rg i I L) (h1 : J 72 = I 72) (h2 : J 91 = I 91) : QM t n rg i J L := by
  unfold QM at h ⊢
  rw [h1, h2]
  exact h
section RGT3
variable {b : Nat} {F : Nat → Option AE} {D E : Nat → Option KD} {I : Nat → Nat → Int32} {L : Nat → Nat → Int64} {P : Nat → Nat → Option Nat} {nx us : Nat}
theorem M_nq {n i : Nat} {t : RW} {rg : Int32} (hn : n ≤ 400) (hB : BY t n) (h : QM t n rg i I L) (h0 : kd t n (pl t n i) ≠ 0) (h1 : kd t n (pl t n i) ≠ 1) (hr : ¬ cm t n i rg) : ∃ r l, f_X15_next (ad b 72) (lay b F E I L P nx us) = some (lay b F E (u2 I 72 r) (u2 L 72 l) P nx us) ∧ F72 (I 72) r ∧ (∀ j, j ≠ 37 → l j = L 72 j) ∧ QM t n rg (i + 1) (u2 I 72 r) (u2 L 72 l) := by
  obtain ⟨q1, q2, q3, q4⟩ := h
  obtain ⟨r, l, z1, z2, z3, z4⟩ := M_nx2 (b := b) (F := F) (E := E) (P := P) (nx := nx) (us := us) hn hB q2 q3 q4 q1 h0 h1 hr
  refine ⟨r, l, z1, z2, z3, ?_⟩
  refine ⟨by rw [u2_same, u2_same]; exact z4, ?_, ?_, ?_⟩
  · rw [u2_same, z2 26 (by decide) (by decide) (by decide) (by decide) (by decide) (by decide)]; exact q2
  · rw [u2_ne (by decide)]; exact q3
  · rw [u2_same, z2 36 (by decide) (by decide) (by decide) (by decide) (by decide) (by decide)]; exact q4
theorem M_who {z : ZX} {n i : Nat} {t : RW} {rg : Int32} (hz : GZ b F z) (h : QM t n rg i I L) : f_X15_whoHere z (ad b 72) (lay b F E I L P nx us) = some (whoV t n i, (lay b F E I L P nx us)) := by
  have w1 : f_X15_isWord z (ad b 72) (z.1 26) (lay b F E I L P nx us) = some (if isW t n i 12 then 1 else 0, (lay b F E I L P nx us)) := M_isW (k := 26) hz (by decide) h.1
  have w2 : f_X15_isWord z (ad b 72) (z.1 27) (lay b F E I L P nx us) = some (if isW t n i 13 then 1 else 0, (lay b F E I L P nx us)) := M_isW (k := 27) hz (by decide) h.1
  have w3 : f_X15_isWord z (ad b 72) (z.1 28) (lay b F E I L P nx us) = some (if isW t n i 14 then 1 else 0, (lay b F E I L P nx us)) := M_isW (k := 28) hz (by decide) h.1
  have w4 : f_X15_isWord z (ad b 72) (z.1 29) (lay b F E I L P nx us) = some (if isW t n i 15 then 1 else 0, (lay b F E I L P nx us)) := M_isW (k := 29) hz (by decide) h.1
  unfold whoV
  by_cases q1 : isW t n i 12
  · rw [if_pos q1] at w1 ⊢
    simp (decide := true) only [f_X15_whoHere_57, f_X15_whoHere, w1, isO_s, gI_s, gA_s, gL_s, pI_s, pZ_s, pL_s, aI_s, aL_s, aN_s, aQ_s, sI_s, sL_s, cr, LNs, Option.map_some, Option.map_none, Option.bind_some, b2, tr, lt, if_true, if_false, ckZ, X_within, M_in, inR_z, X_refuse, X_tell, X_deny, X_grant, M_refused, M_denied, M_done, M_granted, u2_same, u2_ne, u2_u2, upd_same, upd_ne, aW0, ixR_z, ixR_1, M_isWall, M_isPainter, M_isWork, X_has4, X_has10, X_at, or_false, false_or, or_true, true_or, not_true, not_false_iff, Option.isSome_some, isO_d, gI_d, gA_d, pI_d, ne_eq, not_false_eq_true, u2_hi, u2_hj, u2_dyn, u2_dynj, Nat.reduceAdd, mX_r, mX_rD, mX_rDj, mM_r, mX_u, mX_uM, mX_uD, mX_uDj, mM_u, mM_uX, mM_uD, mM_uDj, u2_dd, u2_d0, u2_0d]
  · rw [if_neg q1] at w1 ⊢
    by_cases q2 : isW t n i 13
    · rw [if_pos q2] at w2 ⊢
      simp (decide := true) only [f_X15_whoHere_57, f_X15_whoHere, w1, w2, isO_s, gI_s, gA_s, gL_s, pI_s, pZ_s, pL_s, aI_s, aL_s, aN_s, aQ_s, sI_s, sL_s, cr, LNs, Option.map_some, Option.map_none, Option.bind_some, b2, tr, lt, if_true, if_false, ckZ, X_within, M_in, inR_z, X_refuse, X_tell, X_deny, X_grant, M_refused, M_denied, M_done, M_granted, u2_same, u2_ne, u2_u2, upd_same, upd_ne, aW0, ixR_z, ixR_1, M_isWall, M_isPainter, M_isWork, X_has4, X_has10, X_at, or_false, false_or, or_true, true_or, not_true, not_false_iff, Option.isSome_some, isO_d, gI_d, gA_d, pI_d, ne_eq, not_false_eq_true, u2_hi, u2_hj, u2_dyn, u2_dynj, Nat.reduceAdd, mX_r, mX_rD, mX_rDj, mM_r, mX_u, mX_uM, mX_uD, mX_uDj, mM_u, mM_uX, mM_uD, mM_uDj, u2_dd, u2_d0, u2_0d]
    · rw [if_neg q2] at w2 ⊢
      by_cases q3 : isW t n i 14
      · rw [if_pos q3] at w3 ⊢
        simp (decide := true) only [f_X15_whoHere_57, f_X15_whoHere, w1, w2, w3, isO_s, gI_s, gA_s, gL_s, pI_s, pZ_s, pL_s, aI_s, aL_s, aN_s, aQ_s, sI_s, sL_s, cr, LNs, Option.map_some, Option.map_none, Option.bind_some, b2, tr, lt, if_true, if_false, ckZ, X_within, M_in, inR_z, X_refuse, X_tell, X_deny, X_grant, M_refused, M_denied, M_done, M_granted, u2_same, u2_ne, u2_u2, upd_same, upd_ne, aW0, ixR_z, ixR_1, M_isWall, M_isPainter, M_isWork, X_has4, X_has10, X_at, or_false, false_or, or_true, true_or, not_true, not_false_iff, Option.isSome_some, isO_d, gI_d, gA_d, pI_d, ne_eq, not_false_eq_true, u2_hi, u2_hj, u2_dyn, u2_dynj, Nat.reduceAdd, mX_r, mX_rD, mX_rDj, mM_r, mX_u, mX_uM, mX_uD, mX_uDj, mM_u, mM_uX, mM_uD, mM_uDj, u2_dd, u2_d0, u2_0d]
      · rw [if_neg q3] at w3 ⊢
        by_cases q4 : isW t n i 15
        · rw [if_pos q4] at w4 ⊢
          simp (decide := true) only [f_X15_whoHere_57, f_X15_whoHere, w1, w2, w3, w4, isO_s, gI_s, gA_s, gL_s, pI_s, pZ_s, pL_s, aI_s, aL_s, aN_s, aQ_s, sI_s, sL_s, cr, LNs, Option.map_some, Option.map_none, Option.bind_some, b2, tr, lt, if_true, if_false, ckZ, X_within, M_in, inR_z, X_refuse, X_tell, X_deny, X_grant, M_refused, M_denied, M_done, M_granted, u2_same, u2_ne, u2_u2, upd_same, upd_ne, aW0, ixR_z, ixR_1, M_isWall, M_isPainter, M_isWork, X_has4, X_has10, X_at, or_false, false_or, or_true, true_or, not_true, not_false_iff, Option.isSome_some, isO_d, gI_d, gA_d, pI_d, ne_eq, not_false_eq_true, u2_hi, u2_hj, u2_dyn, u2_dynj, Nat.reduceAdd, mX_r, mX_rD, mX_rDj, mM_r, mX_u, mX_uM, mX_uD, mX_uDj, mM_u, mM_uX, mM_uD, mM_uDj, u2_dd, u2_d0, u2_0d]
        · rw [if_neg q4] at w4 ⊢
          simp (decide := true) only [f_X15_whoHere_57, f_X15_whoHere, w1, w2, w3, w4, isO_s, gI_s, gA_s, gL_s, pI_s, pZ_s, pL_s, aI_s, aL_s, aN_s, aQ_s, sI_s, sL_s, cr, LNs, Option.map_some, Option.map_none, Option.bind_some, b2, tr, lt, if_true, if_false, ckZ, X_within, M_in, inR_z, X_refuse, X_tell, X_deny, X_grant, M_refused, M_denied, M_done, M_granted, u2_same, u2_ne, u2_u2, upd_same, upd_ne, aW0, ixR_z, ixR_1, M_isWall, M_isPainter, M_isWork, X_has4, X_has10, X_at, or_false, false_or, or_true, true_or, not_true, not_false_iff, Option.isSome_some, isO_d, gI_d, gA_d, pI_d, ne_eq, not_false_eq_true, u2_hi, u2_hj, u2_dyn, u2_dynj, Nat.reduceAdd, mX_r, mX_rD, mX_rDj, mM_r, mX_u, mX_uM, mX_uD, mX_uDj, mM_u, mM_uX, mM_uD, mM_uDj, u2_dd, u2_d0, u2_0d]
/-- the reference's stop at token j -/
def sF (I : Nat → Nat → Int32) (c : Int32) (s : Nat) : Nat → Nat → Int32 := u2 I 90 (upd (upd (I 90) 6 c) 7 (Int32.ofNat s))
theorem M_stopF {n i : Nat} {t : RW} {rg : Int32} (c : Int32) (h : QM t n rg i I L) : f_X15_stop (ad b 72) c (lay b F E I L P nx us) = some (some (ad b 90), lay b F E (sF I c (pl t n i)) L P nx us) := M_stop c h.1
theorem sF_67 {I : Nat → Nat → Int32} {c : Int32} {s : Nat} : sF I c s 90 6 = c ∧ sF I c s 90 7 = Int32.ofNat s := by unfold sF; simp (decide := true) only [u2_same, u2_ne, u2_u2, upd_same, upd_ne, mE, u2_dyn, dyn_u2, dyn_hi, u2_hi, u2_hj, u2_dynj, u2_dd, u2_d0, u2_0d]
theorem FRm_S {sp s : Nat} {c : Int32} {I : Nat → Nat → Int32} : FRm sp I (sF I c s) := ⟨fun c _ c2 _ _ _ => u2_ne c2, by unfold sF; rw [u2_ne (by decide)]; exact F72.refl, fun k k1 k2 => by unfold sF; rw [u2_same, upd_ne k2, upd_ne k1]⟩
/-- what the reference shows when it has read -/
def RM (b sp : Nat) (t : RW) (n : Nat) (out : ROut) (o : Option Nat) (I : Nat → Nat → Int32) : Prop := match out with
  | .inl (c, j) => o = some (ad b 90) ∧ I 90 6 = c ∧ I 90 7 = Int32.ofNat (pl t n j)
  | .inr (k, w, p) => o = none ∧ I sp 0 = Int32.ofNat k ∧ ∀ l, l < k → I (sp + 1) l = w l ∧ I (sp + 2) l = p l
/-- a line begun -/
def sW (sp k : Nat) (who sh : Int32) (I : Nat → Nat → Int32) : Nat → Nat → Int32 := u2 (u2 I (sp + 1) (upd (I (sp + 1)) k who)) (sp + 2) (upd (I (sp + 2)) k sh)
theorem sW_ne {sp k c : Nat} {who sh : Int32} {I : Nat → Nat → Int32} (h1 : c ≠ sp + 1) (h2 : c ≠ sp + 2) : sW sp k who sh I c = I c := by unfold sW; rw [u2_ne h2, u2_ne h1]
def sP (sp k : Nat) (sh : Int32) (I : Nat → Nat → Int32) : Nat → Nat → Int32 := u2 I (sp + 2) (upd (I (sp + 2)) k sh)
def sN1 (sp k : Nat) (I : Nat → Nat → Int32) : Nat → Nat → Int32 := u2 I sp (upd (I sp) 0 (Int32.ofNat (k + 1)))
theorem M_rd {z : ZX} {sp n : Nat} {t : RW} (hz : GZ b F z) (hn : n ≤ 400) (hB : BY t n) (hsp : 145 ≤ sp) (k0 : kdf E sp = some (.inr (13, true))) (k1 : kdf E (sp + 1) = some (.inl (0, 8))) (k2 : kdf E (sp + 2) = some (.inl (0, 8))) : ∀ (f i k : Nat) (tot : Int32) (w p : RW) (I : Nat → Nat → Int32) (L : Nat → Nat → Int64) (fu : Nat), f + k = 9 → k ≤ 8 → f < fu → QM t n 1 i I L → I sp 0 = Int32.ofNat k → (∀ l, l < k → I (sp + 1) l = w l ∧ I (sp + 2) l = p l) → ∃ o I' L', f_X15_readRight_18 z (fu + 1) (ad b 72) (ad b sp) tot 1 (lay b F E I L P nx us) = some (o, lay b F E I' L' P nx us) ∧ FRm sp I I' ∧ (∀ c, c ≠ 72 → L' c = L c) ∧ (∀ j, j ≠ 37 → L' 72 j = L 72 j) ∧ RM b sp t n (rgS t n f i k tot w p) o I' := by
  have cm1 : ∀ i, ¬ cm t n i 1 := fun i q => absurd q.2.1 (by decide)
  intro f
  induction f with
  | zero => intro i k tot w p I L fu h1 h2; omega
  | succ f ih =>
    intro i k tot w p I L fu hfk hk8 hfu hQ hsp0 hrows
    have hkd := (M_srt hQ.1).1
    have e10 : ((1 : Int32) = 0) = False := by decide
    have ek : iN (Int32.ofNat k) 8 = none ∨ iN (Int32.ofNat k) 8 = some k := by
      by_cases h : k < 8
      · exact Or.inr (iN_oN h (by omega))
      · exact Or.inl (by unfold iN; have : k = 8 := by omega
                         subst this; decide)
    have hre : f_X15_isWord z (ad b 72) (z.1 25) (lay b F E I L P nx us) = some (if isW t n i 11 then 1 else 0, (lay b F E I L P nx us)) := M_isW (k := 25) hz (by decide) hQ.1
    have hs1 := M_stopF (b := b) (F := F) (E := E) (P := P) (nx := nx) (us := us) 1 hQ
    -- a fault
    have flt : ∀ (K : Nat → Nat → Int32) (M : Nat → Nat → Int64) (c : Int32) (j : Nat), FRm sp I K → (∀ c, c ≠ 72 → M c = L c) → (∀ j, j ≠ 37 → M 72 j = L 72 j) → f_X15_readRight_18 z (fu + 1) (ad b 72) (ad b sp) tot 1 (lay b F E I L P nx us) = some (some (ad b 90), lay b F E (sF K c (pl t n j)) M P nx us) → ∃ o I' L', f_X15_readRight_18 z (fu + 1) (ad b 72) (ad b sp) tot 1 (lay b F E I L P nx us) = some (o, lay b F E I' L' P nx us) ∧ FRm sp I I' ∧ (∀ c, c ≠ 72 → L' c = L c) ∧ (∀ j, j ≠ 37 → L' 72 j = L 72 j) ∧ RM b sp t n (.inl (c, j)) o I' := by
      intro K M c j hK hM1 hM2 hrun
      exact ⟨_, _, _, hrun, hK.trans FRm_S, hM1, hM2, rfl, sF_67⟩
    -- behind a line
    have tail : ∀ (K : Nat → Nat → Int32) (M : Nat → Nat → Int64) (j : Nat) (tot' : Int32) (w' p' : RW), k < 8 → FRm sp I K → (∀ c, c ≠ 72 → M c = L c) → (∀ j, j ≠ 37 → M 72 j = L 72 j) → QM t n 1 j K M → K sp 0 = Int32.ofNat k → (∀ l, l < k + 1 → K (sp + 1) l = w' l ∧ K (sp + 2) l = p' l) → f_X15_readRight_18 z (fu + 1) (ad b 72) (ad b sp) tot 1 (lay b F E I L P nx us) = f_X15_readRight_175 z (f_X15_readRight_18 z fu) (ad b 72) (ad b sp) tot' (lay b F E K M P nx us) → ∃ o I' L', f_X15_readRight_18 z (fu + 1) (ad b 72) (ad b sp) tot 1 (lay b F E I L P nx us) = some (o, lay b F E I' L' P nx us) ∧ FRm sp I I' ∧ (∀ c, c ≠ 72 → L' c = L c) ∧ (∀ j, j ≠ 37 → L' 72 j = L 72 j) ∧ RM b sp t n (rgE t n j (rgS t n f (j + 1) (k + 1) tot' w' p') (.inr (k + 1, w', p'))) o I' := by
      intro K M j tot' w' p' hk7 hK hM1 hM2 kQ ksp krows hrun
      obtain ⟨fu, rfl⟩ : ∃ z, fu = z + 1 := ⟨fu - 1, by omega⟩
      have hfr : FRm sp K (sN1 sp k K) := ⟨fun c _ _ c3 _ _ => u2_ne c3, by unfold sN1; rw [u2_ne (by omega)]; exact F72.refl, fun k _ _ => by unfold sN1; rw [u2_ne (by omega)]⟩
      have kQ1 : QM t n 1 j (sN1 sp k K) M := kQ.fr (u2_ne (by omega)) (u2_ne (by omega))
      have hpi : pI 13 (lay b F E K M P nx us) (ad b sp) 0 (Int32.ofNat (k + 1)) = some (lay b F E (sN1 sp k K) M P nx us) := by
        unfold sN1
        simp (decide := true) only [k0, isO_s, gI_s, gA_s, gL_s, pI_s, pZ_s, pL_s, aI_s, aL_s, aN_s, aQ_s, sI_s, sL_s, cr, LNs, Option.map_some, Option.map_none, Option.bind_some, b2, tr, lt, if_true, if_false, ckZ, X_within, M_in, inR_z, X_refuse, X_tell, X_deny, X_grant, M_refused, M_denied, M_done, M_granted, u2_same, u2_ne, u2_u2, upd_same, upd_ne, aW0, ixR_z, ixR_1, M_isWall, M_isPainter, M_isWork, X_has4, X_has10, X_at, or_false, false_or, or_true, true_or, not_true, not_false_iff, Option.isSome_some, isO_d, gI_d, gA_d, pI_d, ne_eq, not_false_eq_true, u2_hi, u2_hj, u2_dyn, u2_dynj, Nat.reduceAdd, mX_r, mX_rD, mX_rDj, mM_r, mX_u, mX_uM, mX_uD, mX_uDj, mM_u, mM_uX, mM_uD, mM_uDj, u2_dd, u2_d0, u2_0d]
      have hgi : gI 13 (lay b F E K M P nx us) (ad b sp) 0 = some (Int32.ofNat k) := by rw [gI_d k0 (by decide), ksp]
      have hc := M_is (b := b) (F := F) (E := E) (P := P) (nx := nx) (us := us) 44 (fun q => absurd q (by decide)) kQ1.1
      have hend := (M_srt kQ1.1).2.2.1
      have n1 : sN1 sp k K sp 0 = Int32.ofNat (k + 1) := by unfold sN1; rw [u2_same, upd_same]
      have n2 : sN1 sp k K (sp + 1) = K (sp + 1) := u2_ne (by omega)
      have n3 : sN1 sp k K (sp + 2) = K (sp + 2) := u2_ne (by omega)
      unfold rgE
      rw [hrun]
      by_cases c1 : isC t n j 44
      · rw [if_pos c1] at hc ⊢
        obtain ⟨r, l, z1, z2, z3, z4⟩ := M_nq (b := b) (F := F) (E := E) (P := P) (nx := nx) (us := us) hn hB kQ1 (by rw [c1.1]; decide) (by rw [c1.1]; decide) (cm1 j)
        obtain ⟨o, I', L', y1, y2, y3, y4, y5⟩ := ih (j + 1) (k + 1) tot' w' p' (u2 (sN1 sp k K) 72 r) (u2 M 72 l) fu (by omega) (by omega) (by omega) z4 (by rw [u2_ne (by omega)]; exact n1) (by rw [u2_ne (by omega), u2_ne (by omega), n2, n3]; exact krows)
        have hf72 : FRm sp (sN1 sp k K) (u2 (sN1 sp k K) 72 r) := ⟨fun c c1 _ _ _ _ => u2_ne c1, by rw [u2_same]; exact z2, fun k _ _ => by rw [u2_ne (by decide)]⟩
        refine ⟨o, I', L', ?_, ((hK.trans hfr).trans hf72).trans y2, ?_, ?_, y5⟩
        · simp (decide := true) only [f_X15_readRight_175, hgi, oN_succ, hpi, hc, e10, z1, isO_s, gI_s, gA_s, gL_s, pZ_s, pL_s, aI_s, aL_s, aN_s, aQ_s, sI_s, sL_s, cr, LNs, Option.map_some, Option.map_none, Option.bind_some, b2, tr, lt, if_true, if_false, ckZ, X_within, M_in, inR_z, X_refuse, X_tell, X_deny, X_grant, M_refused, M_denied, M_done, M_granted, u2_same, u2_ne, u2_u2, upd_same, upd_ne, aW0, ixR_z, ixR_1, M_isWall, M_isPainter, M_isWork, X_has4, X_has10, X_at, or_false, false_or, or_true, true_or, not_true, not_false_iff, Option.isSome_some, isO_d, gA_d, ne_eq, not_false_eq_true, u2_hi, u2_hj, u2_dyn, u2_dynj, Nat.reduceAdd, mX_r, mX_rD, mX_rDj, mM_r, mX_u, mX_uM, mX_uD, mX_uDj, mM_u, mM_uX, mM_uD, mM_uDj, u2_dd, u2_d0, u2_0d]
          exact y1
        · intro c hc'
          rw [y3 c hc', u2_ne hc', hM1 c hc']
        · intro j hj
          rw [y4 j hj, u2_same, z3 j hj, hM2 j hj]
      · rw [if_neg c1] at hc ⊢
        by_cases c2 : kd t n (pl t n j) = 0
        · rw [if_pos c2]
          have hend' : (sN1 sp k K 72 28 = 1) = True := by rw [hend]; exact eq_true c2
          refine ⟨none, sN1 sp k K, M, ?_, hK.trans hfr, hM1, hM2, rfl, n1, ?_⟩
          · simp (decide := true) only [f_X15_readRight_175, f_X15_readRight_18, hgi, oN_succ, hpi, hc, hend', isO_s, gI_s, gA_s, gL_s, pZ_s, pL_s, aI_s, aL_s, aN_s, aQ_s, sI_s, sL_s, cr, LNs, Option.map_some, Option.map_none, Option.bind_some, b2, tr, lt, if_true, if_false, ckZ, X_within, M_in, inR_z, X_refuse, X_tell, X_deny, X_grant, M_refused, M_denied, M_done, M_granted, u2_same, u2_ne, u2_u2, upd_same, upd_ne, aW0, ixR_z, ixR_1, M_isWall, M_isPainter, M_isWork, X_has4, X_has10, X_at, or_false, false_or, or_true, true_or, not_true, not_false_iff, Option.isSome_some, isO_d, gA_d, ne_eq, not_false_eq_true, u2_hi, u2_hj, u2_dyn, u2_dynj, Nat.reduceAdd, mX_r, mX_rD, mX_rDj, mM_r, mX_u, mX_uM, mX_uD, mX_uDj, mM_u, mM_uX, mM_uD, mM_uDj, u2_dd, u2_d0, u2_0d]
          · rw [n2, n3]; exact krows
        · rw [if_neg c2]
          have hend' : (sN1 sp k K 72 28 = 1) = False := by rw [hend]; exact eq_false c2
          have hst := M_stopF (b := b) (F := F) (E := E) (P := P) (nx := nx) (us := us) 1 kQ1
          refine ⟨some (ad b 90), sF (sN1 sp k K) 1 (pl t n j), M, ?_, (hK.trans hfr).trans FRm_S, hM1, hM2, rfl, sF_67⟩
          simp (decide := true) only [f_X15_readRight_175, f_X15_readRight_18, hgi, oN_succ, hpi, hc, hend', hst, isO_s, gI_s, gA_s, gL_s, pZ_s, pL_s, aI_s, aL_s, aN_s, aQ_s, sI_s, sL_s, cr, LNs, Option.map_some, Option.map_none, Option.bind_some, b2, tr, lt, if_true, if_false, ckZ, X_within, M_in, inR_z, X_refuse, X_tell, X_deny, X_grant, M_refused, M_denied, M_done, M_granted, u2_same, u2_ne, u2_u2, upd_same, upd_ne, aW0, ixR_z, ixR_1, M_isWall, M_isPainter, M_isWork, X_has4, X_has10, X_at, or_false, false_or, or_true, true_or, not_true, not_false_iff, Option.isSome_some, isO_d, gA_d, ne_eq, not_false_eq_true, u2_hi, u2_hj, u2_dyn, u2_dynj, Nat.reduceAdd, mX_r, mX_rD, mX_rDj, mM_r, mX_u, mX_uM, mX_uD, mX_uDj, mM_u, mM_uX, mM_uD, mM_uDj, u2_dd, u2_d0, u2_0d]
    unfold rgS
    by_cases c1 : kd t n (pl t n i) = 2
    · have c1T : (I 72 28 = 2) = True := by rw [hkd]; exact eq_true c1
      by_cases c2 : isW t n i 11
      · rw [if_pos (Or.inr c2)]
        rw [if_pos c2] at hre
        refine flt I L 1 i FRm.refl (fun _ _ => rfl) (fun _ _ => rfl) ?_
        simp (decide := true) only [f_X15_readRight_18, f_X15_readRight_40, e10, c1T, hre, hs1, isO_s, gI_s, gA_s, gL_s, pI_s, pZ_s, pL_s, aI_s, aL_s, aN_s, aQ_s, sI_s, sL_s, cr, LNs, Option.map_some, Option.map_none, Option.bind_some, b2, tr, lt, if_true, if_false, ckZ, X_within, M_in, inR_z, X_refuse, X_tell, X_deny, X_grant, M_refused, M_denied, M_done, M_granted, u2_same, u2_ne, u2_u2, upd_same, upd_ne, aW0, ixR_z, ixR_1, M_isWall, M_isPainter, M_isWork, X_has4, X_has10, X_at, or_false, false_or, or_true, true_or, not_true, not_false_iff, Option.isSome_some, isO_d, gI_d, gA_d, pI_d, ne_eq, not_false_eq_true, u2_hi, u2_hj, u2_dyn, u2_dynj, Nat.reduceAdd, mX_r, mX_rD, mX_rDj, mM_r, mX_u, mX_uM, mX_uD, mX_uDj, mM_u, mM_uX, mM_uD, mM_uDj, u2_dd, u2_d0, u2_0d]
      · rw [if_neg (by rintro (q | q); exact q c1; exact c2 q)]
        rw [if_neg c2] at hre
        have hwh := M_who (b := b) (F := F) (E := E) (P := P) (nx := nx) (us := us) hz hQ
        by_cases c3 : whoV t n i = -1
        · rw [if_pos c3]
          have hs2 := M_stopF (b := b) (F := F) (E := E) (P := P) (nx := nx) (us := us) 2 hQ
          refine flt I L 2 i FRm.refl (fun _ _ => rfl) (fun _ _ => rfl) ?_
          simp (decide := true) only [f_X15_readRight_18, e10, c1T, hre, hwh, c3, hs2, isO_s, gI_s, gA_s, gL_s, pI_s, pZ_s, pL_s, aI_s, aL_s, aN_s, aQ_s, sI_s, sL_s, cr, LNs, Option.map_some, Option.map_none, Option.bind_some, b2, tr, lt, if_true, if_false, ckZ, X_within, M_in, inR_z, X_refuse, X_tell, X_deny, X_grant, M_refused, M_denied, M_done, M_granted, u2_same, u2_ne, u2_u2, upd_same, upd_ne, aW0, ixR_z, ixR_1, M_isWall, M_isPainter, M_isWork, X_has4, X_has10, X_at, or_false, false_or, or_true, true_or, not_true, not_false_iff, Option.isSome_some, isO_d, gI_d, gA_d, pI_d, ne_eq, not_false_eq_true, u2_hi, u2_hj, u2_dyn, u2_dynj, Nat.reduceAdd, mX_r, mX_rD, mX_rDj, mM_r, mX_u, mX_uM, mX_uD, mX_uDj, mM_u, mM_uX, mM_uD, mM_uDj, u2_dd, u2_d0, u2_0d]
        · rw [if_neg c3]
          have hgi : gI 13 (lay b F E I L P nx us) (ad b sp) 0 = some (Int32.ofNat k) := by rw [gI_d k0 (by decide), hsp0]
          by_cases c4 : k = 8
          · rw [if_pos c4]
            subst c4
            have hs4 := M_stopF (b := b) (F := F) (E := E) (P := P) (nx := nx) (us := us) 4 hQ
            have e9 : (Int32.ofNat 8 = 8) = True := by decide
            refine flt I L 4 i FRm.refl (fun _ _ => rfl) (fun _ _ => rfl) ?_
            simp (decide := true) only [f_X15_readRight_18, e10, c1T, hre, hwh, c3, hgi, e9, hs4, isO_s, gI_s, gA_s, gL_s, pI_s, pZ_s, pL_s, aI_s, aL_s, aN_s, aQ_s, sI_s, sL_s, cr, LNs, Option.map_some, Option.map_none, Option.bind_some, b2, tr, lt, if_true, if_false, ckZ, X_within, M_in, inR_z, X_refuse, X_tell, X_deny, X_grant, M_refused, M_denied, M_done, M_granted, u2_same, u2_ne, u2_u2, upd_same, upd_ne, aW0, ixR_z, ixR_1, M_isWall, M_isPainter, M_isWork, X_has4, X_has10, X_at, or_false, false_or, or_true, true_or, not_true, not_false_iff, Option.isSome_some, isO_d, gA_d, pI_d, ne_eq, not_false_eq_true, u2_hi, u2_hj, u2_dyn, u2_dynj, Nat.reduceAdd, mX_r, mX_rD, mX_rDj, mM_r, mX_u, mX_uM, mX_uD, mX_uDj, mM_u, mM_uX, mM_uD, mM_uDj, u2_dd, u2_d0, u2_0d]
          · rw [if_neg c4]
            have e9 : (Int32.ofNat k = 8) = False := eq_false (fun q => c4 ((oN_eq (c := 8) (by omega) (by omega)).mp q))
            have ek8 : iN (Int32.ofNat k) 8 = some k := iN_oN (by omega) (by omega)
            have hQ1 : QM t n 1 i (sW sp k (whoV t n i) (-1) I) L := hQ.fr (sW_ne (by omega) (by omega)) (sW_ne (by omega) (by omega))
            have hfW : FRm sp I (sW sp k (whoV t n i) (-1) I) := ⟨fun c _ _ _ c4 c5 => sW_ne c4 c5, by rw [sW_ne (by omega) (by omega)]; exact F72.refl, fun k _ _ => by rw [sW_ne (by omega) (by omega)]⟩
            obtain ⟨r1, l1, z1, z2, z3, z4⟩ := M_nq (b := b) (F := F) (E := E) (P := P) (nx := nx) (us := us) hn hB hQ1 (by omega) (by omega) (cm1 i)
            have hf1 : FRm sp I (u2 (sW sp k (whoV t n i) (-1) I) 72 r1) := hfW.trans ⟨fun c c1 _ _ _ _ => u2_ne c1, by rw [u2_same]; exact z2, fun k _ _ => by rw [u2_ne (by decide)]⟩
            have hg1 : gA 13 (lay b F E I L P nx us) (ad b sp) 1 = some (ad b (sp + 1)) := by rw [gA_d k0 (by decide) rfl]; rfl
            have hss : sI 0 (lay b F E I L P nx us) (ad b (sp + 1)) (Int32.ofNat k) (whoV t n i) = some (lay b F E (u2 I (sp + 1) (upd (I (sp + 1)) k (whoV t n i))) L P nx us) := by rw [sI_d k1 (by decide), ek8]; rfl
            have hg2 : gA 13 (lay b F E (u2 I (sp + 1) (upd (I (sp + 1)) k (whoV t n i))) L P nx us) (ad b sp) 2 = some (ad b (sp + 2)) := by rw [gA_d k0 (by decide) rfl]; rfl
            have hgi2 : gI 13 (lay b F E (u2 I (sp + 1) (upd (I (sp + 1)) k (whoV t n i))) L P nx us) (ad b sp) 0 = some (Int32.ofNat k) := by rw [gI_d k0 (by decide), u2_ne (by omega), hsp0]
            have hss2 : sI 0 (lay b F E (u2 I (sp + 1) (upd (I (sp + 1)) k (whoV t n i))) L P nx us) (ad b (sp + 2)) (Int32.ofNat k) (-1) = some (lay b F E (sW sp k (whoV t n i) (-1) I) L P nx us) := by
              rw [sI_d k2 (by decide), ek8]
              unfold sW
              rw [u2_ne (show sp + 2 ≠ sp + 1 by omega)]
              rfl
            have hre2 : f_X15_isWord z (ad b 72) (z.1 25) (lay b F E (u2 (sW sp k (whoV t n i) (-1) I) 72 r1) (u2 L 72 l1) P nx us) = some (if isW t n (i + 1) 11 then 1 else 0, lay b F E (u2 (sW sp k (whoV t n i) (-1) I) 72 r1) (u2 L 72 l1) P nx us) := M_isW (k := 25) hz (by decide) z4.1
            have hL1 : ∀ c, c ≠ 72 → u2 L 72 l1 c = L c := fun c hc => u2_ne hc
            have hL2 : ∀ j, j ≠ 37 → u2 L 72 l1 72 j = L 72 j := fun j hj => by rw [u2_same]; exact z3 j hj
            have rW : ∀ l, l < k + 1 → sW sp k (whoV t n i) (-1) I (sp + 1) l = upd w k (whoV t n i) l ∧ sW sp k (whoV t n i) (-1) I (sp + 2) l = upd p k (-1) l := by
              intro l hl
              unfold sW
              rw [u2_ne (show sp + 1 ≠ sp + 2 by omega), u2_same, u2_same]
              by_cases hlk : l = k
              · subst hlk; rw [upd_same, upd_same, upd_same, upd_same]; exact ⟨rfl, rfl⟩
              · rw [upd_ne hlk, upd_ne hlk, upd_ne hlk, upd_ne hlk]; exact hrows l (by omega)
            have spW : u2 (sW sp k (whoV t n i) (-1) I) 72 r1 sp 0 = Int32.ofNat k := by rw [u2_ne (by omega), sW_ne (by omega) (by omega)]; exact hsp0
            by_cases c5 : isW t n (i + 1) 11
            · rw [if_pos c5] at hre2 ⊢
              obtain ⟨r2, l2, w1, w2, w3, w4⟩ := M_nq (b := b) (F := F) (E := E) (P := P) (nx := nx) (us := us) hn hB z4 (by have := c5.1; omega) (by have := c5.1; omega) (cm1 (i + 1))
              refine tail (u2 (u2 (sW sp k (whoV t n i) (-1) I) 72 r1) 72 r2) (u2 (u2 L 72 l1) 72 l2) (i + 2) tot _ _ (by omega) (hf1.trans ⟨fun c c1 _ _ _ _ => u2_ne c1, by rw [u2_same]; exact w2, fun k _ _ => by rw [u2_ne (by decide)]⟩) (fun c hc => by rw [u2_ne hc, u2_ne hc]) (fun j hj => by rw [u2_same, w3 j hj]; exact hL2 j hj) w4 (by rw [u2_ne (by omega)]; exact spW) (by rw [u2_ne (by omega), u2_ne (by omega), u2_ne (by omega), u2_ne (by omega)]; exact rW) ?_
              simp (decide := true) only [f_X15_readRight_18, e10, c1T, hre, hwh, c3, hgi, e9, hg1, hss, hg2, hgi2, hss2, z1, hre2, w1, isO_s, gI_s, gA_s, gL_s, pI_s, pZ_s, pL_s, aI_s, aL_s, aN_s, aQ_s, sI_s, sL_s, cr, LNs, Option.map_some, Option.map_none, Option.bind_some, b2, tr, lt, if_true, if_false, ckZ, X_within, M_in, inR_z, X_refuse, X_tell, X_deny, X_grant, M_refused, M_denied, M_done, M_granted, u2_same, u2_ne, upd_same, upd_ne, aW0, ixR_z, ixR_1, M_isWall, M_isPainter, M_isWork, X_has4, X_has10, X_at, or_false, false_or, or_true, true_or, not_true, not_false_iff, Option.isSome_some, isO_d, pI_d, ne_eq, not_false_eq_true, u2_hi, u2_hj, u2_dyn, u2_dynj, Nat.reduceAdd, mX_r, mX_rD, mX_rDj, mM_r, mX_u, mX_uM, mX_uD, mX_uDj, mM_u, mM_uX, mM_uD, mM_uDj, u2_dd, u2_d0, u2_0d]
            · rw [if_neg c5] at hre2 ⊢
              have hkd2 := (M_srt z4.1).2.1
              by_cases c6 : kd t n (pl t n (i + 1)) = 3
              · rw [if_neg (fun q => q c6)]
                have c6T : (u2 (sW sp k (whoV t n i) (-1) I) 72 r1 72 28 = 3) = True := by rw [hkd2]; exact eq_true c6
                have h31 : u2 (sW sp k (whoV t n i) (-1) I) 72 r1 72 31 = num t n (i + 1) := (z4.1.2.2.2.2.1 c6).2.1
                rw [u2_same] at c6T h31
                by_cases c7 : tot + num t n (i + 1) ≤ 100
                · rw [if_neg (fun q => q c7)]
                  let T : Nat → Nat → Int32 := sP sp k (num t n (i + 1)) (u2 (sW sp k (whoV t n i) (-1) I) 72 r1)
                  have hTne : ∀ c, c ≠ sp + 2 → T c = u2 (sW sp k (whoV t n i) (-1) I) 72 r1 c := fun c hc => u2_ne hc
                  have hg3 : gA 13 (lay b F E (u2 (sW sp k (whoV t n i) (-1) I) 72 r1) (u2 L 72 l1) P nx us) (ad b sp) 2 = some (ad b (sp + 2)) := by rw [gA_d k0 (by decide) rfl]; rfl
                  have hgi3 : gI 13 (lay b F E (u2 (sW sp k (whoV t n i) (-1) I) 72 r1) (u2 L 72 l1) P nx us) (ad b sp) 0 = some (Int32.ofNat k) := by rw [gI_d k0 (by decide), spW]
                  have hss3 : sI 0 (lay b F E (u2 (sW sp k (whoV t n i) (-1) I) 72 r1) (u2 L 72 l1) P nx us) (ad b (sp + 2)) (Int32.ofNat k) (num t n (i + 1)) = some (lay b F E T (u2 L 72 l1) P nx us) := by rw [sI_d k2 (by decide), ek8]; rfl
                  have hQT : QM t n 1 (i + 1) T (u2 L 72 l1) := z4.fr (hTne _ (by omega)) (hTne _ (by omega))
                  have hfT : FRm sp I T := hf1.trans ⟨fun c _ _ _ _ c5 => hTne c c5, by rw [hTne _ (by omega)]; exact F72.refl, fun k _ _ => by rw [hTne _ (by omega)]⟩
                  obtain ⟨r2, l2, w1, w2, w3, w4⟩ := M_nq (b := b) (F := F) (E := E) (P := P) (nx := nx) (us := us) hn hB hQT (by omega) (by omega) (cm1 (i + 1))
                  have hf2 : FRm sp I (u2 T 72 r2) := hfT.trans ⟨fun c c1 _ _ _ _ => u2_ne c1, by rw [u2_same]; exact w2, fun k _ _ => by rw [u2_ne (by decide)]⟩
                  have hc8 := M_is (b := b) (F := F) (E := E) (P := P) (nx := nx) (us := us) 37 (fun q => absurd q (by decide)) w4.1
                  by_cases c8 : isC t n (i + 2) 37
                  · rw [if_neg (fun q => q c8)]
                    rw [if_pos c8] at hc8
                    obtain ⟨r3, l3, v1, v2, v3, v4⟩ := M_nq (b := b) (F := F) (E := E) (P := P) (nx := nx) (us := us) hn hB w4 (show kd t n (pl t n (i + 2)) ≠ 0 by have := c8.1; omega) (show kd t n (pl t n (i + 2)) ≠ 1 by have := c8.1; omega) (cm1 (i + 2))
                    refine tail (u2 (u2 T 72 r2) 72 r3) (u2 (u2 (u2 L 72 l1) 72 l2) 72 l3) (i + 3) (tot + num t n (i + 1)) _ _ (by omega) (hf2.trans ⟨fun c c1 _ _ _ _ => u2_ne c1, by rw [u2_same]; exact v2, fun k _ _ => by rw [u2_ne (by decide)]⟩) (fun c hc => by rw [u2_ne hc, u2_ne hc, u2_ne hc]) (fun j hj => by rw [u2_same, v3 j hj, u2_same, w3 j hj]; exact hL2 j hj) v4 (by rw [u2_ne (by omega), u2_ne (by omega), hTne _ (by omega)]; exact spW) ?_ ?_
                    · intro l hl
                      rw [u2_ne (by omega), u2_ne (by omega), u2_ne (by omega), u2_ne (by omega), hTne _ (by omega), u2_ne (by omega)]
                      refine ⟨(rW l hl).1, ?_⟩
                      show u2 (u2 (sW sp k (whoV t n i) (-1) I) 72 r1) (sp + 2) (upd (u2 (sW sp k (whoV t n i) (-1) I) 72 r1 (sp + 2)) k (num t n (i + 1))) (sp + 2) l = _
                      rw [u2_same]
                      by_cases hlk : l = k
                      · subst hlk; rw [upd_same, upd_same]
                      · rw [upd_ne hlk, upd_ne hlk, u2_ne (by omega), (rW l hl).2, upd_ne hlk]
                    · simp (decide := true) only [f_X15_readRight_18, f_X15_need, e10, c1T, hre, hwh, c3, hgi, e9, hg1, hss, hg2, hgi2, hss2, z1, hre2, c6T, h31, c7, hg3, hgi3, hss3, w1, hc8, v1, isO_s, gI_s, gA_s, gL_s, pI_s, pZ_s, pL_s, aI_s, aL_s, aN_s, aQ_s, sI_s, sL_s, cr, LNs, Option.map_some, Option.map_none, Option.bind_some, b2, tr, lt, if_true, if_false, ckZ, X_within, M_in, inR_z, X_refuse, X_tell, X_deny, X_grant, M_refused, M_denied, M_done, M_granted, u2_same, u2_ne, upd_same, upd_ne, aW0, ixR_z, ixR_1, M_isWall, M_isPainter, M_isWork, X_has4, X_has10, X_at, or_false, false_or, or_true, true_or, not_true, not_false_iff, Option.isSome_some, isO_d, pI_d, ne_eq, not_false_eq_true, u2_hi, u2_hj, u2_dyn, u2_dynj, Nat.reduceAdd, mX_r, mX_rD, mX_rDj, mM_r, mX_u, mX_uM, mX_uD, mX_uDj, mM_u, mM_uX, mM_uD, mM_uDj, u2_dd, u2_d0, u2_0d]
                  · rw [if_pos c8]
                    rw [if_neg c8] at hc8
                    have hst := M_stopF (b := b) (F := F) (E := E) (P := P) (nx := nx) (us := us) 1 w4
                    refine flt (u2 T 72 r2) (u2 (u2 L 72 l1) 72 l2) 1 (i + 2) hf2 (fun c hc => by rw [u2_ne hc, u2_ne hc]) (fun j hj => by rw [u2_same, w3 j hj]; exact hL2 j hj) ?_
                    simp (decide := true) only [f_X15_readRight_18, f_X15_need, e10, c1T, hre, hwh, c3, hgi, e9, hg1, hss, hg2, hgi2, hss2, z1, hre2, c6T, h31, c7, hg3, hgi3, hss3, w1, hc8, hst, isO_s, gI_s, gA_s, gL_s, pI_s, pZ_s, pL_s, aI_s, aL_s, aN_s, aQ_s, sI_s, sL_s, cr, LNs, Option.map_some, Option.map_none, Option.bind_some, b2, tr, lt, if_true, if_false, ckZ, X_within, M_in, inR_z, X_refuse, X_tell, X_deny, X_grant, M_refused, M_denied, M_done, M_granted, u2_same, u2_ne, upd_same, upd_ne, aW0, ixR_z, ixR_1, M_isWall, M_isPainter, M_isWork, X_has4, X_has10, X_at, or_false, false_or, or_true, true_or, not_true, not_false_iff, Option.isSome_some, isO_d, pI_d, ne_eq, not_false_eq_true, u2_hi, u2_hj, u2_dyn, u2_dynj, Nat.reduceAdd, mX_r, mX_rD, mX_rDj, mM_r, mX_u, mX_uM, mX_uD, mX_uDj, mM_u, mM_uX, mM_uD, mM_uDj, u2_dd, u2_d0, u2_0d]
                · rw [if_pos c7]
                  have hst := M_stopF (b := b) (F := F) (E := E) (P := P) (nx := nx) (us := us) 3 z4
                  refine flt (u2 (sW sp k (whoV t n i) (-1) I) 72 r1) (u2 L 72 l1) 3 (i + 1) hf1 hL1 hL2 ?_
                  simp (decide := true) only [f_X15_readRight_18, e10, c1T, hre, hwh, c3, hgi, e9, hg1, hss, hg2, hgi2, hss2, z1, hre2, c6T, h31, c7, hst, isO_s, gI_s, gA_s, gL_s, pI_s, pZ_s, pL_s, aI_s, aL_s, aN_s, aQ_s, sI_s, sL_s, cr, LNs, Option.map_some, Option.map_none, Option.bind_some, b2, tr, lt, if_true, if_false, ckZ, X_within, M_in, inR_z, X_refuse, X_tell, X_deny, X_grant, M_refused, M_denied, M_done, M_granted, u2_same, u2_ne, upd_same, upd_ne, aW0, ixR_z, ixR_1, M_isWall, M_isPainter, M_isWork, X_has4, X_has10, X_at, or_false, false_or, or_true, true_or, not_true, not_false_iff, Option.isSome_some, isO_d, pI_d, ne_eq, not_false_eq_true, u2_hi, u2_hj, u2_dyn, u2_dynj, Nat.reduceAdd, mX_r, mX_rD, mX_rDj, mM_r, mX_u, mX_uM, mX_uD, mX_uDj, mM_u, mM_uX, mM_uD, mM_uDj, u2_dd, u2_d0, u2_0d]
              · rw [if_pos c6]
                have c6T : (u2 (sW sp k (whoV t n i) (-1) I) 72 r1 72 28 = 3) = False := by rw [hkd2]; exact eq_false c6
                rw [u2_same] at c6T
                have hst := M_stopF (b := b) (F := F) (E := E) (P := P) (nx := nx) (us := us) 1 z4
                refine flt (u2 (sW sp k (whoV t n i) (-1) I) 72 r1) (u2 L 72 l1) 1 (i + 1) hf1 hL1 hL2 ?_
                simp (decide := true) only [f_X15_readRight_18, e10, c1T, hre, hwh, c3, hgi, e9, hg1, hss, hg2, hgi2, hss2, z1, hre2, c6T, hst, isO_s, gI_s, gA_s, gL_s, pI_s, pZ_s, pL_s, aI_s, aL_s, aN_s, aQ_s, sI_s, sL_s, cr, LNs, Option.map_some, Option.map_none, Option.bind_some, b2, tr, lt, if_true, if_false, ckZ, X_within, M_in, inR_z, X_refuse, X_tell, X_deny, X_grant, M_refused, M_denied, M_done, M_granted, u2_same, u2_ne, upd_same, upd_ne, aW0, ixR_z, ixR_1, M_isWall, M_isPainter, M_isWork, X_has4, X_has10, X_at, or_false, false_or, or_true, true_or, not_true, not_false_iff, Option.isSome_some, isO_d, pI_d, ne_eq, not_false_eq_true, u2_hi, u2_hj, u2_dyn, u2_dynj, Nat.reduceAdd, mX_r, mX_rD, mX_rDj, mM_r, mX_u, mX_uM, mX_uD, mX_uDj, mM_u, mM_uX, mM_uD, mM_uDj, u2_dd, u2_d0, u2_0d]
    · have c1T : (I 72 28 = 2) = False := by rw [hkd]; exact eq_false c1
      rw [if_pos (Or.inl c1)]
      refine flt I L 1 i FRm.refl (fun _ _ => rfl) (fun _ _ => rfl) ?_
      simp (decide := true) only [f_X15_readRight_18, f_X15_readRight_40, e10, c1T, hs1, isO_s, gI_s, gA_s, gL_s, pI_s, pZ_s, pL_s, aI_s, aL_s, aN_s, aQ_s, sI_s, sL_s, cr, LNs, Option.map_some, Option.map_none, Option.bind_some, b2, tr, lt, if_true, if_false, ckZ, X_within, M_in, inR_z, X_refuse, X_tell, X_deny, X_grant, M_refused, M_denied, M_done, M_granted, u2_same, u2_ne, u2_u2, upd_same, upd_ne, aW0, ixR_z, ixR_1, M_isWall, M_isPainter, M_isWork, X_has4, X_has10, X_at, or_false, false_or, or_true, true_or, not_true, not_false_iff, Option.isSome_some, isO_d, gI_d, gA_d, pI_d, ne_eq, not_false_eq_true, u2_hi, u2_hj, u2_dyn, u2_dynj, Nat.reduceAdd, mX_r, mX_rD, mX_rDj, mM_r, mX_u, mX_uM, mX_uD, mX_uDj, mM_u, mM_uX, mM_uD, mM_uDj, u2_dd, u2_d0, u2_0d]
end RGT3
