/-! ===== give: worths ===== -/
def woR (W : Nat → Nat → Int32) (at0 i m : Nat) (r : RW) : RW := fun x => if 10 * at0 + i ≤ x ∧ x < 10 * at0 + i + m then W at0 (x - 10 * at0) else r x
theorem woR_0 {W : Nat → Nat → Int32} {at0 i : Nat} {r : RW} : woR W at0 i 0 r = r := by
  funext k
  unfold woR
  rw [if_neg (by omega)]
theorem woR_s {W : Nat → Nat → Int32} {at0 i m : Nat} {r : RW} : woR W at0 (i + 1) m (upd r (10 * at0 + i) (W at0 i)) = woR W at0 i (m + 1) r := by
  funext k
  unfold woR upd
  by_cases h : k = 10 * at0 + i
  · subst h
    rw [if_neg (by omega), if_pos rfl, if_pos (by omega)]
    congr 1
    omega
  · by_cases h2 : 10 * at0 + (i + 1) ≤ k ∧ k < 10 * at0 + (i + 1) + m
    · rw [if_pos h2, if_pos (by omega)]
    · rw [if_neg h2, if_neg h, if_neg (by omega)]
theorem ix10 {i j : Nat} : Int32.ofNat i * 10 + Int32.ofNat j = Int32.ofNat (10 * i + j) := by rw [show (10 : Int32) = Int32.ofNat 10 from rfl, oN_mul, oN_add, Nat.mul_comm]
/-- the worths -/
def WoS (s nw nk np n : Nat) (lk : Nat → Nat → Int32) (x8 m82 m85 m111 m124 : RW) (ak : Nat → Nat) (W : Nat → Nat → Int32) : Prop := ∀ a p, a < n → p < np → ((¬ lk p (ak a) ≤ 0 ∧ ¬ ∃ j, 0 ≤ j ∧ j < nw ∧ likeAt s nk np m82 m85 m111 m124 (ak a) (m111 p) j) → W a p = lk p (ak a) * 64 - x8 p) ∧ (¬ (¬ lk p (ak a) ≤ 0 ∧ ¬ ∃ j, 0 ≤ j ∧ j < nw ∧ likeAt s nk np m82 m85 m111 m124 (ak a) (m111 p) j) → W a p = 0)
section GIVA
variable {b : Nat} {F : Nat → Option AE} {D E : Nat → Option KD} {I : Nat → Nat → Int32} {L : Nat → Nat → Int64} {P : Nat → Nat → Option Nat} {nx us : Nat}
theorem X_wo1 {s nw nk np n at0 : Nat} {lk : Nat → Nat → Int32} {q wd hg ow ak : Nat → Nat} {m82 m85 m111 m124 : RW} {W : Nat → Nat → Int32} {k2 : Nat → Int32 → AH → Option AH} (hs : s < 65536) (hn : I 1 1 = Int32.ofNat nw) (h16 : nw ≤ 16) (hA : WA nw q wd hg ow E (P 2)) (hG : GBes (I 3) m85) (h3 : I 26 3 = Int32.ofNat s) (hk : I 13 1 = Int32.ofNat nk) (hk4 : nk ≤ 40) (hp : I 5 0 = Int32.ofNat np) (hp1 : np ≤ 10) (h6 : ∀ p, p < np → I 6 p = m111 p) (hL : LWx nw nk np q I m82 m124) (hn6 : n ≤ 6) (hK : AK s nw n ak) (hak : ∀ k, k < n → I 27 k = Int32.ofNat (ak k)) (hlk : ∀ p w, p < np → w < nw → I 9 (16 * p + w) * 10 + I 10 (16 * p + w) = lk p w) (hW : WoS s nw nk np n lk (I 8) m82 m85 m111 m124 ak W) (hat : at0 < n) : ∀ (m i : Nat), i + m = np → ∀ (fu : Nat) (r : RW), m < fu → f_X3_reckonWorths_12 k2 fu (ad b 26) (Int32.ofNat at0) (Int32.ofNat i) (lay b F E (u2 I 28 r) L P nx us) = k2 (ad b 26) (Int32.ofNat (at0 + 1)) (lay b F E (u2 I 28 (woR W at0 i m r)) L P nx us) := by
  have e6 : iN (Int32.ofNat at0) 6 = some at0 := iN_oN (by omega) (by omega)
  have hwa := (hK.1 at0 hat).1
  intro m
  induction m with
  | zero =>
    intro i hi fu r hf
    obtain ⟨fu, rfl⟩ : ∃ f, fu = f + 1 := ⟨fu - 1, by omega⟩
    have : i = np := by omega
    subst this
    rw [woR_0]
    simp (decide := true) only [f_X3_reckonWorths_12, hp, Int32.le_refl, oN_succ, isO_s, gI_s, gA_s, gL_s, pI_s, pZ_s, pL_s, aI_s, aL_s, aN_s, aQ_s, sI_s, sL_s, cr, LNs, Option.map_some, Option.map_none, Option.bind_some, b2, tr, lt, if_true, if_false, ckZ, X_within, M_in, inR_z, X_refuse, X_tell, X_deny, X_grant, M_refused, M_denied, M_done, M_granted, u2_same, u2_ne, u2_u2, upd_same, upd_ne, aW0, ixR_z, ixR_1, M_isWall, M_isPainter, M_isWork, X_has4, X_has10, X_at, or_false, false_or, or_true, true_or, not_true, not_false_iff, Option.isSome_some, isO_d, gI_d, gA_d, pI_d, ne_eq, not_false_eq_true, u2_hi, u2_hj, u2_dyn, u2_dynj, Nat.reduceAdd, mX_r, mX_rD, mX_rDj, mM_r, mX_u, mX_uM, mX_uD, mX_uDj, mM_u, mM_uX, mM_uD, mM_uDj, u2_dd, u2_d0, u2_0d]
  | succ m ih =>
    intro i hi fu r hf
    obtain ⟨fu, rfl⟩ : ∃ f, fu = f + 1 := ⟨fu - 1, by omega⟩
    have hin : i < np := by omega
    have e2 := oN_leF hin (by omega)
    have e3 : iN (Int32.ofNat i) 10 = some i := iN_oN (by omega) (by omega)
    have e4 : iN (Int32.ofNat (10 * at0 + i)) 60 = some (10 * at0 + i) := iN_oN (by omega) (by omega)
    have a4 := oN_neg (w := i) (by omega)
    have hI : ∀ c, c ≠ 28 → u2 I 28 r c = I c := fun c h => u2_ne h
    have hp' : u2 I 28 r 5 0 = Int32.ofNat np := by rw [hI _ (by decide)]; exact hp
    have h10 : u2 I 28 r 5 0 ≤ 10 := by rw [hp']; exact oN_leL hp1 (by decide)
    have hx4 := fun p => X_has4 (b := b) (F := F) (E := E) (L := L) (P := P) (nx := nx) (us := us) (p := p) h10
    rw [hp'] at hx4
    have hlo := X_likedOn (b := b) (F := F) (E := E) (L := L) (P := P) (nx := nx) (us := us) (I := u2 I 28 r) (p := i) (w := ak at0) hp' hp1 hin (by omega)
    rw [hI 9 (by decide), hI 10 (by decide), hlk i (ak at0) hin hwa] at hlo
    obtain ⟨o1, o2⟩ := X_out (b := b) (F := F) (L := L) (nx := nx) (us := us) (I := u2 I 28 r) (sty := m111 i) (m82 := m82) (m111 := m111) (m124 := m124) (nk := nk) hs (by rw [hI _ (by decide)]; exact hn) h16 hA (by rw [hI _ (by decide)]; exact hG) (by rw [hI _ (by decide)]; exact h3) (by rw [hI _ (by decide)]; exact hk) hk4 hp' hp1 (by intro p hp; rw [hI _ (by decide)]; exact h6 p hp) (by intro j hj; rw [hI _ (by omega), hI 15 (by decide)]; exact hL j hj) hwa nw 0 (by omega) FU (by unfold FU; omega)
    have z0 : Int32.ofNat 0 = 0 := rfl
    rw [z0] at o1 o2
    obtain ⟨w1, w2⟩ := hW at0 i hat hin
    have ih' := ih (i + 1) (by omega) fu (upd r (10 * at0 + i) (W at0 i)) (by omega)
    rw [woR_s] at ih'
    generalize lk i (ak at0) = l at hlo w1 w2
    by_cases hl : l ≤ 0
    · rw [w2 (fun q => q.1 hl)] at ih'
      simp (decide := true) only [f_X3_reckonWorths_12, f_X3_reckonWorths_67, f_X3_reckonWorths_68, f_X3_reckonWorths_102, hp, e2, e6, hak at0 hat, hlo, hl, ix10, e4, oN_succ, ih', isO_s, gI_s, gA_s, gL_s, pI_s, pZ_s, pL_s, aI_s, aL_s, aN_s, aQ_s, sI_s, sL_s, cr, LNs, Option.map_some, Option.map_none, Option.bind_some, b2, tr, lt, if_true, if_false, ckZ, X_within, M_in, inR_z, X_refuse, X_tell, X_deny, X_grant, M_refused, M_denied, M_done, M_granted, u2_same, u2_ne, u2_u2, upd_same, upd_ne, aW0, ixR_z, ixR_1, M_isWall, M_isPainter, M_isWork, X_has4, X_has10, X_at, or_false, false_or, or_true, true_or, not_true, not_false_iff, Option.isSome_some, isO_d, gI_d, gA_d, pI_d, ne_eq, not_false_eq_true, u2_hi, u2_hj, u2_dyn, u2_dynj, Nat.reduceAdd, mX_r, mX_rD, mX_rDj, mM_r, mX_u, mX_uM, mX_uD, mX_uDj, mM_u, mM_uX, mM_uD, mM_uDj, u2_dd, u2_d0, u2_0d]
    · by_cases ho : ∃ j, 0 ≤ j ∧ j < nw ∧ likeAt s nk np m82 m85 m111 m124 (ak at0) (m111 i) j
      · have o1 := o1 ho
        rw [w2 (fun q => q.2 ho)] at ih'
        simp (decide := true) only [f_X3_reckonWorths_12, f_X3_reckonWorths_67, f_X3_reckonWorths_68, f_X3_reckonWorths_102, f_X3_isLikeOutside, f_X4_styleOf_18, f_X4_styleOf, hx4, a4, e3, h6 i hin, o1, hp, e2, e6, hak at0 hat, hlo, hl, ix10, e4, oN_succ, ih', isO_s, gI_s, gA_s, gL_s, pI_s, pZ_s, pL_s, aI_s, aL_s, aN_s, aQ_s, sI_s, sL_s, cr, LNs, Option.map_some, Option.map_none, Option.bind_some, b2, tr, lt, if_true, if_false, ckZ, X_within, M_in, inR_z, X_refuse, X_tell, X_deny, X_grant, M_refused, M_denied, M_done, M_granted, u2_same, u2_ne, u2_u2, upd_same, upd_ne, aW0, ixR_z, ixR_1, M_isWall, M_isPainter, M_isWork, X_has4, X_has10, X_at, or_false, false_or, or_true, true_or, not_true, not_false_iff, Option.isSome_some, isO_d, gI_d, gA_d, pI_d, ne_eq, not_false_eq_true, u2_hi, u2_hj, u2_dyn, u2_dynj, Nat.reduceAdd, mX_r, mX_rD, mX_rDj, mM_r, mX_u, mX_uM, mX_uD, mX_uDj, mM_u, mM_uX, mM_uD, mM_uDj, u2_dd, u2_d0, u2_0d]
      · have o2 := o2 ho
        rw [w1 ⟨hl, ho⟩] at ih'
        simp (decide := true) only [f_X3_reckonWorths_12, f_X3_reckonWorths_67, f_X3_reckonWorths_68, f_X3_reckonWorths_102, f_X3_isLikeOutside, f_X4_styleOf_18, f_X4_styleOf, f_X4_worksOf_18, f_X4_worksOf, hx4, a4, e3, h6 i hin, o2, hp, e2, e6, hak at0 hat, hlo, hl, ix10, e4, oN_succ, ih', isO_s, gI_s, gA_s, gL_s, pI_s, pZ_s, pL_s, aI_s, aL_s, aN_s, aQ_s, sI_s, sL_s, cr, LNs, Option.map_some, Option.map_none, Option.bind_some, b2, tr, lt, if_true, if_false, ckZ, X_within, M_in, inR_z, X_refuse, X_tell, X_deny, X_grant, M_refused, M_denied, M_done, M_granted, u2_same, u2_ne, u2_u2, upd_same, upd_ne, aW0, ixR_z, ixR_1, M_isWall, M_isPainter, M_isWork, X_has4, X_has10, X_at, or_false, false_or, or_true, true_or, not_true, not_false_iff, Option.isSome_some, isO_d, gI_d, gA_d, pI_d, ne_eq, not_false_eq_true, u2_hi, u2_hj, u2_dyn, u2_dynj, Nat.reduceAdd, mX_r, mX_rD, mX_rDj, mM_r, mX_u, mX_uM, mX_uD, mX_uDj, mM_u, mM_uX, mM_uD, mM_uDj, u2_dd, u2_d0, u2_0d]
end GIVA
