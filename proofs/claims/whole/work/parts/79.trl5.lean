/-! ===== trail: the call ===== -/
/-- the class's table of ways -/
def GSh (E : Nat → Option KD) (P : Nat → Nat → Option Nat) (ow : Nat → Nat) : Prop := ∃ sc len, P 33 8 = some sc ∧ kdf E sc = some (.inl (0, len)) ∧ len ≤ 4608 ∧ ((sc = 38 ∧ len = 0) ∨ ∃ d, sc = 149 + d ∧ ow d = 8)
section TRL5
variable {b : Nat} {F : Nat → Option AE} {D E : Nat → Option KD} {I : Nat → Nat → Int32} {L : Nat → Nat → Int64} {P : Nat → Nat → Option Nat} {nx us : Nat}
theorem trailTail {nw n d len : Nat} {st : Nat → Nat} {q wd hg ow : Nat → Nat} {wt : Int32} (h16 : nw ≤ 16) (hA : WA nw q wd hg ow E (P 2)) (hdq : ∀ w, w < nw → q w ≠ d) (hP : P 33 8 = some (149 + d)) (hK : kdf E (149 + d) = some (.inl (0, len))) (hlen : 9 * 2 ^ n ≤ len) (hl2 : len ≤ 100000) (hQ : TQ nw n d st q wt I) (hn : n ≠ 0) (hWT : WT st (I 79) wt n) :
    ∃ (v : Int32) (I3 : Nat → Nat → Int32), (∀ c, c ≠ 33 → c ≠ 72 → c ≠ 143 → c ≠ 149 + d → I3 c = I c) ∧ (∀ j, j ≠ 9 → I3 33 j = I 33 j) ∧ (∀ j, j ≠ 102 → I3 72 j = I 72 j) ∧ I3 33 9 = I3 72 102 ∧
    (∀ J : Nat → Nat → Int32, f_X6_shortestTrail_33 FU (ad b 33) 0 0 1 (lay b F E (mX J I) L P nx us) = some (v, lay b F E (mX J I3) L P nx us)) ∧
    (∀ J : Nat → Nat → Int32, f_X15_trail_129 FU (ad b 72) wt 0 1000000 1 (lay b F E (mM J I) L P nx us) = b2 (f_X15_done (ad b 72) v (lay b F E (mM J I3) L P nx us)) fun x2 h3 => some (x2, h3)) := by
  have hn9 := hQ.2.2.1.1
  have hp := pw_n n (by omega)
  have hpos : 0 < 2 ^ n := Nat.two_pow_pos n
  obtain ⟨be2, bw2, le2, I2, z1, z2, z3, z4, z5⟩ := sets (b := b) (F := F) (E := E) (L := L) (P := P) (nx := nx) (us := us) h16 hA hdq hP hK hlen hl2 (2 ^ n - 1) 1 (by omega) (by omega) I 0 0 1000000 hQ (fun s' hs' k hk hb => by
    have : s' = 0 := by omega
    subst this
    simp at hb) (fun s' hs' k hk hb => by
    have : s' = 0 := by omega
    subst this
    simp at hb) hpos (Or.inl ⟨rfl, rfl⟩)
  have hbe : be2 ≠ 0 ∧ bw2 = le2 := by
    rcases z3 with ⟨-, -, a3⟩ | a
    · exfalso
      have h2 : 2 ≤ 2 ^ n := by
        have : 2 ^ 1 ≤ 2 ^ n := Nat.pow_le_pow_right (by decide) (by omega)
        omega
      exact a3 (2 ^ n - 1) (by omega) (by omega) (full_want hWT)
    · exact a
  obtain ⟨hbe1, rfl⟩ := hbe
  obtain ⟨q1, q2, q3, q4, q5, q6, q7⟩ := hQ
  have r33 : I2 33 = I 33 := z2 33 (by omega) (by decide)
  have r72 : I2 72 = I 72 := z2 72 (by omega) (by decide)
  have r37 : I2 37 = I 37 := z2 37 (by omega) (by decide)
  have r142 : I2 142 = I 142 := z2 142 (by omega) (by decide)
  refine ⟨bw2, u2 (u2 I2 33 (upd (I 33) 9 (twF st be2 0 n 0))) 72 (upd (I 72) 102 (twF st be2 0 n 0)), ?_, ?_, ?_, ?_, ?_, ?_⟩
  · intro c c1 c2 c3 c4
    rw [u2_ne c2, u2_ne c1, z2 c c4 c3]
  · intro j hj
    simp (decide := true) only [u2_same, u2_ne, u2_u2, upd_same, upd_ne, mE, u2_dyn, dyn_u2, dyn_hi, u2_hi, u2_hj, u2_dynj, u2_dd, u2_d0, u2_0d]
    exact upd_ne hj
  · intro j hj
    simp (decide := true) only [u2_same, u2_ne, u2_u2, upd_same, upd_ne, mE, u2_dyn, dyn_u2, dyn_hi, u2_hi, u2_hj, u2_dynj, u2_dd, u2_d0, u2_0d]
    exact upd_ne hj
  · simp (decide := true) only [u2_same, u2_ne, u2_u2, upd_same, upd_ne, mE, u2_dyn, dyn_u2, dyn_hi, u2_hi, u2_hj, u2_dynj, u2_dd, u2_d0, u2_0d]
  · intro J
    have z4 := z4 J FU (by unfold FU; omega)
    have hx := X_tw (b := b) (F := F) (E := E) (L := L) (P := P) (nx := nx) (us := us) (nw := nw) (n := n) (be := be2) (st := st) (m142 := I 142) (bw := bw2) (by omega) n 0 (by omega) (mX J (u2 I2 33 (upd (I 33) 9 0))) FU (by unfold FU; omega) (by simp (decide := true) only [r37, isO_s, gI_s, gA_s, gL_s, pI_s, pZ_s, pL_s, aI_s, aL_s, aN_s, aQ_s, sI_s, sL_s, cr, LNs, Option.map_some, Option.map_none, Option.bind_some, b2, tr, lt, if_true, if_false, ckZ, X_within, M_in, inR_z, X_refuse, X_tell, X_deny, X_grant, M_refused, M_denied, M_done, M_granted, u2_same, u2_ne, u2_u2, upd_same, upd_ne, aW0, ixR_z, ixR_1, M_isWall, M_isPainter, M_isWork, X_has4, X_has10, X_at, or_false, false_or, or_true, true_or, not_true, not_false_iff, Option.isSome_some, isO_d, gI_d, gA_d, pI_d, ne_eq, not_false_eq_true, u2_hi, u2_hj, u2_dyn, u2_dynj, Nat.reduceAdd, mX_r, mX_rD, mX_rDj, mM_r, mX_u, mX_uM, mX_uD, mX_uDj, mM_u, mM_uX, mM_uD, mM_uDj, u2_dd, u2_d0, u2_0d]; exact q3) (by simp (decide := true) only [isO_s, gI_s, gA_s, gL_s, pI_s, pZ_s, pL_s, aI_s, aL_s, aN_s, aQ_s, sI_s, sL_s, cr, LNs, Option.map_some, Option.map_none, Option.bind_some, b2, tr, lt, if_true, if_false, ckZ, X_within, M_in, inR_z, X_refuse, X_tell, X_deny, X_grant, M_refused, M_denied, M_done, M_granted, u2_same, u2_ne, u2_u2, upd_same, upd_ne, aW0, ixR_z, ixR_1, M_isWall, M_isPainter, M_isWork, X_has4, X_has10, X_at, or_false, false_or, or_true, true_or, not_true, not_false_iff, Option.isSome_some, isO_d, gI_d, gA_d, pI_d, ne_eq, not_false_eq_true, u2_hi, u2_hj, u2_dyn, u2_dynj, Nat.reduceAdd, mX_r, mX_rD, mX_rDj, mM_r, mX_u, mX_uM, mX_uD, mX_uDj, mM_u, mM_uX, mM_uD, mM_uDj, u2_dd, u2_d0, u2_0d]; exact q4)
    simp (decide := true) only [mX_r, mX_u, u2_same, u2_u2, upd_same] at hx
    have eu : ∀ x y : Int32, upd (upd (I 33) 9 x) 9 y = upd (I 33) 9 y := by intro x y; funext j; unfold upd; split <;> rfl
    rw [eu] at hx
    refine z4.trans ?_
    have hI : mX J (u2 (u2 I2 33 (upd (I 33) 9 (twF st be2 0 n 0))) 72 (upd (I 72) 102 (twF st be2 0 n 0))) = u2 (mX J I2) 33 (upd (I 33) 9 (twF st be2 0 n 0)) := by rw [mX_uM (by decide), mX_u (by decide)]
    rw [hI, mX_u (by decide)]
    exact hx
  · intro J
    have z5 := z5 J FU (by unfold FU; omega)
    have hx := M_tw (b := b) (F := F) (E := E) (L := L) (P := P) (nx := nx) (us := us) (nw := nw) (n := n) (be := be2) (st := st) (x37 := I 37) (le := bw2) h16 (by omega) n 0 (by omega) (mM J (u2 I2 72 (upd (I 72) 102 0))) FU (by unfold FU; omega) (by simp (decide := true) only [r142, isO_s, gI_s, gA_s, gL_s, pI_s, pZ_s, pL_s, aI_s, aL_s, aN_s, aQ_s, sI_s, sL_s, cr, LNs, Option.map_some, Option.map_none, Option.bind_some, b2, tr, lt, if_true, if_false, ckZ, X_within, M_in, inR_z, X_refuse, X_tell, X_deny, X_grant, M_refused, M_denied, M_done, M_granted, u2_same, u2_ne, u2_u2, upd_same, upd_ne, aW0, ixR_z, ixR_1, M_isWall, M_isPainter, M_isWork, X_has4, X_has10, X_at, or_false, false_or, or_true, true_or, not_true, not_false_iff, Option.isSome_some, isO_d, gI_d, gA_d, pI_d, ne_eq, not_false_eq_true, u2_hi, u2_hj, u2_dyn, u2_dynj, Nat.reduceAdd, mX_r, mX_rD, mX_rDj, mM_r, mX_u, mX_uM, mX_uD, mX_uDj, mM_u, mM_uX, mM_uD, mM_uDj, u2_dd, u2_d0, u2_0d]; exact q3) (by simp (decide := true) only [isO_s, gI_s, gA_s, gL_s, pI_s, pZ_s, pL_s, aI_s, aL_s, aN_s, aQ_s, sI_s, sL_s, cr, LNs, Option.map_some, Option.map_none, Option.bind_some, b2, tr, lt, if_true, if_false, ckZ, X_within, M_in, inR_z, X_refuse, X_tell, X_deny, X_grant, M_refused, M_denied, M_done, M_granted, u2_same, u2_ne, u2_u2, upd_same, upd_ne, aW0, ixR_z, ixR_1, M_isWall, M_isPainter, M_isWork, X_has4, X_has10, X_at, or_false, false_or, or_true, true_or, not_true, not_false_iff, Option.isSome_some, isO_d, gI_d, gA_d, pI_d, ne_eq, not_false_eq_true, u2_hi, u2_hj, u2_dyn, u2_dynj, Nat.reduceAdd, mX_r, mX_rD, mX_rDj, mM_r, mX_u, mX_uM, mX_uD, mX_uDj, mM_u, mM_uX, mM_uD, mM_uDj, u2_dd, u2_d0, u2_0d]; exact q5)
    simp (decide := true) only [mM_r, mM_u, u2_same, u2_u2, upd_same] at hx
    have eu : ∀ x y : Int32, upd (upd (I 72) 102 x) 102 y = upd (I 72) 102 y := by intro x y; funext j; unfold upd; split <;> rfl
    rw [eu] at hx
    refine z5.trans ?_
    have hI : mM J (u2 (u2 I2 33 (upd (I 33) 9 (twF st be2 0 n 0))) 72 (upd (I 72) 102 (twF st be2 0 n 0))) = u2 (mM J I2) 72 (upd (I 72) 102 (twF st be2 0 n 0)) := by rw [mM_u (by decide), mM_uX (by decide)]
    rw [hI, mM_u (by decide)]
    exact hx
theorem pQ_s {c ci k y : Nat} (h : KT c = some (.inr (ci, true))) (hk : fk ci k = 2) (hj : cr ci c k = none) : pQ ci (lay b F E I L P nx us) (ad b c) k (some (ad b y)) = some (lay b F E I L (u2 P c (va_up (P c) k (some y))) nx us) := pQ_lay (x := some y) (kdf_KT h) hk (fun _ => hj)
end TRL5
