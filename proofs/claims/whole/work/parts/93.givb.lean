/-! ===== give: all worths ===== -/
def woA (W : Nat → Nat → Int32) (np : Nat) : Nat → Nat → RW → RW
  | 0, _, r => r
  | m + 1, i, r => woA W np m (i + 1) (woR W i 0 np r)
theorem woA_lo {W : Nat → Nat → Int32} {np : Nat} : ∀ (m i : Nat) (r : RW) (x : Nat), x < 10 * i → woA W np m i r x = r x := by
  intro m
  induction m with
  | zero => intro i r x h; rfl
  | succ m ih =>
    intro i r x h
    show woA W np m (i + 1) (woR W i 0 np r) x = r x
    rw [ih (i + 1) _ x (by omega)]
    unfold woR
    rw [if_neg (by omega)]
theorem woA_at {W : Nat → Nat → Int32} {np : Nat} (hp : np ≤ 10) : ∀ (m i : Nat) (r : RW) (a p : Nat), i ≤ a → a < i + m → p < np → woA W np m i r (10 * a + p) = W a p := by
  intro m
  induction m with
  | zero => intro i r a p h1 h2; omega
  | succ m ih =>
    intro i r a p h1 h2 h3
    show woA W np m (i + 1) (woR W i 0 np r) (10 * a + p) = W a p
    by_cases h : a = i
    · subst h
      rw [woA_lo _ _ _ _ (by omega)]
      unfold woR
      rw [if_pos (by omega)]
      congr 1
      omega
    · exact ih (i + 1) _ a p (by omega) (by omega) h3
section GIVB
variable {b : Nat} {F : Nat → Option AE} {D E : Nat → Option KD} {I : Nat → Nat → Int32} {L : Nat → Nat → Int64} {P : Nat → Nat → Option Nat} {nx us : Nat}
theorem X_wo2 {s nw nk np n : Nat} {lk : Nat → Nat → Int32} {q wd hg ow ak : Nat → Nat} {m82 m85 m111 m124 : RW} {W : Nat → Nat → Int32} (hs : s < 65536) (hn : I 1 1 = Int32.ofNat nw) (h16 : nw ≤ 16) (hA : WA nw q wd hg ow E (P 2)) (hG : GBes (I 3) m85) (h3 : I 26 3 = Int32.ofNat s) (h5 : I 26 5 = Int32.ofNat n) (hk : I 13 1 = Int32.ofNat nk) (hk4 : nk ≤ 40) (hp : I 5 0 = Int32.ofNat np) (hp1 : np ≤ 10) (h6 : ∀ p, p < np → I 6 p = m111 p) (hL : LWx nw nk np q I m82 m124) (hn6 : n ≤ 6) (hK : AK s nw n ak) (hak : ∀ k, k < n → I 27 k = Int32.ofNat (ak k)) (hlk : ∀ p w, p < np → w < nw → I 9 (16 * p + w) * 10 + I 10 (16 * p + w) = lk p w) (hW : WoS s nw nk np n lk (I 8) m82 m85 m111 m124 ak W) : ∀ (m i : Nat), i + m = n → ∀ (fu : Nat) (r : RW), m < fu → f_X3_reckonWorths_2 fu (ad b 26) (Int32.ofNat i) (lay b F E (u2 I 28 r) L P nx us) = some (lay b F E (u2 I 28 (woA W np m i r)) L P nx us) := by
  intro m
  induction m with
  | zero =>
    intro i hi fu r hf
    obtain ⟨fu, rfl⟩ : ∃ f, fu = f + 1 := ⟨fu - 1, by omega⟩
    have : i = n := by omega
    subst this
    simp (decide := true) only [f_X3_reckonWorths_2, h5, Int32.le_refl, isO_s, gI_s, gA_s, gL_s, pI_s, pZ_s, pL_s, aI_s, aL_s, aN_s, aQ_s, sI_s, sL_s, cr, LNs, Option.map_some, Option.map_none, Option.bind_some, b2, tr, lt, if_true, if_false, ckZ, X_within, M_in, inR_z, X_refuse, X_tell, X_deny, X_grant, M_refused, M_denied, M_done, M_granted, u2_same, u2_ne, u2_u2, upd_same, upd_ne, aW0, ixR_z, ixR_1, M_isWall, M_isPainter, M_isWork, X_has4, X_has10, X_at, or_false, false_or, or_true, true_or, not_true, not_false_iff, Option.isSome_some, isO_d, gI_d, gA_d, pI_d, ne_eq, not_false_eq_true, u2_hi, u2_hj, u2_dyn, u2_dynj, Nat.reduceAdd, mX_r, mX_rD, mX_rDj, mM_r, mX_u, mX_uM, mX_uD, mX_uDj, mM_u, mM_uX, mM_uD, mM_uDj, u2_dd, u2_d0, u2_0d]
    rfl
  | succ m ih =>
    intro i hi fu r hf
    obtain ⟨fu, rfl⟩ : ∃ f, fu = f + 1 := ⟨fu - 1, by omega⟩
    have e2 := oN_leF (show i < n by omega) (by omega)
    have h1 := X_wo1 (b := b) (F := F) (L := L) (nx := nx) (us := us) (I := I) (k2 := f_X3_reckonWorths_2 fu) hs hn h16 hA hG h3 hk hk4 hp hp1 h6 hL hn6 hK hak hlk hW (show i < n by omega) np 0 (by omega) FU r (by unfold FU; omega)
    have ih' := ih (i + 1) (by omega) fu (woR W i 0 np r) (by omega)
    simp (decide := true) only [f_X3_reckonWorths_2, h5, e2, isO_s, gI_s, gA_s, gL_s, pI_s, pZ_s, pL_s, aI_s, aL_s, aN_s, aQ_s, sI_s, sL_s, cr, LNs, Option.map_some, Option.map_none, Option.bind_some, b2, tr, lt, if_true, if_false, ckZ, X_within, M_in, inR_z, X_refuse, X_tell, X_deny, X_grant, M_refused, M_denied, M_done, M_granted, u2_same, u2_ne, u2_u2, upd_same, upd_ne, aW0, ixR_z, ixR_1, M_isWall, M_isPainter, M_isWork, X_has4, X_has10, X_at, or_false, false_or, or_true, true_or, not_true, not_false_iff, Option.isSome_some, isO_d, gI_d, gA_d, pI_d, ne_eq, not_false_eq_true, u2_hi, u2_hj, u2_dyn, u2_dynj, Nat.reduceAdd, mX_r, mX_rD, mX_rDj, mM_r, mX_u, mX_uM, mX_uD, mX_uDj, mM_u, mM_uX, mM_uD, mM_uDj, u2_dd, u2_d0, u2_0d]
    exact h1.trans ih'
end GIVB
