/-! ===== painter, wish, tag, clean, minutes ===== -/
/-- a call that may be refused: refused, or done with the post Q -/
def RunS (b : Nat) (F : Nat → Option AE) (E : Nat → Option KD) (L : Nat → Nat → Int64) (P : Nat → Nat → Option Nat) (nx us : Nat) (fX fM : AH → Option (Int32 × AH)) (I : Nat → Nat → Int32) (Q : (Nat → Nat → Int32) → Prop) : Prop :=
  (∃ x : Int32, x ≠ 4 ∧ Run b F E L P nx us fX fM I (rf I x)) ∨ ∃ I2, Run b F E L P nx us fX fM I I2 ∧ GTI I2 ∧ Q I2
theorem lo_of {x : Int32} {n : Nat} (h : ¬ (x < 0 ∨ Int32.ofNat n < x)) (hn : n < 2147483648) : ∃ k, k ≤ n ∧ x = Int32.ofNat k := by
  have h1 : ¬ x < 0 := fun q => h (Or.inl q)
  obtain ⟨k, hk, rfl⟩ := nn_oN h1
  refine ⟨k, ?_, rfl⟩
  have h2 : ¬ Int32.ofNat n < Int32.ofNat k := fun q => h (Or.inr q)
  rw [oN_lt hn hk] at h2
  omega
theorem lo_1 {x : Int32} {n : Nat} (h : ¬ (x < 1 ∨ Int32.ofNat n < x)) (hn : n < 2147483648) : ∃ k, 1 ≤ k ∧ k ≤ n ∧ x = Int32.ofNat k := by
  have h1 : ¬ x < 0 := fun q => h (Or.inl (Int32.lt_trans q (by decide)))
  obtain ⟨k, hk, rfl⟩ := nn_oN h1
  have h2 : ¬ Int32.ofNat n < Int32.ofNat k := fun q => h (Or.inr q)
  have h3 : ¬ Int32.ofNat k < Int32.ofNat 1 := fun q => h (Or.inl q)
  rw [oN_lt hn hk] at h2
  rw [oN_lt hk (by decide)] at h3
  exact ⟨k, by omega, by omega, rfl⟩
theorem nI_rng {a c : Int32} {x : Int32} (h : ¬ (x < a ∨ c < x)) : a ≤ x ∧ x ≤ c := ⟨Int32.not_lt.mp fun q => h (Or.inl q), Int32.not_lt.mp fun q => h (Or.inr q)⟩
section S1
variable {b : Nat} {F : Nat → Option AE} {D E : Nat → Option KD} {I : Nat → Nat → Int32} {L : Nat → Nat → Int64} {P : Nat → Nat → Option Nat} {nx us : Nat}
theorem call_painter (x y : Int32) {np : Nat} (hT : GTI I) (hn : Cn np 10 (I 5 0) (I 72 58)) (hG : GPai np (I 6) (I 7) (I 111) (I 112)) : RunS b F E L P nx us (f_X11_painter (ad b 0) x y) (f_X15_painter (ad b 72) x y) I (fun I2 => Cn (np + 1) 10 (I2 5 0) (I2 72 58) ∧ GPai (np + 1) (I2 6) (I2 7) (I2 111) (I2 112) ∧ Fr I I2 [(0, 16), (5, 0), (72, 0), (72, 1), (72, 2), (72, 58)] [6, 7, 111, 112]) := by
  obtain ⟨hn1, hn2, hn3⟩ := hn
  by_cases hx : (x < 0 ∨ 5 < x)
  · exact Or.inl ⟨2, by decide, -1, u2 I 0 (upd (I 0) 16 2), by (simp (decide := true) only [f_X11_painter_19, f_X11_painter, hx, isO_s, gI_s, gA_s, gL_s, pI_s, pZ_s, pL_s, aI_s, aL_s, aN_s, aQ_s, sI_s, sL_s, cr, LNs, Option.map_some, Option.map_none, Option.bind_some, b2, tr, lt, if_true, if_false, ckZ, X_within, M_in, inR_z, X_refuse, X_tell, X_deny, X_grant, M_refused, M_denied, M_done, M_granted, u2_same, u2_ne, u2_u2, upd_same, upd_ne, aW0, ixR_z, ixR_1, M_isWall, M_isPainter, M_isWork, X_has4, X_has10, X_at, or_false, false_or, or_true, true_or, not_true, not_false_iff, Option.isSome_some, isO_d, gI_d, gA_d, pI_d, ne_eq, not_false_eq_true]; try exact rfl), by (simp (decide := true) only [f_X15_painter_24, f_X15_painter, hx, isO_s, gI_s, gA_s, gL_s, pI_s, pZ_s, pL_s, aI_s, aL_s, aN_s, aQ_s, sI_s, sL_s, cr, LNs, Option.map_some, Option.map_none, Option.bind_some, b2, tr, lt, if_true, if_false, ckZ, X_within, M_in, inR_z, X_refuse, X_tell, X_deny, X_grant, M_refused, M_denied, M_done, M_granted, u2_same, u2_ne, u2_u2, upd_same, upd_ne, aW0, ixR_z, ixR_1, M_isWall, M_isPainter, M_isWork, X_has4, X_has10, X_at, or_false, false_or, or_true, true_or, not_true, not_false_iff, Option.isSome_some, isO_d, gI_d, gA_d, pI_d, ne_eq, not_false_eq_true]; try exact rfl)⟩
  by_cases hy : (y < 0 ∨ 99 < y)
  · exact Or.inl ⟨2, by decide, -1, u2 I 0 (upd (I 0) 16 2), by (simp (decide := true) only [f_X11_painter_19, f_X11_painter, hx, hy, isO_s, gI_s, gA_s, gL_s, pI_s, pZ_s, pL_s, aI_s, aL_s, aN_s, aQ_s, sI_s, sL_s, cr, LNs, Option.map_some, Option.map_none, Option.bind_some, b2, tr, lt, if_true, if_false, ckZ, X_within, M_in, inR_z, X_refuse, X_tell, X_deny, X_grant, M_refused, M_denied, M_done, M_granted, u2_same, u2_ne, u2_u2, upd_same, upd_ne, aW0, ixR_z, ixR_1, M_isWall, M_isPainter, M_isWork, X_has4, X_has10, X_at, or_false, false_or, or_true, true_or, not_true, not_false_iff, Option.isSome_some, isO_d, gI_d, gA_d, pI_d, ne_eq, not_false_eq_true]; try exact rfl), by (simp (decide := true) only [f_X15_painter_24, f_X15_painter, hx, hy, isO_s, gI_s, gA_s, gL_s, pI_s, pZ_s, pL_s, aI_s, aL_s, aN_s, aQ_s, sI_s, sL_s, cr, LNs, Option.map_some, Option.map_none, Option.bind_some, b2, tr, lt, if_true, if_false, ckZ, X_within, M_in, inR_z, X_refuse, X_tell, X_deny, X_grant, M_refused, M_denied, M_done, M_granted, u2_same, u2_ne, u2_u2, upd_same, upd_ne, aW0, ixR_z, ixR_1, M_isWall, M_isPainter, M_isWork, X_has4, X_has10, X_at, or_false, false_or, or_true, true_or, not_true, not_false_iff, Option.isSome_some, isO_d, gI_d, gA_d, pI_d, ne_eq, not_false_eq_true]; try exact rfl)⟩
  by_cases hz : np = 10
  · subst hz
    exact Or.inl ⟨3, by decide, -1, u2 I 0 (upd (I 0) 16 3), by (simp (decide := true) only [f_X11_painter_19, f_X11_painter, hx, hy, hn2, isO_s, gI_s, gA_s, gL_s, pI_s, pZ_s, pL_s, aI_s, aL_s, aN_s, aQ_s, sI_s, sL_s, cr, LNs, Option.map_some, Option.map_none, Option.bind_some, b2, tr, lt, if_true, if_false, ckZ, X_within, M_in, inR_z, X_refuse, X_tell, X_deny, X_grant, M_refused, M_denied, M_done, M_granted, u2_same, u2_ne, u2_u2, upd_same, upd_ne, aW0, ixR_z, ixR_1, M_isWall, M_isPainter, M_isWork, X_has4, X_has10, X_at, or_false, false_or, or_true, true_or, not_true, not_false_iff, Option.isSome_some, isO_d, gI_d, gA_d, pI_d, ne_eq, not_false_eq_true]; try exact rfl), by (simp (decide := true) only [f_X15_painter_24, f_X15_painter, hx, hy, hn3, isO_s, gI_s, gA_s, gL_s, pI_s, pZ_s, pL_s, aI_s, aL_s, aN_s, aQ_s, sI_s, sL_s, cr, LNs, Option.map_some, Option.map_none, Option.bind_some, b2, tr, lt, if_true, if_false, ckZ, X_within, M_in, inR_z, X_refuse, X_tell, X_deny, X_grant, M_refused, M_denied, M_done, M_granted, u2_same, u2_ne, u2_u2, upd_same, upd_ne, aW0, ixR_z, ixR_1, M_isWall, M_isPainter, M_isWork, X_has4, X_has10, X_at, or_false, false_or, or_true, true_or, not_true, not_false_iff, Option.isSome_some, isO_d, gI_d, gA_d, pI_d, ne_eq, not_false_eq_true]; try exact rfl)⟩
  have h1 : np < 10 := by omega
  have e1 : (Int32.ofNat np < 10) = True := oN_ltT (c := 10) h1 (by omega)
  have e2 : ¬ Int32.ofNat np = 10 := fun q => hz ((oN_eq (by omega) (by omega : 10 < 2147483648)).mp q)
  have e3 := iN_oN h1 (by omega)
  refine Or.inr ?_
  apply Exists.intro
  refine ⟨?_, ?_, ?_, ?_, ?_⟩
  · apply Exists.intro; apply Exists.intro
    refine ⟨?_, ?_⟩
    · simp (decide := true) only [f_X11_painter_19, f_X11_painter, f_X4_add, hx, hy, hn2, e1, e3, oN_succ, oN_pred, isO_s, gI_s, gA_s, gL_s, pI_s, pZ_s, pL_s, aI_s, aL_s, aN_s, aQ_s, sI_s, sL_s, cr, LNs, Option.map_some, Option.map_none, Option.bind_some, b2, tr, lt, if_true, if_false, ckZ, X_within, M_in, inR_z, X_refuse, X_tell, X_deny, X_grant, M_refused, M_denied, M_done, M_granted, u2_same, u2_ne, u2_u2, upd_same, upd_ne, aW0, ixR_z, ixR_1, M_isWall, M_isPainter, M_isWork, X_has4, X_has10, X_at, or_false, false_or, or_true, true_or, not_true, not_false_iff, Option.isSome_some, isO_d, gI_d, gA_d, pI_d, ne_eq, not_false_eq_true]
      exact rfl
    · simp (decide := true) only [f_X15_painter_24, f_X15_painter, hx, hy, hn3, e2, e3, oN_succ, oN_pred, isO_s, gI_s, gA_s, gL_s, pI_s, pZ_s, pL_s, aI_s, aL_s, aN_s, aQ_s, sI_s, sL_s, cr, LNs, Option.map_some, Option.map_none, Option.bind_some, b2, tr, lt, if_true, if_false, ckZ, X_within, M_in, inR_z, X_refuse, X_tell, X_deny, X_grant, M_refused, M_denied, M_done, M_granted, u2_same, u2_ne, u2_u2, upd_same, upd_ne, aW0, ixR_z, ixR_1, M_isWall, M_isPainter, M_isWork, X_has4, X_has10, X_at, or_false, false_or, or_true, true_or, not_true, not_false_iff, Option.isSome_some, isO_d, gI_d, gA_d, pI_d, ne_eq, not_false_eq_true]
      exact rfl
  · simp (decide := true) only [GTI, u2_same, u2_ne, u2_u2, upd_same, upd_ne, mE, u2_dyn, dyn_u2]
    exact GT_end hT (by decide)
  · simp (decide := true) only [u2_same, u2_ne, u2_u2, upd_same, upd_ne, mE, u2_dyn, dyn_u2]
    exact ⟨h1, rfl, rfl⟩
  · simp (decide := true) only [u2_same, u2_ne, u2_u2, upd_same, upd_ne, mE, u2_dyn, dyn_u2]
    intro k hk
    by_cases hkn : k = np
    · subst hkn
      simp only [upd_same]
      exact ⟨trivial, trivial, (nI_rng hx).1, (nI_rng hx).2, (nI_rng hy).1, (nI_rng hy).2⟩
    · simp only [upd_ne hkn]
      exact hG k (by omega)
  · exact (by intro c k h1 h2; simp at h1 h2; simp only [mE, u2, upd]; (repeat' split) <;> first | rfl | (subst_vars; simp_all [upd]))
theorem X_isPair {p w : Int32} (h10 : I 5 0 ≤ 10) : f_X4_isPair (ad b 5) p w (lay b F E I L P nx us) = some (if ixR p (I 5 0) = 0 then 0 else ixR w 16, (lay b F E I L P nx us)) := by
  unfold ixR
  simp (decide := true) only [f_X4_isPair_23, f_X4_isPair_22, f_X4_isPair, X_has4 h10, isO_s, gI_s, gA_s, gL_s, pI_s, pZ_s, pL_s, aI_s, aL_s, aN_s, aQ_s, sI_s, sL_s, cr, LNs, Option.map_some, Option.map_none, Option.bind_some, b2, tr, lt, if_true, if_false, ckZ, X_within, M_in, inR_z, X_refuse, X_tell, X_deny, X_grant, M_refused, M_denied, M_done, M_granted, u2_same, u2_ne, u2_u2, upd_same, upd_ne, aW0, ixR_z, ixR_1, M_isWall, M_isPainter, M_isWork, X_has4, X_has10, X_at, or_false, false_or, or_true, true_or, not_true, not_false_iff, Option.isSome_some, isO_d, gI_d, gA_d, pI_d, ne_eq, not_false_eq_true]
  by_cases h1 : p < 0
  · simp only [h1, true_or, if_true]
  · by_cases h2 : I 5 0 ≤ p
    · simp only [h1, h2, or_true, if_true, if_false]
    · by_cases h3 : w < 0
      · simp (decide := true) only [h1, h2, h3, or_self, if_true, if_false]
      · by_cases h4 : 16 ≤ w
        · simp (decide := true) only [h1, h2, h3, h4, or_self, if_true, if_false]
        · simp (decide := true) only [h1, h2, h3, h4, or_self, if_true, if_false]
theorem call_wish (p w v : Int32) {np nw : Nat} {q wd hg ow : Nat → Nat} (hT : GTI I) (hn : Cn np 10 (I 5 0) (I 72 58)) (hnw : Cn nw 16 (I 1 1) (I 72 4)) (hA : WA nw q wd hg ow E (P 2)) (hG : GWis (I 9) (I 113)) : RunS b F E L P nx us (f_X11_wish (ad b 0) p w v) (f_X15_wish (ad b 72) p w v) I (fun I2 => GWis (I2 9) (I2 113) ∧ Fr I I2 [(0, 16), (72, 0), (72, 1), (72, 2)] [9, 113]) := by
  obtain ⟨hn1, hn2, hn3⟩ := hn
  have h10 : Int32.ofNat np ≤ 10 := oN_leL hn1 (by decide)
  rcases ixc p (n := np) (by omega) with hp | ⟨k, hk, rfl⟩
  · exact Or.inl ⟨1, by decide, 0, u2 I 0 (upd (I 0) 16 1), by (simp (decide := true) only [f_X11_wish_22, f_X11_wish, h10, hn2, hp, isO_s, gI_s, gA_s, gL_s, pI_s, pZ_s, pL_s, aI_s, aL_s, aN_s, aQ_s, sI_s, sL_s, cr, LNs, Option.map_some, Option.map_none, Option.bind_some, b2, tr, lt, if_true, if_false, ckZ, X_within, M_in, inR_z, X_refuse, X_tell, X_deny, X_grant, M_refused, M_denied, M_done, M_granted, u2_same, u2_ne, u2_u2, upd_same, upd_ne, aW0, ixR_z, ixR_1, M_isWall, M_isPainter, M_isWork, X_has4, X_has10, X_at, or_false, false_or, or_true, true_or, not_true, not_false_iff, Option.isSome_some, isO_d, gI_d, gA_d, pI_d, ne_eq, not_false_eq_true]; try exact rfl), by (simp (decide := true) only [f_X15_wish_21, f_X15_wish, hn3, hp, isO_s, gI_s, gA_s, gL_s, pI_s, pZ_s, pL_s, aI_s, aL_s, aN_s, aQ_s, sI_s, sL_s, cr, LNs, Option.map_some, Option.map_none, Option.bind_some, b2, tr, lt, if_true, if_false, ckZ, X_within, M_in, inR_z, X_refuse, X_tell, X_deny, X_grant, M_refused, M_denied, M_done, M_granted, u2_same, u2_ne, u2_u2, upd_same, upd_ne, aW0, ixR_z, ixR_1, M_isWall, M_isPainter, M_isWork, X_has4, X_has10, X_at, or_false, false_or, or_true, true_or, not_true, not_false_iff, Option.isSome_some, isO_d, gI_d, gA_d, pI_d, ne_eq, not_false_eq_true]; try exact rfl)⟩
  have e1 := oN_neg (w := k) (by omega)
  have e2 := oN_leF hk (by omega)
  rcases wallCase hnw hA w with ⟨h1, h2⟩ | ⟨w, hw, rfl, h1, h2⟩
  · have h2' : (w < 0 ∨ I 72 4 ≤ w) := by rw [← ixR_z]; exact h2
    exact Or.inl ⟨1, by decide, 0, u2 I 0 (upd (I 0) 16 1), by (simp (decide := true) only [f_X11_wish_22, f_X11_wish, h10, hn2, e1, e2, h1, isO_s, gI_s, gA_s, gL_s, pI_s, pZ_s, pL_s, aI_s, aL_s, aN_s, aQ_s, sI_s, sL_s, cr, LNs, Option.map_some, Option.map_none, Option.bind_some, b2, tr, lt, if_true, if_false, ckZ, X_within, M_in, inR_z, X_refuse, X_tell, X_deny, X_grant, M_refused, M_denied, M_done, M_granted, u2_same, u2_ne, u2_u2, upd_same, upd_ne, aW0, ixR_z, ixR_1, M_isWall, M_isPainter, M_isWork, X_has4, X_has10, X_at, or_false, false_or, or_true, true_or, not_true, not_false_iff, Option.isSome_some, isO_d, gI_d, gA_d, pI_d, ne_eq, not_false_eq_true]; try exact rfl), by (simp (decide := true) only [f_X15_wish_21, f_X15_wish, hn3, e1, e2, h2', isO_s, gI_s, gA_s, gL_s, pI_s, pZ_s, pL_s, aI_s, aL_s, aN_s, aQ_s, sI_s, sL_s, cr, LNs, Option.map_some, Option.map_none, Option.bind_some, b2, tr, lt, if_true, if_false, ckZ, X_within, M_in, inR_z, X_refuse, X_tell, X_deny, X_grant, M_refused, M_denied, M_done, M_granted, u2_same, u2_ne, u2_u2, upd_same, upd_ne, aW0, ixR_z, ixR_1, M_isWall, M_isPainter, M_isWork, X_has4, X_has10, X_at, or_false, false_or, or_true, true_or, not_true, not_false_iff, Option.isSome_some, isO_d, gI_d, gA_d, pI_d, ne_eq, not_false_eq_true]; try exact rfl)⟩
  by_cases hv : (v < 0 ∨ 9 < v)
  · have h2' : ¬ (Int32.ofNat w < 0 ∨ I 72 4 ≤ Int32.ofNat w) := by rw [← ixR_z, h2]; decide
    exact Or.inl ⟨2, by decide, 0, u2 I 0 (upd (I 0) 16 2), by (simp (decide := true) only [f_X11_wish_22, f_X11_wish, h10, hn2, e1, e2, h1, hv, isO_s, gI_s, gA_s, gL_s, pI_s, pZ_s, pL_s, aI_s, aL_s, aN_s, aQ_s, sI_s, sL_s, cr, LNs, Option.map_some, Option.map_none, Option.bind_some, b2, tr, lt, if_true, if_false, ckZ, X_within, M_in, inR_z, X_refuse, X_tell, X_deny, X_grant, M_refused, M_denied, M_done, M_granted, u2_same, u2_ne, u2_u2, upd_same, upd_ne, aW0, ixR_z, ixR_1, M_isWall, M_isPainter, M_isWork, X_has4, X_has10, X_at, or_false, false_or, or_true, true_or, not_true, not_false_iff, Option.isSome_some, isO_d, gI_d, gA_d, pI_d, ne_eq, not_false_eq_true]; try exact rfl), by (simp (decide := true) only [f_X15_wish_21, f_X15_wish, hn3, e1, e2, h2', hv, isO_s, gI_s, gA_s, gL_s, pI_s, pZ_s, pL_s, aI_s, aL_s, aN_s, aQ_s, sI_s, sL_s, cr, LNs, Option.map_some, Option.map_none, Option.bind_some, b2, tr, lt, if_true, if_false, ckZ, X_within, M_in, inR_z, X_refuse, X_tell, X_deny, X_grant, M_refused, M_denied, M_done, M_granted, u2_same, u2_ne, u2_u2, upd_same, upd_ne, aW0, ixR_z, ixR_1, M_isWall, M_isPainter, M_isWork, X_has4, X_has10, X_at, or_false, false_or, or_true, true_or, not_true, not_false_iff, Option.isSome_some, isO_d, gI_d, gA_d, pI_d, ne_eq, not_false_eq_true]; try exact rfl)⟩
  have h2' : ¬ (Int32.ofNat w < 0 ∨ I 72 4 ≤ Int32.ofNat w) := by rw [← ixR_z, h2]; decide
  have hw16 : w < 16 := by have := hnw.1; omega
  have e4 : ixR (Int32.ofNat w) 16 = 1 := by rw [ixR_1, oN_neg (by omega), show ((16 : Int32) ≤ Int32.ofNat w) = False from oN_leF (c := 16) hw16 (by omega)]; exact ⟨fun q => q, fun q => q⟩
  have e4' : ¬ (Int32.ofNat w < 0 ∨ 16 ≤ Int32.ofNat w) := by rw [← ixR_z, e4]; decide
  have e5 : Int32.ofNat k * 16 + Int32.ofNat w = Int32.ofNat (k * 16 + w) := by rw [show (16 : Int32) = Int32.ofNat 16 from rfl, oN_mul, oN_add]
  have e6 : 16 * Int32.ofNat k + Int32.ofNat w = Int32.ofNat (k * 16 + w) := by rw [show (16 : Int32) = Int32.ofNat 16 from rfl, oN_mul, oN_add, Nat.mul_comm]
  have e7 : iN (Int32.ofNat (k * 16 + w)) 160 = some (k * 16 + w) := iN_oN (by omega) (by omega)
  refine Or.inr ?_
  apply Exists.intro
  refine ⟨?_, ?_, ?_, ?_⟩
  · apply Exists.intro; apply Exists.intro
    refine ⟨?_, ?_⟩
    · simp (decide := true) only [f_X11_wish_22, f_X11_wish, f_X4_setWish_20, f_X4_setWish, X_isPair, f_X4_pairOf, h10, hn2, e1, e2, e4', h1, hv, e5, e7, isO_s, gI_s, gA_s, gL_s, pI_s, pZ_s, pL_s, aI_s, aL_s, aN_s, aQ_s, sI_s, sL_s, cr, LNs, Option.map_some, Option.map_none, Option.bind_some, b2, tr, lt, if_true, if_false, ckZ, X_within, M_in, inR_z, X_refuse, X_tell, X_deny, X_grant, M_refused, M_denied, M_done, M_granted, u2_same, u2_ne, u2_u2, upd_same, upd_ne, aW0, ixR_z, ixR_1, M_isWall, M_isPainter, M_isWork, X_has4, X_has10, X_at, or_false, false_or, or_true, true_or, not_true, not_false_iff, Option.isSome_some, isO_d, gI_d, gA_d, pI_d, ne_eq, not_false_eq_true]
      exact rfl
    · simp (decide := true) only [f_X15_wish_21, f_X15_wish, hn3, e1, e2, h2', hv, e6, e7, isO_s, gI_s, gA_s, gL_s, pI_s, pZ_s, pL_s, aI_s, aL_s, aN_s, aQ_s, sI_s, sL_s, cr, LNs, Option.map_some, Option.map_none, Option.bind_some, b2, tr, lt, if_true, if_false, ckZ, X_within, M_in, inR_z, X_refuse, X_tell, X_deny, X_grant, M_refused, M_denied, M_done, M_granted, u2_same, u2_ne, u2_u2, upd_same, upd_ne, aW0, ixR_z, ixR_1, M_isWall, M_isPainter, M_isWork, X_has4, X_has10, X_at, or_false, false_or, or_true, true_or, not_true, not_false_iff, Option.isSome_some, isO_d, gI_d, gA_d, pI_d, ne_eq, not_false_eq_true]
      exact rfl
  · simp (decide := true) only [GTI, u2_same, u2_ne, u2_u2, upd_same, upd_ne, mE, u2_dyn, dyn_u2]
    exact GT_end hT (by decide)
  · simp (decide := true) only [u2_same, u2_ne, u2_u2, upd_same, upd_ne, mE, u2_dyn, dyn_u2]
    intro j hj
    by_cases hkn : j = k * 16 + w
    · subst hkn
      simp only [upd_same]
      exact ⟨trivial, (nI_rng hv).1, (nI_rng hv).2⟩
    · simp only [upd_ne hkn]
      exact hG j hj
  · exact (by intro c k h1 h2; simp at h1 h2; simp only [mE, u2, upd]; (repeat' split) <;> first | rfl | (subst_vars; simp_all [upd]))
end S1
