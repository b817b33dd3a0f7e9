/-! ===== minutes, beside, tag, clean ===== -/
theorem oN_ne {a c : Nat} (h : a ≠ c) (ha : a < 2147483648) (hc : c < 2147483648) : (Int32.ofNat a = Int32.ofNat c) = False := eq_false (fun q => h ((oN_eq ha hc).mp q))
theorem ix16 {i j : Nat} : 16 * Int32.ofNat i + Int32.ofNat j = Int32.ofNat (16 * i + j) := by rw [show (16 : Int32) = Int32.ofNat 16 from rfl, oN_mul, oN_add]
theorem ix16' {i j : Nat} : Int32.ofNat i * 16 + Int32.ofNat j = Int32.ofNat (16 * i + j) := by rw [show (16 : Int32) = Int32.ofNat 16 from rfl, oN_mul, oN_add, Nat.mul_comm]
section S2
variable {b : Nat} {F : Nat → Option AE} {D E : Nat → Option KD} {I : Nat → Nat → Int32} {L : Nat → Nat → Int64} {P : Nat → Nat → Option Nat} {nx us : Nat}
/-- the cases of a pair of walls -/
theorem pairCase {nw : Nat} {q wd hg ow : Nat → Nat} (hn : Cn nw 16 (I 1 1) (I 72 4)) (hA : WA nw q wd hg ow E (P 2)) (p r : Int32) : (f_X9_arePair (ad b 1) p r (lay b F E I L P nx us) = some (0, (lay b F E I L P nx us)) ∧ (ixR p (I 72 4) = 0 ∨ (ixR p (I 72 4) = 1 ∧ (ixR r (I 72 4) = 0 ∨ (ixR r (I 72 4) = 1 ∧ p = r))))) ∨ ∃ i j, i < nw ∧ j < nw ∧ i ≠ j ∧ p = Int32.ofNat i ∧ r = Int32.ofNat j ∧ f_X9_arePair (ad b 1) p r (lay b F E I L P nx us) = some (1, (lay b F E I L P nx us)) ∧ ixR p (I 72 4) = 1 ∧ ixR r (I 72 4) = 1 := by
  rcases wallCase hn hA p with ⟨h1, h2⟩ | ⟨i, hi, rfl, h1, h2⟩
  · left
    refine ⟨?_, Or.inl h2⟩
    (simp (decide := true) only [f_X9_arePair_26, f_X9_arePair_25, f_X9_arePair, h1, isO_s, gI_s, gA_s, gL_s, pI_s, pZ_s, pL_s, aI_s, aL_s, aN_s, aQ_s, sI_s, sL_s, cr, LNs, Option.map_some, Option.map_none, Option.bind_some, b2, tr, lt, if_true, if_false, ckZ, X_within, M_in, inR_z, X_refuse, X_tell, X_deny, X_grant, M_refused, M_denied, M_done, M_granted, u2_same, u2_ne, u2_u2, upd_same, upd_ne, aW0, ixR_z, ixR_1, M_isWall, M_isPainter, M_isWork, X_has4, X_has10, X_at, or_false, false_or, or_true, true_or, not_true, not_false_iff, Option.isSome_some, isO_d, gI_d, gA_d, pI_d, ne_eq, not_false_eq_true]; try exact rfl)
  rcases wallCase hn hA r with ⟨h3, h4⟩ | ⟨j, hj, rfl, h3, h4⟩
  · left
    refine ⟨?_, Or.inr ⟨h2, Or.inl h4⟩⟩
    (simp (decide := true) only [f_X9_arePair_26, f_X9_arePair_25, f_X9_arePair, h1, h3, isO_s, gI_s, gA_s, gL_s, pI_s, pZ_s, pL_s, aI_s, aL_s, aN_s, aQ_s, sI_s, sL_s, cr, LNs, Option.map_some, Option.map_none, Option.bind_some, b2, tr, lt, if_true, if_false, ckZ, X_within, M_in, inR_z, X_refuse, X_tell, X_deny, X_grant, M_refused, M_denied, M_done, M_granted, u2_same, u2_ne, u2_u2, upd_same, upd_ne, aW0, ixR_z, ixR_1, M_isWall, M_isPainter, M_isWork, X_has4, X_has10, X_at, or_false, false_or, or_true, true_or, not_true, not_false_iff, Option.isSome_some, isO_d, gI_d, gA_d, pI_d, ne_eq, not_false_eq_true]; try exact rfl)
  have hn1 := hn.1
  by_cases hz : i = j
  · left
    subst hz
    refine ⟨?_, Or.inr ⟨h2, Or.inr ⟨h4, rfl⟩⟩⟩
    (simp (decide := true) only [f_X9_arePair_26, f_X9_arePair_25, f_X9_arePair, h1, h3, isO_s, gI_s, gA_s, gL_s, pI_s, pZ_s, pL_s, aI_s, aL_s, aN_s, aQ_s, sI_s, sL_s, cr, LNs, Option.map_some, Option.map_none, Option.bind_some, b2, tr, lt, if_true, if_false, ckZ, X_within, M_in, inR_z, X_refuse, X_tell, X_deny, X_grant, M_refused, M_denied, M_done, M_granted, u2_same, u2_ne, u2_u2, upd_same, upd_ne, aW0, ixR_z, ixR_1, M_isWall, M_isPainter, M_isWork, X_has4, X_has10, X_at, or_false, false_or, or_true, true_or, not_true, not_false_iff, Option.isSome_some, isO_d, gI_d, gA_d, pI_d, ne_eq, not_false_eq_true]; try exact rfl)
  · right
    refine ⟨i, j, hi, hj, hz, rfl, rfl, ?_, h2, h4⟩
    (simp (decide := true) only [f_X9_arePair_26, f_X9_arePair_25, f_X9_arePair, h1, h3, oN_ne hz (by omega) (by omega), isO_s, gI_s, gA_s, gL_s, pI_s, pZ_s, pL_s, aI_s, aL_s, aN_s, aQ_s, sI_s, sL_s, cr, LNs, Option.map_some, Option.map_none, Option.bind_some, b2, tr, lt, if_true, if_false, ckZ, X_within, M_in, inR_z, X_refuse, X_tell, X_deny, X_grant, M_refused, M_denied, M_done, M_granted, u2_same, u2_ne, u2_u2, upd_same, upd_ne, aW0, ixR_z, ixR_1, M_isWall, M_isPainter, M_isWork, X_has4, X_has10, X_at, or_false, false_or, or_true, true_or, not_true, not_false_iff, Option.isSome_some, isO_d, gI_d, gA_d, pI_d, ne_eq, not_false_eq_true]; try exact rfl)
theorem call_minutes (p r v : Int32) {nw : Nat} {q wd hg ow : Nat → Nat} (hT : GTI I) (hn : Cn nw 16 (I 1 1) (I 72 4)) (hA : WA nw q wd hg ow E (P 2)) (hG : GWay (I 4) (I 89)) : RunS b F E L P nx us (f_X11_minutes (ad b 0) p r v) (f_X15_minutes (ad b 72) p r v) I (fun I2 => GWay (I2 4) (I2 89) ∧ Fr I I2 [(0, 16), (72, 0), (72, 1), (72, 2)] [4, 89]) := by
  rcases pairCase (b := b) (F := F) (L := L) (nx := nx) (us := us) hn hA p r with ⟨h1, h2⟩ | ⟨i, j, hi, hj, hz, rfl, rfl, h1, h2, h3⟩
  · refine Or.inl ⟨1, by decide, 0, u2 I 0 (upd (I 0) 16 1), by (simp (decide := true) only [f_X11_minutes, h1, isO_s, gI_s, gA_s, gL_s, pI_s, pZ_s, pL_s, aI_s, aL_s, aN_s, aQ_s, sI_s, sL_s, cr, LNs, Option.map_some, Option.map_none, Option.bind_some, b2, tr, lt, if_true, if_false, ckZ, X_within, M_in, inR_z, X_refuse, X_tell, X_deny, X_grant, M_refused, M_denied, M_done, M_granted, u2_same, u2_ne, u2_u2, upd_same, upd_ne, aW0, ixR_z, ixR_1, M_isWall, M_isPainter, M_isWork, X_has4, X_has10, X_at, or_false, false_or, or_true, true_or, not_true, not_false_iff, Option.isSome_some, isO_d, gI_d, gA_d, pI_d, ne_eq, not_false_eq_true]; try exact rfl), ?_⟩
    rcases h2 with h2 | ⟨h2, h3 | ⟨h3, rfl⟩⟩
    · (simp (decide := true) only [f_X15_minutes_26, f_X15_minutes, h2, isO_s, gI_s, gA_s, gL_s, pI_s, pZ_s, pL_s, aI_s, aL_s, aN_s, aQ_s, sI_s, sL_s, cr, LNs, Option.map_some, Option.map_none, Option.bind_some, b2, tr, lt, if_true, if_false, ckZ, X_within, M_in, inR_z, X_refuse, X_tell, X_deny, X_grant, M_refused, M_denied, M_done, M_granted, u2_same, u2_ne, u2_u2, upd_same, upd_ne, aW0, M_isWall, M_isPainter, M_isWork, X_has4, X_has10, X_at, or_false, false_or, or_true, true_or, not_true, not_false_iff, Option.isSome_some, isO_d, gI_d, gA_d, pI_d, ne_eq, not_false_eq_true]; try exact rfl)
    · (simp (decide := true) only [f_X15_minutes_26, f_X15_minutes, h2, h3, isO_s, gI_s, gA_s, gL_s, pI_s, pZ_s, pL_s, aI_s, aL_s, aN_s, aQ_s, sI_s, sL_s, cr, LNs, Option.map_some, Option.map_none, Option.bind_some, b2, tr, lt, if_true, if_false, ckZ, X_within, M_in, inR_z, X_refuse, X_tell, X_deny, X_grant, M_refused, M_denied, M_done, M_granted, u2_same, u2_ne, u2_u2, upd_same, upd_ne, aW0, M_isWall, M_isPainter, M_isWork, X_has4, X_has10, X_at, or_false, false_or, or_true, true_or, not_true, not_false_iff, Option.isSome_some, isO_d, gI_d, gA_d, pI_d, ne_eq, not_false_eq_true]; try exact rfl)
    · (simp (decide := true) only [f_X15_minutes_26, f_X15_minutes, h2, isO_s, gI_s, gA_s, gL_s, pI_s, pZ_s, pL_s, aI_s, aL_s, aN_s, aQ_s, sI_s, sL_s, cr, LNs, Option.map_some, Option.map_none, Option.bind_some, b2, tr, lt, if_true, if_false, ckZ, X_within, M_in, inR_z, X_refuse, X_tell, X_deny, X_grant, M_refused, M_denied, M_done, M_granted, u2_same, u2_ne, u2_u2, upd_same, upd_ne, aW0, M_isWall, M_isPainter, M_isWork, X_has4, X_has10, X_at, or_false, false_or, or_true, true_or, not_true, not_false_iff, Option.isSome_some, isO_d, gI_d, gA_d, pI_d, ne_eq, not_false_eq_true]; try exact rfl)
  have hn1 := hn.1
  have e1 := oN_ne hz (by omega) (by omega)
  by_cases hv : (v < 1 ∨ 120 < v)
  · exact Or.inl ⟨2, by decide, 0, u2 I 0 (upd (I 0) 16 2), by (simp (decide := true) only [f_X11_minutes, h1, hv, isO_s, gI_s, gA_s, gL_s, pI_s, pZ_s, pL_s, aI_s, aL_s, aN_s, aQ_s, sI_s, sL_s, cr, LNs, Option.map_some, Option.map_none, Option.bind_some, b2, tr, lt, if_true, if_false, ckZ, X_within, M_in, inR_z, X_refuse, X_tell, X_deny, X_grant, M_refused, M_denied, M_done, M_granted, u2_same, u2_ne, u2_u2, upd_same, upd_ne, aW0, ixR_z, ixR_1, M_isWall, M_isPainter, M_isWork, X_has4, X_has10, X_at, or_false, false_or, or_true, true_or, not_true, not_false_iff, Option.isSome_some, isO_d, gI_d, gA_d, pI_d, ne_eq, not_false_eq_true]; try exact rfl), by (simp (decide := true) only [f_X15_minutes_26, f_X15_minutes, h2, h3, e1, hv, isO_s, gI_s, gA_s, gL_s, pI_s, pZ_s, pL_s, aI_s, aL_s, aN_s, aQ_s, sI_s, sL_s, cr, LNs, Option.map_some, Option.map_none, Option.bind_some, b2, tr, lt, if_true, if_false, ckZ, X_within, M_in, inR_z, X_refuse, X_tell, X_deny, X_grant, M_refused, M_denied, M_done, M_granted, u2_same, u2_ne, u2_u2, upd_same, upd_ne, aW0, M_isWall, M_isPainter, M_isWork, X_has4, X_has10, X_at, or_false, false_or, or_true, true_or, not_true, not_false_iff, Option.isSome_some, isO_d, gI_d, gA_d, pI_d, ne_eq, not_false_eq_true]; try exact rfl)⟩
  have e2 : iN (Int32.ofNat (16 * i + j)) 256 = some (16 * i + j) := iN_oN (by omega) (by omega)
  have e3 : iN (Int32.ofNat (16 * j + i)) 256 = some (16 * j + i) := iN_oN (by omega) (by omega)
  refine Or.inr ?_
  apply Exists.intro
  refine ⟨?_, ?_, ?_, ?_⟩
  · apply Exists.intro; apply Exists.intro
    refine ⟨?_, ?_⟩
    · simp (decide := true) only [f_X11_minutes, f_X9_setWay_33, f_X9_setWay, h1, hv, ix16', e2, e3, isO_s, gI_s, gA_s, gL_s, pI_s, pZ_s, pL_s, aI_s, aL_s, aN_s, aQ_s, sI_s, sL_s, cr, LNs, Option.map_some, Option.map_none, Option.bind_some, b2, tr, lt, if_true, if_false, ckZ, X_within, M_in, inR_z, X_refuse, X_tell, X_deny, X_grant, M_refused, M_denied, M_done, M_granted, u2_same, u2_ne, u2_u2, upd_same, upd_ne, aW0, ixR_z, ixR_1, M_isWall, M_isPainter, M_isWork, X_has4, X_has10, X_at, or_false, false_or, or_true, true_or, not_true, not_false_iff, Option.isSome_some, isO_d, gI_d, gA_d, pI_d, ne_eq, not_false_eq_true]
      exact rfl
    · simp (decide := true) only [f_X15_minutes_26, f_X15_minutes, h2, h3, e1, hv, ix16, e2, e3, isO_s, gI_s, gA_s, gL_s, pI_s, pZ_s, pL_s, aI_s, aL_s, aN_s, aQ_s, sI_s, sL_s, cr, LNs, Option.map_some, Option.map_none, Option.bind_some, b2, tr, lt, if_true, if_false, ckZ, X_within, M_in, inR_z, X_refuse, X_tell, X_deny, X_grant, M_refused, M_denied, M_done, M_granted, u2_same, u2_ne, u2_u2, upd_same, upd_ne, aW0, M_isWall, M_isPainter, M_isWork, X_has4, X_has10, X_at, or_false, false_or, or_true, true_or, not_true, not_false_iff, Option.isSome_some, isO_d, gI_d, gA_d, pI_d, ne_eq, not_false_eq_true]
      exact rfl
  · simp (decide := true) only [GTI, u2_same, u2_ne, u2_u2, upd_same, upd_ne, mE, u2_dyn, dyn_u2]
    exact GT_end hT (by decide)
  · simp (decide := true) only [u2_same, u2_ne, u2_u2, upd_same, upd_ne, mE, u2_dyn, dyn_u2]
    intro i' j' hi' hj'
    obtain ⟨g1, g2⟩ := hG i' j' hi' hj'
    constructor
    · intro hne
      have := g1 hne
      unfold upd
      split
      · exact ⟨rfl, (nI_rng hv).1, (nI_rng hv).2⟩
      · split
        · exact ⟨rfl, (nI_rng hv).1, (nI_rng hv).2⟩
        · exact this
    · intro he
      subst he
      rw [upd_ne (by omega), upd_ne (by omega)]
      exact g2 rfl
  · exact (by intro c k h1 h2; simp at h1 h2; simp only [mE, u2, upd]; (repeat' split) <;> first | rfl | (subst_vars; simp_all [upd]))
def GSym (m85 : RW) : Prop := ∀ i j, i < 16 → j < 16 → m85 (16 * i + j) = m85 (16 * j + i)
theorem call_beside (p r v : Int32) {nw : Nat} {q wd hg ow : Nat → Nat} (hv : v = 0 ∨ v = 1) (hT : GTI I) (hn : Cn nw 16 (I 1 1) (I 72 4)) (hA : WA nw q wd hg ow E (P 2)) (hG : GBes (I 3) (I 85)) (hSy : GSym (I 85)) : RunS b F E L P nx us (f_X11_beside (ad b 0) p r v) (f_X15_beside (ad b 72) p r v) I (fun I2 => GBes (I2 3) (I2 85) ∧ GSym (I2 85) ∧ Fr I I2 [(0, 16), (72, 0), (72, 1), (72, 2)] [3, 85]) := by
  rcases pairCase (b := b) (F := F) (L := L) (nx := nx) (us := us) hn hA p r with ⟨h1, h2⟩ | ⟨i, j, hi, hj, hz, rfl, rfl, h1, h2, h3⟩
  · refine Or.inl ⟨1, by decide, 0, u2 I 0 (upd (I 0) 16 1), by (simp (decide := true) only [f_X11_beside, h1, isO_s, gI_s, gA_s, gL_s, pI_s, pZ_s, pL_s, aI_s, aL_s, aN_s, aQ_s, sI_s, sL_s, cr, LNs, Option.map_some, Option.map_none, Option.bind_some, b2, tr, lt, if_true, if_false, ckZ, X_within, M_in, inR_z, X_refuse, X_tell, X_deny, X_grant, M_refused, M_denied, M_done, M_granted, u2_same, u2_ne, u2_u2, upd_same, upd_ne, aW0, ixR_z, ixR_1, M_isWall, M_isPainter, M_isWork, X_has4, X_has10, X_at, or_false, false_or, or_true, true_or, not_true, not_false_iff, Option.isSome_some, isO_d, gI_d, gA_d, pI_d, ne_eq, not_false_eq_true]; try exact rfl), ?_⟩
    rcases h2 with h2 | ⟨h2, h3 | ⟨h3, rfl⟩⟩
    · (simp (decide := true) only [f_X15_beside_26, f_X15_beside, h2, isO_s, gI_s, gA_s, gL_s, pI_s, pZ_s, pL_s, aI_s, aL_s, aN_s, aQ_s, sI_s, sL_s, cr, LNs, Option.map_some, Option.map_none, Option.bind_some, b2, tr, lt, if_true, if_false, ckZ, X_within, M_in, inR_z, X_refuse, X_tell, X_deny, X_grant, M_refused, M_denied, M_done, M_granted, u2_same, u2_ne, u2_u2, upd_same, upd_ne, aW0, M_isWall, M_isPainter, M_isWork, X_has4, X_has10, X_at, or_false, false_or, or_true, true_or, not_true, not_false_iff, Option.isSome_some, isO_d, gI_d, gA_d, pI_d, ne_eq, not_false_eq_true]; try exact rfl)
    · (simp (decide := true) only [f_X15_beside_26, f_X15_beside, h2, h3, isO_s, gI_s, gA_s, gL_s, pI_s, pZ_s, pL_s, aI_s, aL_s, aN_s, aQ_s, sI_s, sL_s, cr, LNs, Option.map_some, Option.map_none, Option.bind_some, b2, tr, lt, if_true, if_false, ckZ, X_within, M_in, inR_z, X_refuse, X_tell, X_deny, X_grant, M_refused, M_denied, M_done, M_granted, u2_same, u2_ne, u2_u2, upd_same, upd_ne, aW0, M_isWall, M_isPainter, M_isWork, X_has4, X_has10, X_at, or_false, false_or, or_true, true_or, not_true, not_false_iff, Option.isSome_some, isO_d, gI_d, gA_d, pI_d, ne_eq, not_false_eq_true]; try exact rfl)
    · (simp (decide := true) only [f_X15_beside_26, f_X15_beside, h2, isO_s, gI_s, gA_s, gL_s, pI_s, pZ_s, pL_s, aI_s, aL_s, aN_s, aQ_s, sI_s, sL_s, cr, LNs, Option.map_some, Option.map_none, Option.bind_some, b2, tr, lt, if_true, if_false, ckZ, X_within, M_in, inR_z, X_refuse, X_tell, X_deny, X_grant, M_refused, M_denied, M_done, M_granted, u2_same, u2_ne, u2_u2, upd_same, upd_ne, aW0, M_isWall, M_isPainter, M_isWork, X_has4, X_has10, X_at, or_false, false_or, or_true, true_or, not_true, not_false_iff, Option.isSome_some, isO_d, gI_d, gA_d, pI_d, ne_eq, not_false_eq_true]; try exact rfl)
  have hn1 := hn.1
  have e1 := oN_ne hz (by omega) (by omega)
  have e2 : iN (Int32.ofNat (16 * i + j)) 256 = some (16 * i + j) := iN_oN (by omega) (by omega)
  have e3 : iN (Int32.ofNat (16 * j + i)) 256 = some (16 * j + i) := iN_oN (by omega) (by omega)
  have e4 : iN (Int32.ofNat i) 16 = some i := iN_oN (by omega) (by omega)
  have e5 : iN (Int32.ofNat j) 16 = some j := iN_oN (by omega) (by omega)
  have e6 : ∀ x : Int32, (x = 0 ∨ x = 1) → aW 2 x = x := by rintro x (rfl | rfl) <;> decide
  refine Or.inr ?_
  apply Exists.intro
  refine ⟨?_, ?_, ?_, ?_, ?_⟩
  · refine ⟨1, u2 (u2 I 3 (upd (upd (I 3) i (if v = 0 then (I 3 i) &&& ((1 <<< (Int32.ofNat j &&& 31)) ^^^ (-1)) else (I 3 i) ||| (1 <<< (Int32.ofNat j &&& 31)))) j (if v = 0 then (I 3 j) &&& ((1 <<< (Int32.ofNat i &&& 31)) ^^^ (-1)) else (I 3 j) ||| (1 <<< (Int32.ofNat i &&& 31))))) 0 (upd (I 0) 16 0), ?_, ?_⟩
    · have hz' : j ≠ i := fun q => hz q.symm
      rcases hv with rfl | rfl
      · (simp (decide := true) only [f_X11_beside, f_X9_setBeside_69, f_X9_setBeside, h1, e4, e5, hz', isO_s, gI_s, gA_s, gL_s, pI_s, pZ_s, pL_s, aI_s, aL_s, aN_s, aQ_s, sI_s, sL_s, cr, LNs, Option.map_some, Option.map_none, Option.bind_some, b2, tr, lt, if_true, if_false, ckZ, X_within, M_in, inR_z, X_refuse, X_tell, X_deny, X_grant, M_refused, M_denied, M_done, M_granted, u2_same, u2_ne, u2_u2, upd_same, upd_ne, aW0, ixR_z, ixR_1, M_isWall, M_isPainter, M_isWork, X_has4, X_has10, X_at, or_false, false_or, or_true, true_or, not_true, not_false_iff, Option.isSome_some, isO_d, gI_d, gA_d, pI_d, ne_eq, not_false_eq_true]; try exact rfl)
      · (simp (decide := true) only [f_X11_beside, f_X9_setBeside_69, f_X9_setBeside, h1, e4, e5, hz', isO_s, gI_s, gA_s, gL_s, pI_s, pZ_s, pL_s, aI_s, aL_s, aN_s, aQ_s, sI_s, sL_s, cr, LNs, Option.map_some, Option.map_none, Option.bind_some, b2, tr, lt, if_true, if_false, ckZ, X_within, M_in, inR_z, X_refuse, X_tell, X_deny, X_grant, M_refused, M_denied, M_done, M_granted, u2_same, u2_ne, u2_u2, upd_same, upd_ne, aW0, ixR_z, ixR_1, M_isWall, M_isPainter, M_isWork, X_has4, X_has10, X_at, or_false, false_or, or_true, true_or, not_true, not_false_iff, Option.isSome_some, isO_d, gI_d, gA_d, pI_d, ne_eq, not_false_eq_true]; try exact rfl)
    · simp (decide := true) only [f_X15_beside_26, f_X15_beside, h2, h3, e1, ix16, e2, e3, e6 v hv, isO_s, gI_s, gA_s, gL_s, pI_s, pZ_s, pL_s, aI_s, aL_s, aN_s, aQ_s, sI_s, sL_s, cr, LNs, Option.map_some, Option.map_none, Option.bind_some, b2, tr, lt, if_true, if_false, ckZ, X_within, M_in, inR_z, X_refuse, X_tell, X_deny, X_grant, M_refused, M_denied, M_done, M_granted, u2_same, u2_ne, u2_u2, upd_same, upd_ne, aW0, M_isWall, M_isPainter, M_isWork, X_has4, X_has10, X_at, or_false, false_or, or_true, true_or, not_true, not_false_iff, Option.isSome_some, isO_d, gI_d, gA_d, pI_d, ne_eq, not_false_eq_true]
      exact rfl
  · simp (decide := true) only [GTI, u2_same, u2_ne, u2_u2, upd_same, upd_ne, mE, u2_dyn, dyn_u2]
    exact GT_end hT (by decide)
  · simp (decide := true) only [u2_same, u2_ne, u2_u2, upd_same, upd_ne, mE, u2_dyn, dyn_u2]
    intro i' j' hi' hj'
    obtain ⟨g0, g1, g2⟩ := hG i' j' hi' hj'
    refine ⟨?_, ?_, ?_⟩
    · unfold upd
      split
      · exact hv
      · split
        · exact hv
        · exact g0
    · intro hne
      have g1 := g1 hne
      rw [btI_bt (by omega)] at g1 ⊢
      by_cases c1 : i' = j
      · subst c1
        rw [upd_same]
        by_cases c2 : j' = i
        · subst c2
          rw [upd_same]
          rcases hv with rfl | rfl
          · rw [if_pos rfl, b_clr (show j' < 32 by omega) (show j' < 32 by omega)]; simp
          · simp (decide := true) [b_set (show j' < 32 by omega) (show j' < 32 by omega)]
        · rw [upd_ne (by omega), upd_ne (by omega)]
          rcases hv with rfl | rfl
          · rw [if_pos rfl, b_clr (show i < 32 by omega) (show j' < 32 by omega)]; simp [c2, g1]
          · simp (decide := true) [b_set (show i < 32 by omega) (show j' < 32 by omega), c2, g1]
      · rw [upd_ne c1]
        by_cases c3 : i' = i
        · subst c3
          rw [upd_same]
          by_cases c2 : j' = j
          · subst c2
            rw [upd_ne (by omega), upd_same]
            rcases hv with rfl | rfl
            · rw [if_pos rfl, b_clr (show j' < 32 by omega) (show j' < 32 by omega)]; simp
            · simp (decide := true) [b_set (show j' < 32 by omega) (show j' < 32 by omega)]
          · rw [upd_ne (by omega), upd_ne (by omega)]
            rcases hv with rfl | rfl
            · rw [if_pos rfl, b_clr (show j < 32 by omega) (show j' < 32 by omega)]; simp [c2, g1]
            · simp (decide := true) [b_set (show j < 32 by omega) (show j' < 32 by omega), c2, g1]
        · rw [upd_ne c3, upd_ne (by omega), upd_ne (by omega)]
          exact g1
    · intro he
      subst he
      rw [upd_ne (by omega), upd_ne (by omega)]
      exact g2 rfl
  · simp (decide := true) only [u2_same, u2_ne, u2_u2, upd_same, upd_ne, mE, u2_dyn, dyn_u2]
    intro i' j' hi' hj'
    have hs := hSy i' j' hi' hj'
    unfold upd
    repeat' split
    all_goals first | rfl | exact hs | (exfalso; omega)
  · exact (by intro c k h1 h2; simp at h1 h2; simp only [mE, u2, upd]; (repeat' split) <;> first | rfl | (subst_vars; simp_all [upd]))
end S2
