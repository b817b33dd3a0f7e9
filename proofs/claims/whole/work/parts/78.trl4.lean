/-! ===== trail: the stops, and the trail's walls ===== -/
def twF (st : Nat → Nat) (be : Nat) : Nat → Nat → Int32 → Int32
  | _, 0, a => a
  | i, m + 1, a => twF st be (i + 1) m (if be.testBit i = true then a ||| ((1 : Int32) <<< (Int32.ofNat (st i) &&& 31)) else a)
theorem shl0 {k : Nat} (hk : k < 32) : (0 : Int32) <<< (Int32.ofNat k &&& 31) = 0 := by
  refine b_ext fun i hi => ?_
  rw [b_shl k hk _ hi, b_0, b_0, Bool.and_false]
theorem or0 (x : Int32) : x ||| 0 = x := by
  refine b_ext fun i hi => ?_
  rw [b_or, b_0, Bool.or_false]
/-- the wanted themes are on the stops -/
def WT (st : Nat → Nat) (th : RW) (wt : Int32) (c : Nat) : Prop := ∀ j, j < 32 → bt wt j = true → ∃ k, k < c ∧ bt (th (st k)) j = true
theorem hsF_bit {st : Nat → Nat} {th : RW} {s j : Nat} (hj : j < 32) : ∀ (m i : Nat) (a : Int32), (bt a j = true ∨ ∃ k, i ≤ k ∧ k < i + m ∧ s.testBit k = true ∧ bt (th (st k)) j = true) → bt (hsF st th s i m a) j = true := by
  intro m
  induction m with
  | zero => intro i a h; rcases h with h | ⟨k, h1, h2, -⟩; exact h; omega
  | succ m ih =>
    intro i a h
    show bt (hsF st th s (i + 1) m (if s.testBit i = true then a ||| th (st i) else a)) j = true
    refine ih (i + 1) _ ?_
    rcases h with h | ⟨k, h1, h2, h3, h4⟩
    · left
      split
      · rw [b_or, h, Bool.true_or]
      · exact h
    · by_cases hz : k = i
      · subst hz
        left
        rw [if_pos h3, b_or, h4, Bool.or_true]
      · exact Or.inr ⟨k, by omega, by omega, h3, h4⟩
theorem full_want {st : Nat → Nat} {th : RW} {wt : Int32} {n : Nat} (h : WT st th wt n) : hsF st th (2 ^ n - 1) 0 n 0 &&& wt = wt := by
  refine b_ext fun j hj => ?_
  rw [b_and]
  cases hb : bt wt j
  · rw [Bool.and_false]
  · obtain ⟨k, hk, hkb⟩ := h j hj hb
    rw [hsF_bit hj n 0 0 (Or.inr ⟨k, by omega, by omega, by rw [Nat.testBit_two_pow_sub_one]; simp [hk], hkb⟩)]
    rfl
section TRL4
variable {b : Nat} {F : Nat → Option AE} {D E : Nat → Option KD} {I : Nat → Nat → Int32} {L : Nat → Nat → Int64} {P : Nat → Nat → Option Nat} {nx us : Nat}
theorem X_tw {nw n be : Nat} {st : Nat → Nat} {m142 : RW} {bw : Int32} (hbe : be < 512) : ∀ (m i : Nat), i + m = n → ∀ (I : Nat → Nat → Int32) (fu : Nat), m < fu → TS nw n st (I 37) m142 → I 33 6 = Int32.ofNat n → f_X6_shortestTrail_118 fu (ad b 33) (Int32.ofNat be) bw (Int32.ofNat i) (lay b F E I L P nx us) = some (bw, lay b F E (u2 I 33 (upd (I 33) 9 (twF st be i m (I 33 9)))) L P nx us) := by
  intro m
  induction m with
  | zero =>
    intro i hi I fu hfu hS h6
    obtain ⟨fu, rfl⟩ : ∃ z, fu = z + 1 := ⟨fu - 1, by omega⟩
    have : i = n := by omega
    subst this
    show _ = some (bw, lay b F E (u2 I 33 (upd (I 33) 9 (I 33 9))) L P nx us)
    rw [upd_id rfl, u2_id]
    simp (decide := true) only [f_X6_shortestTrail_118, h6, Int32.le_refl, isO_s, gI_s, gA_s, gL_s, pI_s, pZ_s, pL_s, aI_s, aL_s, aN_s, aQ_s, sI_s, sL_s, cr, LNs, Option.map_some, Option.map_none, Option.bind_some, b2, tr, lt, if_true, if_false, ckZ, X_within, M_in, inR_z, X_refuse, X_tell, X_deny, X_grant, M_refused, M_denied, M_done, M_granted, u2_same, u2_ne, u2_u2, upd_same, upd_ne, aW0, ixR_z, ixR_1, M_isWall, M_isPainter, M_isWork, X_has4, X_has10, X_at, or_false, false_or, or_true, true_or, not_true, not_false_iff, Option.isSome_some, isO_d, gI_d, gA_d, pI_d, ne_eq, not_false_eq_true, u2_hi, u2_hj, u2_dyn, u2_dynj, Nat.reduceAdd, mX_r, mX_rD, mX_rDj, mM_r, mX_u, mX_uM, mX_uD, mX_uDj, mM_u, mM_uX, mM_uD, mM_uDj, u2_dd, u2_d0, u2_0d]
  | succ m ih =>
    intro i hi I fu hfu hS h6
    obtain ⟨fu, rfl⟩ : ∃ z, fu = z + 1 := ⟨fu - 1, by omega⟩
    have hn9 := hS.1
    have hin : i < n := by omega
    have e2 := oN_leF hin (by omega)
    have e6 : iN (Int32.ofNat i) 9 = some i := iN_oN (by omega) (by omega)
    have eb := tb1 (s := be) (k := i) (by omega) (by omega)
    have hd : twF st be i (m + 1) (I 33 9) = twF st be (i + 1) m (if be.testBit i = true then I 33 9 ||| ((1 : Int32) <<< (Int32.ofNat (st i) &&& 31)) else I 33 9) := rfl
    rw [hd]
    by_cases hb : be.testBit i = true
    · have := ih (i + 1) (by omega) (u2 I 33 (upd (I 33) 9 (I 33 9 ||| ((1 : Int32) <<< (Int32.ofNat (st i) &&& 31))))) fu (by omega) (by simp (decide := true) only [u2_same, u2_ne, u2_u2, upd_same, upd_ne, mE, u2_dyn, dyn_u2, dyn_hi, u2_hi, u2_hj, u2_dynj, u2_dd, u2_d0, u2_0d]; exact hS) (by simp (decide := true) only [u2_same, u2_ne, u2_u2, upd_same, upd_ne, mE, u2_dyn, dyn_u2, dyn_hi, u2_hi, u2_hj, u2_dynj, u2_dd, u2_d0, u2_0d]; exact h6)
      simp (decide := true) only [u2_same, u2_u2, upd_same] at this
      have eu : ∀ x y : Int32, upd (upd (I 33) 9 x) 9 y = upd (I 33) 9 y := by intro x y; funext j; unfold upd; split <;> rfl
      rw [eu] at this
      rw [if_pos hb, ← this]
      simp (decide := true) only [f_X6_shortestTrail_118, f_X6_shortestTrail_155, h6, e2, eb, hb, e6, (hS.2 i hin).2.1, oN_succ, isO_s, gI_s, gA_s, gL_s, pI_s, pZ_s, pL_s, aI_s, aL_s, aN_s, aQ_s, sI_s, sL_s, cr, LNs, Option.map_some, Option.map_none, Option.bind_some, b2, tr, lt, if_true, if_false, ckZ, X_within, M_in, inR_z, X_refuse, X_tell, X_deny, X_grant, M_refused, M_denied, M_done, M_granted, u2_same, u2_ne, u2_u2, upd_same, upd_ne, aW0, ixR_z, ixR_1, M_isWall, M_isPainter, M_isWork, X_has4, X_has10, X_at, or_false, false_or, or_true, true_or, not_true, not_false_iff, Option.isSome_some, isO_d, gI_d, gA_d, pI_d, ne_eq, not_false_eq_true, u2_hi, u2_hj, u2_dyn, u2_dynj, Nat.reduceAdd, mX_r, mX_rD, mX_rDj, mM_r, mX_u, mX_uM, mX_uD, mX_uDj, mM_u, mM_uX, mM_uD, mM_uDj, u2_dd, u2_d0, u2_0d]
    · have hb' : (be.testBit i = true) = False := eq_false hb
      rw [if_neg hb, ← ih (i + 1) (by omega) I fu (by omega) hS h6]
      simp (decide := true) only [f_X6_shortestTrail_118, f_X6_shortestTrail_155, h6, e2, eb, hb', oN_succ, isO_s, gI_s, gA_s, gL_s, pI_s, pZ_s, pL_s, aI_s, aL_s, aN_s, aQ_s, sI_s, sL_s, cr, LNs, Option.map_some, Option.map_none, Option.bind_some, b2, tr, lt, if_true, if_false, ckZ, X_within, M_in, inR_z, X_refuse, X_tell, X_deny, X_grant, M_refused, M_denied, M_done, M_granted, u2_same, u2_ne, u2_u2, upd_same, upd_ne, aW0, ixR_z, ixR_1, M_isWall, M_isPainter, M_isWork, X_has4, X_has10, X_at, or_false, false_or, or_true, true_or, not_true, not_false_iff, Option.isSome_some, isO_d, gI_d, gA_d, pI_d, ne_eq, not_false_eq_true, u2_hi, u2_hj, u2_dyn, u2_dynj, Nat.reduceAdd, mX_r, mX_rD, mX_rDj, mM_r, mX_u, mX_uM, mX_uD, mX_uDj, mM_u, mM_uX, mM_uD, mM_uDj, u2_dd, u2_d0, u2_0d]
theorem M_tw {nw n be : Nat} {st : Nat → Nat} {x37 : RW} {le : Int32} (h16 : nw ≤ 16) (hbe : be < 512) : ∀ (m i : Nat), i + m = n → ∀ (I : Nat → Nat → Int32) (fu : Nat), m < fu → TS nw n st x37 (I 142) → I 72 101 = Int32.ofNat n → f_X15_trail_415 fu (ad b 72) (Int32.ofNat be) le (Int32.ofNat i) (lay b F E I L P nx us) = b2 (f_X15_done (ad b 72) le (lay b F E (u2 I 72 (upd (I 72) 102 (twF st be i m (I 72 102)))) L P nx us)) fun x2 h3 => some (x2, h3) := by
  intro m
  induction m with
  | zero =>
    intro i hi I fu hfu hS h6
    obtain ⟨fu, rfl⟩ : ∃ z, fu = z + 1 := ⟨fu - 1, by omega⟩
    have : i = n := by omega
    subst this
    show _ = b2 (f_X15_done (ad b 72) le (lay b F E (u2 I 72 (upd (I 72) 102 (I 72 102))) L P nx us)) fun x2 h3 => some (x2, h3)
    rw [upd_id rfl, u2_id]
    simp (decide := true) only [f_X15_trail_415, h6, Int32.le_refl, isO_s, gI_s, gA_s, gL_s, pI_s, pZ_s, pL_s, aI_s, aL_s, aN_s, aQ_s, sI_s, sL_s, cr, LNs, Option.map_some, Option.map_none, Option.bind_some, b2, tr, lt, if_true, if_false, ckZ, X_within, M_in, inR_z, X_refuse, X_tell, X_deny, X_grant, M_refused, M_denied, M_granted, u2_same, u2_ne, u2_u2, upd_same, upd_ne, aW0, ixR_z, ixR_1, M_isWall, M_isPainter, M_isWork, X_has4, X_has10, X_at, or_false, false_or, or_true, true_or, not_true, not_false_iff, Option.isSome_some, isO_d, gI_d, gA_d, pI_d, ne_eq, not_false_eq_true, u2_hi, u2_hj, u2_dyn, u2_dynj, Nat.reduceAdd, mX_r, mX_rD, mX_rDj, mM_r, mX_u, mX_uM, mX_uD, mX_uDj, mM_u, mM_uX, mM_uD, mM_uDj, u2_dd, u2_d0, u2_0d]
  | succ m ih =>
    intro i hi I fu hfu hS h6
    obtain ⟨fu, rfl⟩ : ∃ z, fu = z + 1 := ⟨fu - 1, by omega⟩
    have hn9 := hS.1
    have hin : i < n := by omega
    have e2 := oN_leF hin (by omega)
    have e6 : iN (Int32.ofNat i) 9 = some i := iN_oN (by omega) (by omega)
    have hd : twF st be i (m + 1) (I 72 102) = twF st be (i + 1) m (if be.testBit i = true then I 72 102 ||| ((1 : Int32) <<< (Int32.ofNat (st i) &&& 31)) else I 72 102) := rfl
    rw [hd]
    have hst : (hS.2 i hin).1 = (hS.2 i hin).1 := rfl
    have hsi : st i < 32 := by have := (hS.2 i hin).1; omega
    have hx : I 72 102 ||| (((Int32.ofNat be >>> (Int32.ofNat i &&& 31)) &&& 1) <<< (Int32.ofNat (st i) &&& 31)) = (if be.testBit i = true then I 72 102 ||| ((1 : Int32) <<< (Int32.ofNat (st i) &&& 31)) else I 72 102) := by
      by_cases hb : be.testBit i = true
      · have := (tb1 (s := be) (k := i) (by omega) (by omega)).symm ▸ hb
        rw [if_pos hb, this]
      · have hb0 : be.testBit i = false := by simpa using hb
        have := (tb0 (s := be) (k := i) (by omega) (by omega)).symm ▸ hb0
        rw [if_neg hb, this, shl0 hsi, or0]
    have := ih (i + 1) (by omega) (u2 I 72 (upd (I 72) 102 (if be.testBit i = true then I 72 102 ||| ((1 : Int32) <<< (Int32.ofNat (st i) &&& 31)) else I 72 102))) fu (by omega) (by simp (decide := true) only [u2_same, u2_ne, u2_u2, upd_same, upd_ne, mE, u2_dyn, dyn_u2, dyn_hi, u2_hi, u2_hj, u2_dynj, u2_dd, u2_d0, u2_0d]; exact hS) (by simp (decide := true) only [u2_same, u2_ne, u2_u2, upd_same, upd_ne, mE, u2_dyn, dyn_u2, dyn_hi, u2_hi, u2_hj, u2_dynj, u2_dd, u2_d0, u2_0d]; exact h6)
    simp (decide := true) only [u2_same, u2_u2, upd_same] at this
    have eu : ∀ x y : Int32, upd (upd (I 72) 102 x) 102 y = upd (I 72) 102 y := by intro x y; funext j; unfold upd; split <;> rfl
    rw [eu] at this
    rw [← this]
    simp (decide := true) only [f_X15_trail_415, h6, e2, e6, (hS.2 i hin).2.2, hx, oN_succ, isO_s, gI_s, gA_s, gL_s, pI_s, pZ_s, pL_s, aI_s, aL_s, aN_s, aQ_s, sI_s, sL_s, cr, LNs, Option.map_some, Option.map_none, Option.bind_some, b2, tr, lt, if_true, if_false, ckZ, X_within, M_in, inR_z, X_refuse, X_tell, X_deny, X_grant, M_refused, M_denied, M_done, M_granted, u2_same, u2_ne, u2_u2, upd_same, upd_ne, aW0, ixR_z, ixR_1, M_isWall, M_isPainter, M_isWork, X_has4, X_has10, X_at, or_false, false_or, or_true, true_or, not_true, not_false_iff, Option.isSome_some, isO_d, gI_d, gA_d, pI_d, ne_eq, not_false_eq_true, u2_hi, u2_hj, u2_dyn, u2_dynj, Nat.reduceAdd, mX_r, mX_rD, mX_rDj, mM_r, mX_u, mX_uM, mX_uD, mX_uDj, mM_u, mM_uX, mM_uD, mM_uDj, u2_dd, u2_d0, u2_0d]
/-- the class goes on counting behind the ninth -/
theorem X_more {nw : Nat} {q wd hg ow : Nat → Nat} {th : Int32} (h16 : nw ≤ 16) (hA : WA nw q wd hg ow E (P 2)) : ∀ (m w : Nat), w + m = nw → ∀ (I : Nat → Nat → Int32) (c : Nat), c ≤ w → I 1 1 = Int32.ofNat nw → I 33 6 = 9 → ∃ (c2 : Nat) (wt : Int32), c ≤ c2 ∧ c2 ≤ nw ∧ ∀ (J : Nat → Nat → Int32) (fu : Nat), m < fu → f_X6_findStops_14 fu (ad b 33) th (Int32.ofNat c) (Int32.ofNat w) (lay b F E (mX J I) L P nx us) = some (Int32.ofNat c2, lay b F E (mX J (u2 I 33 (upd (I 33) 7 wt))) L P nx us) := by
  intro m
  induction m with
  | zero =>
    intro w hw I c hc h1 h6
    have : w = nw := by omega
    subst this
    refine ⟨c, I 33 7, Nat.le_refl _, by omega, ?_⟩
    intro J fu hfu
    obtain ⟨fu, rfl⟩ : ∃ z, fu = z + 1 := ⟨fu - 1, by omega⟩
    rw [upd_id rfl, u2_id]
    simp (decide := true) only [f_X6_findStops_14, h1, Int32.le_refl, isO_s, gI_s, gA_s, gL_s, pI_s, pZ_s, pL_s, aI_s, aL_s, aN_s, aQ_s, sI_s, sL_s, cr, LNs, Option.map_some, Option.map_none, Option.bind_some, b2, tr, lt, if_true, if_false, ckZ, X_within, M_in, inR_z, X_refuse, X_tell, X_deny, X_grant, M_refused, M_denied, M_done, M_granted, u2_same, u2_ne, u2_u2, upd_same, upd_ne, aW0, ixR_z, ixR_1, M_isWall, M_isPainter, M_isWork, X_has4, X_has10, X_at, or_false, false_or, or_true, true_or, not_true, not_false_iff, Option.isSome_some, isO_d, gI_d, gA_d, pI_d, ne_eq, not_false_eq_true, u2_hi, u2_hj, u2_dyn, u2_dynj, Nat.reduceAdd, mX_r, mX_rD, mX_rDj, mM_r, mX_u, mX_uM, mX_uD, mX_uDj, mM_u, mM_uX, mM_uD, mM_uDj, u2_dd, u2_d0, u2_0d]
  | succ m ih =>
    intro w hw I c hc h1 h6
    have hwn : w < nw := by omega
    have e2 := oN_leF hwn (by omega)
    have hwa := wAt_w (I := I) h1 h16 hA hwn
    rw [h1] at hwa
    obtain ⟨-, hKd, -⟩ := hA w hwn
    obtain ⟨k0, -⟩ := WKk hKd
    by_cases hz : I (149 + q w) 7 &&& th = 0
    · obtain ⟨c2, wt, z1, z2, z3⟩ := ih (w + 1) (by omega) I c (by omega) h1 h6
      refine ⟨c2, wt, z1, z2, ?_⟩
      intro J fu hfu
      obtain ⟨fu, rfl⟩ : ∃ z, fu = z + 1 := ⟨fu - 1, by omega⟩
      rw [← z3 J fu (by omega)]
      simp (decide := true) only [f_X6_findStops_14, f_X6_findStops_101, h1, e2, hwa, k0, hz, oN_succ, isO_s, gI_s, gA_s, gL_s, pI_s, pZ_s, pL_s, aI_s, aL_s, aN_s, aQ_s, sI_s, sL_s, cr, LNs, Option.map_some, Option.map_none, Option.bind_some, b2, tr, lt, if_true, if_false, ckZ, X_within, M_in, inR_z, X_refuse, X_tell, X_deny, X_grant, M_refused, M_denied, M_done, M_granted, u2_same, u2_ne, u2_u2, upd_same, upd_ne, aW0, ixR_z, ixR_1, M_isWall, M_isPainter, M_isWork, X_has4, X_has10, X_at, or_false, false_or, or_true, true_or, not_true, not_false_iff, Option.isSome_some, isO_d, gI_d, gA_d, pI_d, ne_eq, not_false_eq_true, u2_hi, u2_hj, u2_dyn, u2_dynj, Nat.reduceAdd, mX_r, mX_rD, mX_rDj, mM_r, mX_u, mX_uM, mX_uD, mX_uDj, mM_u, mM_uX, mM_uD, mM_uDj, u2_dd, u2_d0, u2_0d]
    · obtain ⟨c2, wt, z1, z2, z3⟩ := ih (w + 1) (by omega) (u2 I 33 (upd (I 33) 7 (I 33 7 ||| (I (149 + q w) 7 &&& th)))) (c + 1) (by omega) (by simp (decide := true) only [u2_same, u2_ne, u2_u2, upd_same, upd_ne, mE, u2_dyn, dyn_u2, dyn_hi, u2_hi, u2_hj, u2_dynj, u2_dd, u2_d0, u2_0d]; exact h1) (by simp (decide := true) only [u2_same, u2_ne, u2_u2, upd_same, upd_ne, mE, u2_dyn, dyn_u2, dyn_hi, u2_hi, u2_hj, u2_dynj, u2_dd, u2_d0, u2_0d]; exact h6)
      refine ⟨c2, wt, by omega, z2, ?_⟩
      intro J fu hfu
      obtain ⟨fu, rfl⟩ : ∃ z, fu = z + 1 := ⟨fu - 1, by omega⟩
      have z3 := z3 J fu (by omega)
      simp (decide := true) only [u2_same, u2_u2] at z3
      have eu : ∀ x y : Int32, upd (upd (I 33) 7 x) 7 y = upd (I 33) 7 y := by intro x y; funext j; unfold upd; split <;> rfl
      rw [eu] at z3
      rw [← z3]
      simp (decide := true) only [f_X6_findStops_14, f_X6_findStops_101, h1, e2, hwa, k0, hz, h6, oN_succ, isO_s, gI_s, gA_s, gL_s, pI_s, pZ_s, pL_s, aI_s, aL_s, aN_s, aQ_s, sI_s, sL_s, cr, LNs, Option.map_some, Option.map_none, Option.bind_some, b2, tr, lt, if_true, if_false, ckZ, X_within, M_in, inR_z, X_refuse, X_tell, X_deny, X_grant, M_refused, M_denied, M_done, M_granted, u2_same, u2_ne, u2_u2, upd_same, upd_ne, aW0, ixR_z, ixR_1, M_isWall, M_isPainter, M_isWork, X_has4, X_has10, X_at, or_false, false_or, or_true, true_or, not_true, not_false_iff, Option.isSome_some, isO_d, gI_d, gA_d, pI_d, ne_eq, not_false_eq_true, u2_hi, u2_hj, u2_dyn, u2_dynj, Nat.reduceAdd, mX_r, mX_rD, mX_rDj, mM_r, mX_u, mX_uM, mX_uD, mX_uDj, mM_u, mM_uX, mM_uD, mM_uDj, u2_dd, u2_d0, u2_0d]
theorem M_tenth {nw w fu : Nat} {th wt : Int32} (h16 : nw ≤ 16) (hw : w < nw) (h2 : I 72 4 = Int32.ofNat nw) (hz : ¬ I 79 w &&& th = 0) (h9 : I 72 101 = Int32.ofNat 9) : f_X15_trail_31 (fu + 1) (ad b 72) th wt (Int32.ofNat w) (lay b F E I L P nx us) = b2 (f_X15_refused (ad b 72) 6 (lay b F E I L P nx us)) fun x3 h4 => some (x3, h4) := by
  have e2 := oN_leF hw (by omega)
  have e16 : iN (Int32.ofNat w) 16 = some w := iN_oN (by omega) (by omega)
  have h9' : I 72 101 = 9 := h9
  simp (decide := true) only [f_X15_trail_31, h2, e2, e16, hz, isO_s, gI_s, gA_s, gL_s, pI_s, pZ_s, pL_s, aI_s, aL_s, aN_s, aQ_s, sL_s, cr, LNs, Option.map_some, Option.map_none, Option.bind_some, b2, tr, lt, if_true, if_false, ckZ, X_within, M_in, inR_z, X_refuse, X_tell, X_deny, X_grant, M_denied, M_granted, u2_same, u2_ne, u2_u2, upd_same, upd_ne, ixR_z, ixR_1, M_isWall, M_isPainter, M_isWork, X_has4, X_has10, X_at, or_false, false_or, or_true, true_or, not_true, not_false_iff, Option.isSome_some, isO_d, gI_d, gA_d, pI_d, ne_eq, not_false_eq_true, u2_hi, u2_hj, u2_dyn, u2_dynj, Nat.reduceAdd, mX_r, mX_rD, mX_rDj, mM_r, mX_u, mX_uM, mX_uD, mX_uDj, mM_u, mM_uX, mM_uD, mM_uDj, u2_dd, u2_d0, u2_0d]
  rw [if_pos h9']
/-- the frame of looking for stops -/
def SF (I I2 : Nat → Nat → Int32) : Prop := (∀ c, c ≠ 33 → c ≠ 37 → c ≠ 72 → c ≠ 142 → I2 c = I c) ∧ (∀ j, j ≠ 6 → j ≠ 7 → I2 33 j = I 33 j) ∧ (∀ j, j ≠ 101 → I2 72 j = I 72 j)
theorem SF.trans {I I2 I3 : Nat → Nat → Int32} (h : SF I I2) (h2 : SF I2 I3) : SF I I3 := ⟨fun c a b d e => by rw [h2.1 c a b d e, h.1 c a b d e], fun j a b => by rw [h2.2.1 j a b, h.2.1 j a b], fun j a => by rw [h2.2.2 j a, h.2.2 j a]⟩
theorem stopsL {nw : Nat} {q wd hg ow : Nat → Nat} {th : Int32} (h16 : nw ≤ 16) (hA : WA nw q wd hg ow E (P 2)) : ∀ (m w : Nat), w + m = nw → ∀ (I : Nat → Nat → Int32) (c : Nat) (st : Nat → Nat) (wt : Int32), c ≤ 9 → c ≤ w → I 1 1 = Int32.ofNat nw → I 72 4 = Int32.ofNat nw → WC nw q (dyn I) (I 75) (I 76) (I 79) → TS nw c st (I 37) (I 142) → I 33 6 = Int32.ofNat c → I 72 101 = Int32.ofNat c → I 33 7 = wt → WT st (I 79) wt c →
    (∃ (c2 : Nat) (st2 : Nat → Nat) (wt2 : Int32) (I2 : Nat → Nat → Int32), c2 ≤ 9 ∧ TS nw c2 st2 (I2 37) (I2 142) ∧ I2 33 6 = Int32.ofNat c2 ∧ I2 72 101 = Int32.ofNat c2 ∧ I2 33 7 = wt2 ∧ WT st2 (I 79) wt2 c2 ∧ SF I I2 ∧
      (∀ (J : Nat → Nat → Int32) (fu : Nat), m < fu → f_X6_findStops_14 fu (ad b 33) th (Int32.ofNat c) (Int32.ofNat w) (lay b F E (mX J I) L P nx us) = some (Int32.ofNat c2, lay b F E (mX J I2) L P nx us)) ∧
      (∀ (J : Nat → Nat → Int32) (E' : Nat → Option KD) (L' : Nat → Nat → Int64) (P' : Nat → Nat → Option Nat) (nx' us' fu : Nat), m < fu → f_X15_trail_31 fu (ad b 72) th wt (Int32.ofNat w) (lay b F E' (mM J I) L' P' nx' us') = if c2 = 0 then b2 (f_X15_done (ad b 72) (-2) (lay b F E' (mM J I2) L' P' nx' us')) fun x3 h4 => some (x3, h4) else f_X15_trail_129 FU (ad b 72) wt2 0 1000000 1 (lay b F E' (mM J I2) L' P' nx' us')))
    ∨ (∃ (c2 : Nat) (I2 : Nat → Nat → Int32), 10 ≤ c2 ∧ c2 ≤ 16 ∧ SF I I2 ∧
      (∀ (J : Nat → Nat → Int32) (fu : Nat), m < fu → f_X6_findStops_14 fu (ad b 33) th (Int32.ofNat c) (Int32.ofNat w) (lay b F E (mX J I) L P nx us) = some (Int32.ofNat c2, lay b F E (mX J I2) L P nx us)) ∧
      (∀ (J : Nat → Nat → Int32) (E' : Nat → Option KD) (L' : Nat → Nat → Int64) (P' : Nat → Nat → Option Nat) (nx' us' fu : Nat), m < fu → f_X15_trail_31 fu (ad b 72) th wt (Int32.ofNat w) (lay b F E' (mM J I) L' P' nx' us') = b2 (f_X15_refused (ad b 72) 6 (lay b F E' (mM J I2) L' P' nx' us')) fun x3 h4 => some (x3, h4))) := by
  intro m
  induction m with
  | zero =>
    intro w hw I c st wt hc9 hcw h1 h2 hC hS h6 h61 h7 hWT
    have : w = nw := by omega
    subst this
    refine Or.inl ⟨c, st, wt, I, hc9, hS, h6, h61, h7, hWT, ⟨fun _ _ _ _ _ => rfl, fun _ _ _ => rfl, fun _ _ => rfl⟩, ?_, ?_⟩
    · intro J fu hfu
      obtain ⟨fu, rfl⟩ : ∃ z, fu = z + 1 := ⟨fu - 1, by omega⟩
      simp (decide := true) only [f_X6_findStops_14, h1, Int32.le_refl, isO_s, gI_s, gA_s, gL_s, pI_s, pZ_s, pL_s, aI_s, aL_s, aN_s, aQ_s, sI_s, sL_s, cr, LNs, Option.map_some, Option.map_none, Option.bind_some, b2, tr, lt, if_true, if_false, ckZ, X_within, M_in, inR_z, X_refuse, X_tell, X_deny, X_grant, M_refused, M_denied, M_done, M_granted, u2_same, u2_ne, u2_u2, upd_same, upd_ne, aW0, ixR_z, ixR_1, M_isWall, M_isPainter, M_isWork, X_has4, X_has10, X_at, or_false, false_or, or_true, true_or, not_true, not_false_iff, Option.isSome_some, isO_d, gI_d, gA_d, pI_d, ne_eq, not_false_eq_true, u2_hi, u2_hj, u2_dyn, u2_dynj, Nat.reduceAdd, mX_r, mX_rD, mX_rDj, mM_r, mX_u, mX_uM, mX_uD, mX_uDj, mM_u, mM_uX, mM_uD, mM_uDj, u2_dd, u2_d0, u2_0d]
    · intro J E' L' P' nx' us' fu hfu
      obtain ⟨fu, rfl⟩ : ∃ z, fu = z + 1 := ⟨fu - 1, by omega⟩
      by_cases h0 : c = 0
      · subst h0
        have e0 : (Int32.ofNat 0 = 0) = True := eq_true rfl
        simp (decide := true) only [f_X15_trail_31, h2, Int32.le_refl, h61, e0, isO_s, gI_s, gA_s, gL_s, pI_s, pZ_s, pL_s, aI_s, aL_s, aN_s, aQ_s, sI_s, sL_s, cr, LNs, Option.map_some, Option.map_none, Option.bind_some, b2, tr, lt, if_true, if_false, ckZ, X_within, M_in, inR_z, X_refuse, X_tell, X_deny, X_grant, M_refused, M_denied, M_granted, u2_same, u2_ne, u2_u2, upd_same, upd_ne, aW0, ixR_z, ixR_1, M_isWall, M_isPainter, M_isWork, X_has4, X_has10, X_at, or_false, false_or, or_true, true_or, not_true, not_false_iff, Option.isSome_some, isO_d, gI_d, gA_d, pI_d, ne_eq, not_false_eq_true, u2_hi, u2_hj, u2_dyn, u2_dynj, Nat.reduceAdd, mX_r, mX_rD, mX_rDj, mM_r, mX_u, mX_uM, mX_uD, mX_uDj, mM_u, mM_uX, mM_uD, mM_uDj, u2_dd, u2_d0, u2_0d]
      · have e0 : (Int32.ofNat c = 0) = False := oN_ne (c := 0) h0 (by omega) (by omega)
        rw [if_neg h0]
        simp (decide := true) only [f_X15_trail_31, h2, Int32.le_refl, h61, e0, isO_s, gI_s, gA_s, gL_s, pI_s, pZ_s, pL_s, aI_s, aL_s, aN_s, aQ_s, sI_s, sL_s, cr, LNs, Option.map_some, Option.map_none, Option.bind_some, b2, tr, lt, if_true, if_false, ckZ, X_within, M_in, inR_z, X_refuse, X_tell, X_deny, X_grant, M_refused, M_denied, M_granted, u2_same, u2_ne, u2_u2, upd_same, upd_ne, aW0, ixR_z, ixR_1, M_isWall, M_isPainter, M_isWork, X_has4, X_has10, X_at, or_false, false_or, or_true, true_or, not_true, not_false_iff, Option.isSome_some, isO_d, gI_d, gA_d, pI_d, ne_eq, not_false_eq_true, u2_hi, u2_hj, u2_dyn, u2_dynj, Nat.reduceAdd, mX_r, mX_rD, mX_rDj, mM_r, mX_u, mX_uM, mX_uD, mX_uDj, mM_u, mM_uX, mM_uD, mM_uDj, u2_dd, u2_d0, u2_0d]
  | succ m ih =>
    intro w hw I c st wt hc9 hcw h1 h2 hC hS h6 h61 h7 hWT
    have hwn : w < nw := by omega
    have e2 := oN_leF hwn (by omega)
    have hwa := wAt_w (I := I) h1 h16 hA hwn
    rw [h1] at hwa
    obtain ⟨-, hKd, -⟩ := hA w hwn
    obtain ⟨k0, -⟩ := WKk hKd
    have c4 : I (149 + q w) 7 = I 79 w := (hC w hwn).2.2.2.1
    have e16 : iN (Int32.ofNat w) 16 = some w := iN_oN (by omega) (by omega)
    by_cases hz : I 79 w &&& th = 0
    · have stepX : ∀ (J : Nat → Nat → Int32) (fu : Nat), f_X6_findStops_14 (fu + 1) (ad b 33) th (Int32.ofNat c) (Int32.ofNat w) (lay b F E (mX J I) L P nx us) = f_X6_findStops_14 fu (ad b 33) th (Int32.ofNat c) (Int32.ofNat (w + 1)) (lay b F E (mX J I) L P nx us) := by
        intro J fu
        simp (decide := true) only [f_X6_findStops_14, f_X6_findStops_101, h1, e2, hwa, k0, c4, hz, oN_succ, isO_s, gI_s, gA_s, gL_s, pI_s, pZ_s, pL_s, aI_s, aL_s, aN_s, aQ_s, sI_s, sL_s, cr, LNs, Option.map_some, Option.map_none, Option.bind_some, b2, tr, lt, if_true, if_false, ckZ, X_within, M_in, inR_z, X_refuse, X_tell, X_deny, X_grant, M_refused, M_denied, M_done, M_granted, u2_same, u2_ne, u2_u2, upd_same, upd_ne, aW0, ixR_z, ixR_1, M_isWall, M_isPainter, M_isWork, X_has4, X_has10, X_at, or_false, false_or, or_true, true_or, not_true, not_false_iff, Option.isSome_some, isO_d, gI_d, gA_d, pI_d, ne_eq, not_false_eq_true, u2_hi, u2_hj, u2_dyn, u2_dynj, Nat.reduceAdd, mX_r, mX_rD, mX_rDj, mM_r, mX_u, mX_uM, mX_uD, mX_uDj, mM_u, mM_uX, mM_uD, mM_uDj, u2_dd, u2_d0, u2_0d]
      have stepM : ∀ (J : Nat → Nat → Int32) (E' : Nat → Option KD) (L' : Nat → Nat → Int64) (P' : Nat → Nat → Option Nat) (nx' us' fu : Nat), f_X15_trail_31 (fu + 1) (ad b 72) th wt (Int32.ofNat w) (lay b F E' (mM J I) L' P' nx' us') = f_X15_trail_31 fu (ad b 72) th wt (Int32.ofNat (w + 1)) (lay b F E' (mM J I) L' P' nx' us') := by
        intro J E' L' P' nx' us' fu
        simp (decide := true) only [f_X15_trail_31, f_X15_trail_100, h2, e2, e16, hz, oN_succ, isO_s, gI_s, gA_s, gL_s, pI_s, pZ_s, pL_s, aI_s, aL_s, aN_s, aQ_s, sI_s, sL_s, cr, LNs, Option.map_some, Option.map_none, Option.bind_some, b2, tr, lt, if_true, if_false, ckZ, X_within, M_in, inR_z, X_refuse, X_tell, X_deny, X_grant, M_refused, M_denied, M_done, M_granted, u2_same, u2_ne, u2_u2, upd_same, upd_ne, aW0, ixR_z, ixR_1, M_isWall, M_isPainter, M_isWork, X_has4, X_has10, X_at, or_false, false_or, or_true, true_or, not_true, not_false_iff, Option.isSome_some, isO_d, gI_d, gA_d, pI_d, ne_eq, not_false_eq_true, u2_hi, u2_hj, u2_dyn, u2_dynj, Nat.reduceAdd, mX_r, mX_rD, mX_rDj, mM_r, mX_u, mX_uM, mX_uD, mX_uDj, mM_u, mM_uX, mM_uD, mM_uDj, u2_dd, u2_d0, u2_0d]
      rcases ih (w + 1) (by omega) I c st wt hc9 (by omega) h1 h2 hC hS h6 h61 h7 hWT with ⟨c2, st2, wt2, I2, z1, z2, z3, z4, z5, z6, z7, z8, z9⟩ | ⟨c2, I2, z1, z2, z3, z4, z5⟩
      · refine Or.inl ⟨c2, st2, wt2, I2, z1, z2, z3, z4, z5, z6, z7, ?_, ?_⟩
        · intro J fu hfu
          obtain ⟨fu, rfl⟩ : ∃ z, fu = z + 1 := ⟨fu - 1, by omega⟩
          rw [stepX J fu]; exact z8 J fu (by omega)
        · intro J E' L' P' nx' us' fu hfu
          obtain ⟨fu, rfl⟩ : ∃ z, fu = z + 1 := ⟨fu - 1, by omega⟩
          rw [stepM J E' L' P' nx' us' fu]; exact z9 J E' L' P' nx' us' fu (by omega)
      · refine Or.inr ⟨c2, I2, z1, z2, z3, ?_, ?_⟩
        · intro J fu hfu
          obtain ⟨fu, rfl⟩ : ∃ z, fu = z + 1 := ⟨fu - 1, by omega⟩
          rw [stepX J fu]; exact z4 J fu (by omega)
        · intro J E' L' P' nx' us' fu hfu
          obtain ⟨fu, rfl⟩ : ∃ z, fu = z + 1 := ⟨fu - 1, by omega⟩
          rw [stepM J E' L' P' nx' us' fu]; exact z5 J E' L' P' nx' us' fu (by omega)
    · by_cases hc : c = 9
      · -- a tenth wall
        subst hc
        have h9 : I 33 6 = 9 := h6
        let I1 : Nat → Nat → Int32 := u2 I 33 (upd (I 33) 7 (I 33 7 ||| (I 79 w &&& th)))
        obtain ⟨c2, wt2, y1, y2, y3⟩ := X_more (b := b) (F := F) (E := E) (L := L) (P := P) (nx := nx) (us := us) (th := th) h16 hA m (w + 1) (by omega) I1 10 (by omega) (by simp (decide := true) only [I1, u2_same, u2_ne, u2_u2, upd_same, upd_ne, mE, u2_dyn, dyn_u2, dyn_hi, u2_hi, u2_hj, u2_dynj, u2_dd, u2_d0, u2_0d]; exact h1) (by simp (decide := true) only [I1, u2_same, u2_ne, u2_u2, upd_same, upd_ne, mE, u2_dyn, dyn_u2, dyn_hi, u2_hi, u2_hj, u2_dynj, u2_dd, u2_d0, u2_0d]; exact h9)
        refine Or.inr ⟨c2, u2 I1 33 (upd (I1 33) 7 wt2), y1, by omega, ⟨?_, ?_, ?_⟩, ?_, ?_⟩
        · intro c' d1 d2 d3 d4
          show u2 (u2 I 33 _) 33 _ c' = _
          rw [u2_ne d1, u2_ne d1]
        · intro j d1 d2
          simp (decide := true) only [I1, u2_same, u2_ne, u2_u2, upd_same, upd_ne, mE, u2_dyn, dyn_u2, dyn_hi, u2_hi, u2_hj, u2_dynj, u2_dd, u2_d0, u2_0d]
          rw [upd_ne d2, upd_ne d2]
        · intro j d1
          simp (decide := true) only [I1, u2_same, u2_ne, u2_u2, upd_same, upd_ne, mE, u2_dyn, dyn_u2, dyn_hi, u2_hi, u2_hj, u2_dynj, u2_dd, u2_d0, u2_0d]
        · intro J fu hfu
          obtain ⟨fu, rfl⟩ : ∃ z, fu = z + 1 := ⟨fu - 1, by omega⟩
          rw [← y3 J fu (by omega)]
          have c4' := c4
          have e10 : Int32.ofNat 9 + 1 = Int32.ofNat 10 := rfl
          simp (decide := true) only [f_X6_findStops_14, f_X6_findStops_101, h1, e2, hwa, k0, c4, hz, h9, e10, oN_succ, I1, isO_s, gI_s, gA_s, gL_s, pI_s, pZ_s, pL_s, aI_s, aL_s, aN_s, aQ_s, sI_s, sL_s, cr, LNs, Option.map_some, Option.map_none, Option.bind_some, b2, tr, lt, if_true, if_false, ckZ, X_within, M_in, inR_z, X_refuse, X_tell, X_deny, X_grant, M_refused, M_denied, M_done, M_granted, u2_same, u2_ne, u2_u2, upd_same, upd_ne, aW0, ixR_z, ixR_1, M_isWall, M_isPainter, M_isWork, X_has4, X_has10, X_at, or_false, false_or, or_true, true_or, not_true, not_false_iff, Option.isSome_some, isO_d, gI_d, gA_d, pI_d, ne_eq, not_false_eq_true, u2_hi, u2_hj, u2_dyn, u2_dynj, Nat.reduceAdd, mX_r, mX_rD, mX_rDj, mM_r, mX_u, mX_uM, mX_uD, mX_uDj, mM_u, mM_uX, mM_uD, mM_uDj, u2_dd, u2_d0, u2_0d]
        · intro J E' L' P' nx' us' fu hfu
          obtain ⟨fu, rfl⟩ : ∃ z, fu = z + 1 := ⟨fu - 1, by omega⟩
          have hmm : mM J (u2 I1 33 (upd (I1 33) 7 wt2)) = mM J I := by
            show mM J (u2 (u2 I 33 _) 33 _) = _
            rw [mM_uX (by decide), mM_uX (by decide)]
          rw [hmm]
          exact M_tenth h16 hwn (by rw [mM_r (by decide)]; exact h2) (by rw [mM_r (by decide)]; exact hz) (by rw [mM_r (by decide)]; exact h61)
      · have hc8 : c < 9 := by omega
        let I1 : Nat → Nat → Int32 := u2 (u2 (u2 (u2 I 37 (upd (I 37) c (Int32.ofNat w))) 33 (upd (upd (I 33) 7 (wt ||| (I 79 w &&& th))) 6 (Int32.ofNat (c + 1)))) 142 (upd (I 142) c (Int32.ofNat w))) 72 (upd (I 72) 101 (Int32.ofNat (c + 1)))
        have e9 : iN (Int32.ofNat c) 9 = some c := iN_oN hc8 (by omega)
        have el9 : ((9 : Int32) ≤ Int32.ofNat c) = False := oN_leF (c := 9) hc8 (by omega)
        have en9 : (Int32.ofNat c = 9) = False := oN_ne (c := 9) hc (by omega) (by omega)
        have hcm : ∀ (A : Nat → RW) (f : RW) (g : RW), u2 (u2 A 33 g) 37 f = u2 (u2 A 37 f) 33 g := fun A f g => u2_cm (by decide)
        have stepX : ∀ (J : Nat → Nat → Int32) (fu : Nat), f_X6_findStops_14 (fu + 1) (ad b 33) th (Int32.ofNat c) (Int32.ofNat w) (lay b F E (mX J I) L P nx us) = f_X6_findStops_14 fu (ad b 33) th (Int32.ofNat (c + 1)) (Int32.ofNat (w + 1)) (lay b F E (mX J I1) L P nx us) := by
          intro J fu
          simp (decide := true) only [f_X6_findStops_14, f_X6_findStops_101, h1, e2, hwa, k0, c4, hz, h6, h7, el9, e9, oN_succ, I1, hcm, isO_s, gI_s, gA_s, gL_s, pI_s, pZ_s, pL_s, aI_s, aL_s, aN_s, aQ_s, sI_s, sL_s, cr, LNs, Option.map_some, Option.map_none, Option.bind_some, b2, tr, lt, if_true, if_false, ckZ, X_within, M_in, inR_z, X_refuse, X_tell, X_deny, X_grant, M_refused, M_denied, M_done, M_granted, u2_same, u2_ne, u2_u2, upd_same, upd_ne, aW0, ixR_z, ixR_1, M_isWall, M_isPainter, M_isWork, X_has4, X_has10, X_at, or_false, false_or, or_true, true_or, not_true, not_false_iff, Option.isSome_some, isO_d, gI_d, gA_d, pI_d, ne_eq, not_false_eq_true, u2_hi, u2_hj, u2_dyn, u2_dynj, Nat.reduceAdd, mX_r, mX_rD, mX_rDj, mM_r, mX_u, mX_uM, mX_uD, mX_uDj, mM_u, mM_uX, mM_uD, mM_uDj, u2_dd, u2_d0, u2_0d]
        have stepM : ∀ (J : Nat → Nat → Int32) (E' : Nat → Option KD) (L' : Nat → Nat → Int64) (P' : Nat → Nat → Option Nat) (nx' us' fu : Nat), f_X15_trail_31 (fu + 1) (ad b 72) th wt (Int32.ofNat w) (lay b F E' (mM J I) L' P' nx' us') = f_X15_trail_31 fu (ad b 72) th (wt ||| (I 79 w &&& th)) (Int32.ofNat (w + 1)) (lay b F E' (mM J I1) L' P' nx' us') := by
          intro J E' L' P' nx' us' fu
          simp (decide := true) only [f_X15_trail_31, f_X15_trail_100, h2, e2, e16, hz, h61, en9, e9, oN_succ, I1, isO_s, gI_s, gA_s, gL_s, pI_s, pZ_s, pL_s, aI_s, aL_s, aN_s, aQ_s, sI_s, sL_s, cr, LNs, Option.map_some, Option.map_none, Option.bind_some, b2, tr, lt, if_true, if_false, ckZ, X_within, M_in, inR_z, X_refuse, X_tell, X_deny, X_grant, M_refused, M_denied, M_done, M_granted, u2_same, u2_ne, u2_u2, upd_same, upd_ne, aW0, ixR_z, ixR_1, M_isWall, M_isPainter, M_isWork, X_has4, X_has10, X_at, or_false, false_or, or_true, true_or, not_true, not_false_iff, Option.isSome_some, isO_d, gI_d, gA_d, pI_d, ne_eq, not_false_eq_true, u2_hi, u2_hj, u2_dyn, u2_dynj, Nat.reduceAdd, mX_r, mX_rD, mX_rDj, mM_r, mX_u, mX_uM, mX_uD, mX_uDj, mM_u, mM_uX, mM_uD, mM_uDj, u2_dd, u2_d0, u2_0d]
        have hSF : SF I I1 := by
          refine ⟨?_, ?_, ?_⟩
          · intro c' d1 d2 d3 d4
            show u2 (u2 (u2 (u2 I 37 _) 33 _) 142 _) 72 _ c' = _
            rw [u2_ne d3, u2_ne d4, u2_ne d1, u2_ne d2]
          · intro j d1 d2
            simp (decide := true) only [I1, u2_same, u2_ne, u2_u2, upd_same, upd_ne, mE, u2_dyn, dyn_u2, dyn_hi, u2_hi, u2_hj, u2_dynj, u2_dd, u2_d0, u2_0d]
            rw [upd_ne d1, upd_ne d2]
          · intro j d1
            simp (decide := true) only [I1, u2_same, u2_ne, u2_u2, upd_same, upd_ne, mE, u2_dyn, dyn_u2, dyn_hi, u2_hi, u2_hj, u2_dynj, u2_dd, u2_d0, u2_0d]
            rw [upd_ne d1]
        have hS1 : TS nw (c + 1) (fun k => if k = c then w else st k) (I1 37) (I1 142) := by
          refine ⟨by omega, ?_⟩
          simp (decide := true) only [I1, u2_same, u2_ne, u2_u2, upd_same, upd_ne, mE, u2_dyn, dyn_u2, dyn_hi, u2_hi, u2_hj, u2_dynj, u2_dd, u2_d0, u2_0d]
          intro k hk
          by_cases hkc : k = c
          · subst hkc
            rw [if_pos rfl, upd_same, upd_same]
            exact ⟨hwn, rfl, rfl⟩
          · rw [if_neg hkc, upd_ne hkc, upd_ne hkc]
            exact hS.2 k (by omega)
        have hW1 : WT (fun k => if k = c then w else st k) (I1 79) (wt ||| (I 79 w &&& th)) (c + 1) := by
          have r79 : I1 79 = I 79 := by simp (decide := true) only [I1, u2_same, u2_ne, u2_u2, upd_same, upd_ne, mE, u2_dyn, dyn_u2, dyn_hi, u2_hi, u2_hj, u2_dynj, u2_dd, u2_d0, u2_0d]
          rw [r79]
          intro j hj hb
          rw [b_or, b_and] at hb
          cases hb1 : bt wt j
          · rw [hb1, Bool.false_or, Bool.and_eq_true] at hb
            exact ⟨c, by omega, by show bt (I 79 (if c = c then w else st c)) j = true; rw [if_pos rfl]; exact hb.1⟩
          · obtain ⟨k, hk, hkb⟩ := hWT j hj hb1
            exact ⟨k, by omega, by show bt (I 79 (if k = c then w else st k)) j = true; rw [if_neg (by omega)]; exact hkb⟩
        rcases ih (w + 1) (by omega) I1 (c + 1) (fun k => if k = c then w else st k) (wt ||| (I 79 w &&& th)) (by omega) (by omega) (by simp (decide := true) only [I1, u2_same, u2_ne, u2_u2, upd_same, upd_ne, mE, u2_dyn, dyn_u2, dyn_hi, u2_hi, u2_hj, u2_dynj, u2_dd, u2_d0, u2_0d]; exact h1) (by simp (decide := true) only [I1, u2_same, u2_ne, u2_u2, upd_same, upd_ne, mE, u2_dyn, dyn_u2, dyn_hi, u2_hi, u2_hj, u2_dynj, u2_dd, u2_d0, u2_0d]; exact h2) (by simp (decide := true) only [I1, u2_same, u2_ne, u2_u2, upd_same, upd_ne, mE, u2_dyn, dyn_u2, dyn_hi, u2_hi, u2_hj, u2_dynj, u2_dd, u2_d0, u2_0d]; exact hC) hS1 (by simp (decide := true) only [I1, u2_same, u2_ne, u2_u2, upd_same, upd_ne, mE, u2_dyn, dyn_u2, dyn_hi, u2_hi, u2_hj, u2_dynj, u2_dd, u2_d0, u2_0d]) (by simp (decide := true) only [I1, u2_same, u2_ne, u2_u2, upd_same, upd_ne, mE, u2_dyn, dyn_u2, dyn_hi, u2_hi, u2_hj, u2_dynj, u2_dd, u2_d0, u2_0d]) (by simp (decide := true) only [I1, u2_same, u2_ne, u2_u2, upd_same, upd_ne, mE, u2_dyn, dyn_u2, dyn_hi, u2_hi, u2_hj, u2_dynj, u2_dd, u2_d0, u2_0d]) hW1 with ⟨c2, st2, wt2, I2, z1, z2, z3, z4, z5, z6, z7, z8, z9⟩ | ⟨c2, I2, z1, z2, z3, z4, z5⟩
        · have r79 : I1 79 = I 79 := by simp (decide := true) only [I1, u2_same, u2_ne, u2_u2, upd_same, upd_ne, mE, u2_dyn, dyn_u2, dyn_hi, u2_hi, u2_hj, u2_dynj, u2_dd, u2_d0, u2_0d]
          refine Or.inl ⟨c2, st2, wt2, I2, z1, z2, z3, z4, z5, r79 ▸ z6, hSF.trans z7, ?_, ?_⟩
          · intro J fu hfu
            obtain ⟨fu, rfl⟩ : ∃ z, fu = z + 1 := ⟨fu - 1, by omega⟩
            rw [stepX J fu]; exact z8 J fu (by omega)
          · intro J E' L' P' nx' us' fu hfu
            obtain ⟨fu, rfl⟩ : ∃ z, fu = z + 1 := ⟨fu - 1, by omega⟩
            rw [stepM J E' L' P' nx' us' fu]; exact z9 J E' L' P' nx' us' fu (by omega)
        · refine Or.inr ⟨c2, I2, z1, z2, hSF.trans z3, ?_, ?_⟩
          · intro J fu hfu
            obtain ⟨fu, rfl⟩ : ∃ z, fu = z + 1 := ⟨fu - 1, by omega⟩
            rw [stepX J fu]; exact z4 J fu (by omega)
          · intro J E' L' P' nx' us' fu hfu
            obtain ⟨fu, rfl⟩ : ∃ z, fu = z + 1 := ⟨fu - 1, by omega⟩
            rw [stepM J E' L' P' nx' us' fu]; exact z5 J E' L' P' nx' us' fu (by omega)
end TRL4
