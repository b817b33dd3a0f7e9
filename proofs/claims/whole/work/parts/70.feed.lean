/-! ===== feed ===== -/
def byW (v : Int32) (s : Nat) : Int32 := aW 1 ((v >>> (Int32.ofNat s &&& 31)).toInt8.toInt32)
theorem aW1_rng (x : Int32) : -128 ≤ aW 1 x ∧ aW 1 x ≤ 127 := by
  have h : aW 1 x = x.toInt8.toInt32 := rfl
  rw [h, Int32.le_iff_toInt_le, Int32.le_iff_toInt_le, Int8.toInt_toInt32]
  have h1 := Int8.le_toInt x.toInt8
  have h2 := Int8.toInt_lt x.toInt8
  have e1 : (-128 : Int32).toInt = -128 := by decide
  have e2 : (127 : Int32).toInt = 127 := by decide
  omega
def p4 (r : RW) (t : Nat) (v : Int32) : RW := upd (upd (upd (upd r t (byW v 24)) (t + 1) (byW v 16)) (t + 2) (byW v 8)) (t + 3) (byW v 0)
theorem p4_eq {r : RW} {t : Nat} {v : Int32} (j : Nat) : p4 r t v j = if t ≤ j ∧ j < t + 4 then byW v (24 - 8 * (j - t)) else r j := by
  unfold p4
  by_cases h : t ≤ j ∧ j < t + 4
  · rw [if_pos h]
    have : j = t ∨ j = t + 1 ∨ j = t + 2 ∨ j = t + 3 := by omega
    rcases this with rfl | rfl | rfl | rfl
    · rw [upd_ne (by omega), upd_ne (by omega), upd_ne (by omega), upd_same]; congr 1; omega
    · rw [upd_ne (by omega), upd_ne (by omega), upd_same]; congr 1; omega
    · rw [upd_ne (by omega), upd_same]; congr 1; omega
    · rw [upd_same]; congr 1; omega
  · rw [if_neg h, upd_ne (by omega), upd_ne (by omega), upd_ne (by omega), upd_ne (by omega)]
def selF (a c d e f : Int32) (k : Nat) : Int32 := if k < 4 then a else if k < 8 then c else if k < 12 then d else if k < 16 then e else f
/-- the general run, where all of the state may change -/
def RunG (b : Nat) (F : Nat → Option AE) (fX fM : AH → Option (Int32 × AH)) (E : Nat → Option KD) (I : Nat → Nat → Int32) (L : Nat → Nat → Int64) (P : Nat → Nat → Option Nat) (nx us : Nat) (E2 : Nat → Option KD) (I2 : Nat → Nat → Int32) (L2 : Nat → Nat → Int64) (P2 : Nat → Nat → Option Nat) (nx2 us2 : Nat) : Prop :=
  ∃ (v : Int32) (E1 : Nat → Option KD) (I1 : Nat → Nat → Int32) (L1 : Nat → Nat → Int64) (P1 : Nat → Nat → Option Nat) (nx1 us1 : Nat), fX (lay b F E I L P nx us) = some (v, lay b F E1 I1 L1 P1 nx1 us1) ∧ fM (lay b F E1 I1 L1 P1 nx1 us1) = some (v, lay b F E2 I2 L2 P2 nx2 us2)
section FEED
variable {b : Nat} {F : Nat → Option AE} {D E : Nat → Option KD} {I : Nat → Nat → Int32} {L : Nat → Nat → Int64} {P : Nat → Nat → Option Nat} {nx us : Nat}
theorem X_put {t : Nat} (v : Int32) (ht : t ≤ 396) (h : I 0 6 = Int32.ofNat t) : f_X11_putBytes (ad b 0) v (lay b F E I L P nx us) = some (lay b F E (u2 (u2 I 39 (p4 (I 39) t v)) 0 (upd (I 0) 6 (Int32.ofNat (t + 4)))) L P nx us) := by
  have a1 := oN_leF (show t < 400 by omega) (by omega)
  have a2 := oN_leF (show t + 1 < 400 by omega) (by omega)
  have a3 := oN_leF (show t + 1 + 1 < 400 by omega) (by omega)
  have a4 := oN_leF (show t + 1 + 1 + 1 < 400 by omega) (by omega)
  have i1 : iN (Int32.ofNat t) 400 = some t := iN_oN (by omega) (by omega)
  have i2 : iN (Int32.ofNat (t + 1)) 400 = some (t + 1) := iN_oN (by omega) (by omega)
  have i3 : iN (Int32.ofNat (t + 1 + 1)) 400 = some (t + 1 + 1) := iN_oN (by omega) (by omega)
  have i4 : iN (Int32.ofNat (t + 1 + 1 + 1)) 400 = some (t + 1 + 1 + 1) := iN_oN (by omega) (by omega)
  have q1 : (24 : Int32) + (-8) = 16 := by decide
  have q2 : (16 : Int32) + (-8) = 8 := by decide
  have q3 : (8 : Int32) + (-8) = 0 := by decide
  have q4 : (0 : Int32) + (-8) = -8 := by decide
  have hu : ∀ (r : RW) (x y : Int32), upd (upd r 6 x) 6 y = upd r 6 y := by intro r x y; funext j; unfold upd; split <;> rfl
  have hc : ∀ (A : Nat → RW) (f : RW) (g : RW), u2 (u2 A 0 g) 39 f = u2 (u2 A 39 f) 0 g := fun A f g => u2_cm (by decide)
  have key : ∀ z : Nat, f_X11_putBytes_3 (z + 1 + 1 + 1 + 1 + 1) (ad b 0) v 24 (lay b F E I L P nx us) = some (lay b F E (u2 (u2 I 39 (p4 (I 39) t v)) 0 (upd (I 0) 6 (Int32.ofNat (t + 4)))) L P nx us) := by
    intro z
    simp (decide := true) only [f_X11_putBytes_3, f_X11_putBytes_48, h, a1, a2, a3, a4, i1, i2, i3, i4, q1, q2, q3, q4, oN_succ, hu, hc, isO_s, gI_s, gA_s, gL_s, pI_s, pZ_s, pL_s, aI_s, aL_s, aN_s, aQ_s, sI_s, sL_s, cr, LNs, Option.map_some, Option.map_none, Option.bind_some, b2, tr, lt, if_true, if_false, ckZ, X_within, M_in, inR_z, X_refuse, X_tell, X_deny, X_grant, M_refused, M_denied, M_done, M_granted, u2_same, u2_ne, u2_u2, upd_same, upd_ne, aW0, ixR_z, ixR_1, M_isWall, M_isPainter, M_isWork, X_has4, X_has10, X_at, or_false, false_or, or_true, true_or, not_true, not_false_iff, Option.isSome_some, isO_d, gI_d, gA_d, pI_d, ne_eq, not_false_eq_true, u2_hi, u2_hj, u2_dyn, u2_dynj, mX_r, mX_rD, mX_rDj, mM_r, mX_u, mX_uM, mX_uD, mX_uDj, mM_u, mM_uX, mM_uD, mM_uDj, u2_dd, u2_d0, u2_0d]
    rfl
  simp (decide := true) only [f_X11_putBytes_48, f_X11_putBytes, isO_s, gI_s, gA_s, gL_s, pI_s, pZ_s, pL_s, aI_s, aL_s, aN_s, aQ_s, sI_s, sL_s, cr, LNs, Option.map_some, Option.map_none, Option.bind_some, b2, tr, lt, if_true, if_false, ckZ, X_within, M_in, inR_z, X_refuse, X_tell, X_deny, X_grant, M_refused, M_denied, M_done, M_granted, u2_same, u2_ne, u2_u2, upd_same, upd_ne, aW0, ixR_z, ixR_1, M_isWall, M_isPainter, M_isWork, X_has4, X_has10, X_at, or_false, false_or, or_true, true_or, not_true, not_false_iff, Option.isSome_some, isO_d, gI_d, gA_d, pI_d, ne_eq, not_false_eq_true, u2_hi, u2_hj, u2_dyn, u2_dynj, Nat.reduceAdd, mX_r, mX_rD, mX_rDj, mM_r, mX_u, mX_uM, mX_uD, mX_uDj, mM_u, mM_uX, mM_uD, mM_uDj, u2_dd, u2_d0, u2_0d]
  exact key 3999995
theorem M_feedL {a c d e f : Int32} : ∀ (m k : Nat), k + m = 20 → ∀ (I : Nat → Nat → Int32) (t fu : Nat), m < fu → t + m ≤ 400 → I 72 25 = Int32.ofNat t → f_X15_feed_23 fu (ad b 72) a c d e f (Int32.ofNat k) (lay b F E I L P nx us) = some (Int32.ofNat (t + m), lay b F E (u2 (u2 I 91 (fun j => if t ≤ j ∧ j < t + m then byW (selF a c d e f (k + (j - t))) (24 - 8 * ((k + (j - t)) % 4)) else I 91 j)) 72 (upd (I 72) 25 (Int32.ofNat (t + m)))) L P nx us) := by
  intro m
  induction m with
  | zero =>
    intro k hk I t fu hfu ht h
    obtain ⟨fu, rfl⟩ : ∃ z, fu = z + 1 := ⟨fu - 1, by omega⟩
    have : k = 20 := by omega
    subst this
    have e1 : (fun j => if t ≤ j ∧ j < t + 0 then byW (selF a c d e f (20 + (j - t))) (24 - 8 * ((20 + (j - t)) % 4)) else I 91 j) = I 91 := by
      funext j; rw [if_neg (by omega)]
    rw [e1, u2_id]
    show _ = some (Int32.ofNat t, lay b F E (u2 I 72 (upd (I 72) 25 (Int32.ofNat t))) L P nx us)
    rw [upd_id h, u2_id]
    simp (decide := true) only [f_X15_feed_23, h, isO_s, gI_s, gA_s, gL_s, pI_s, pZ_s, pL_s, aI_s, aL_s, aN_s, aQ_s, sI_s, sL_s, cr, LNs, Option.map_some, Option.map_none, Option.bind_some, b2, tr, lt, if_true, if_false, ckZ, X_within, M_in, inR_z, X_refuse, X_tell, X_deny, X_grant, M_refused, M_denied, M_done, M_granted, u2_same, u2_ne, u2_u2, upd_same, upd_ne, aW0, ixR_z, ixR_1, M_isWall, M_isPainter, M_isWork, X_has4, X_has10, X_at, or_false, false_or, or_true, true_or, not_true, not_false_iff, Option.isSome_some, isO_d, gI_d, gA_d, pI_d, ne_eq, not_false_eq_true, u2_hi, u2_hj, u2_dyn, u2_dynj, Nat.reduceAdd, mX_r, mX_rD, mX_rDj, mM_r, mX_u, mX_uM, mX_uD, mX_uDj, mM_u, mM_uX, mM_uD, mM_uDj, u2_dd, u2_d0, u2_0d]
  | succ m ih =>
    intro k hk I t fu hfu ht h
    obtain ⟨fu, rfl⟩ : ∃ z, fu = z + 1 := ⟨fu - 1, by omega⟩
    have i1 : iN (Int32.ofNat t) 400 = some t := iN_oN (by omega) (by omega)
    have s1 : (24 : Int32) - 8 * (Int32.ofNat k - Int32.ofNat k / 4 * 4) = Int32.ofNat (24 - 8 * (k % 4)) := by
      rw [show Int32.ofNat k / 4 = Int32.ofNat (k / 4) from oN_div (c := 4) (by omega) (by omega), show (4 : Int32) = Int32.ofNat 4 from rfl, oN_mul, oN_sub (by omega), show (8 : Int32) = Int32.ofNat 8 from rfl, oN_mul, show (24 : Int32) = Int32.ofNat 24 from rfl, oN_sub (by omega)]
      congr 1; omega
    have c20 : ((20 : Int32) ≤ Int32.ofNat k) = False := oN_leF (c := 20) (by omega) (by omega)
    have hst : f_X15_feed_23 (fu + 1) (ad b 72) a c d e f (Int32.ofNat k) (lay b F E I L P nx us) = f_X15_feed_23 fu (ad b 72) a c d e f (Int32.ofNat (k + 1)) (lay b F E (u2 (u2 I 91 (upd (I 91) t (byW (selF a c d e f k) (24 - 8 * (k % 4))))) 72 (upd (I 72) 25 (Int32.ofNat (t + 1)))) L P nx us) := by
      unfold selF byW
      by_cases k4 : k < 4
      · have r4 : ((4 : Int32) ≤ Int32.ofNat k) = False := oN_leF (c := 4) k4 (by omega)
        simp (decide := true) only [f_X15_feed_23, f_X15_feed_76, c20, r4, k4, h, i1, s1, oN_succ, isO_s, gI_s, gA_s, gL_s, pI_s, pZ_s, pL_s, aI_s, aL_s, aN_s, aQ_s, sI_s, sL_s, cr, LNs, Option.map_some, Option.map_none, Option.bind_some, b2, tr, lt, if_true, if_false, ckZ, X_within, M_in, inR_z, X_refuse, X_tell, X_deny, X_grant, M_refused, M_denied, M_done, M_granted, u2_same, u2_ne, u2_u2, upd_same, upd_ne, aW0, ixR_z, ixR_1, M_isWall, M_isPainter, M_isWork, X_has4, X_has10, X_at, or_false, false_or, or_true, true_or, not_true, not_false_iff, Option.isSome_some, isO_d, gI_d, gA_d, pI_d, ne_eq, not_false_eq_true, u2_hi, u2_hj, u2_dyn, u2_dynj, Nat.reduceAdd, mX_r, mX_rD, mX_rDj, mM_r, mX_u, mX_uM, mX_uD, mX_uDj, mM_u, mM_uX, mM_uD, mM_uDj, u2_dd, u2_d0, u2_0d]
      · have r4 : ((4 : Int32) ≤ Int32.ofNat k) = True := eq_true (oN_leL (n := 4) (by omega) (by omega))
        by_cases k8 : k < 8
        · have r8 : ((8 : Int32) ≤ Int32.ofNat k) = False := oN_leF (c := 8) k8 (by omega)
          simp (decide := true) only [f_X15_feed_23, f_X15_feed_76, c20, r4, r8, k4, k8, h, i1, s1, oN_succ, isO_s, gI_s, gA_s, gL_s, pI_s, pZ_s, pL_s, aI_s, aL_s, aN_s, aQ_s, sI_s, sL_s, cr, LNs, Option.map_some, Option.map_none, Option.bind_some, b2, tr, lt, if_true, if_false, ckZ, X_within, M_in, inR_z, X_refuse, X_tell, X_deny, X_grant, M_refused, M_denied, M_done, M_granted, u2_same, u2_ne, u2_u2, upd_same, upd_ne, aW0, ixR_z, ixR_1, M_isWall, M_isPainter, M_isWork, X_has4, X_has10, X_at, or_false, false_or, or_true, true_or, not_true, not_false_iff, Option.isSome_some, isO_d, gI_d, gA_d, pI_d, ne_eq, not_false_eq_true, u2_hi, u2_hj, u2_dyn, u2_dynj, Nat.reduceAdd, mX_r, mX_rD, mX_rDj, mM_r, mX_u, mX_uM, mX_uD, mX_uDj, mM_u, mM_uX, mM_uD, mM_uDj, u2_dd, u2_d0, u2_0d]
        · have r8 : ((8 : Int32) ≤ Int32.ofNat k) = True := eq_true (oN_leL (n := 8) (by omega) (by omega))
          by_cases k12 : k < 12
          · have r12 : ((12 : Int32) ≤ Int32.ofNat k) = False := oN_leF (c := 12) k12 (by omega)
            simp (decide := true) only [f_X15_feed_23, f_X15_feed_76, c20, r4, r8, r12, k4, k8, k12, h, i1, s1, oN_succ, isO_s, gI_s, gA_s, gL_s, pI_s, pZ_s, pL_s, aI_s, aL_s, aN_s, aQ_s, sI_s, sL_s, cr, LNs, Option.map_some, Option.map_none, Option.bind_some, b2, tr, lt, if_true, if_false, ckZ, X_within, M_in, inR_z, X_refuse, X_tell, X_deny, X_grant, M_refused, M_denied, M_done, M_granted, u2_same, u2_ne, u2_u2, upd_same, upd_ne, aW0, ixR_z, ixR_1, M_isWall, M_isPainter, M_isWork, X_has4, X_has10, X_at, or_false, false_or, or_true, true_or, not_true, not_false_iff, Option.isSome_some, isO_d, gI_d, gA_d, pI_d, ne_eq, not_false_eq_true, u2_hi, u2_hj, u2_dyn, u2_dynj, Nat.reduceAdd, mX_r, mX_rD, mX_rDj, mM_r, mX_u, mX_uM, mX_uD, mX_uDj, mM_u, mM_uX, mM_uD, mM_uDj, u2_dd, u2_d0, u2_0d]
          · have r12 : ((12 : Int32) ≤ Int32.ofNat k) = True := eq_true (oN_leL (n := 12) (by omega) (by omega))
            by_cases k16 : k < 16
            · have r16 : ((16 : Int32) ≤ Int32.ofNat k) = False := oN_leF (c := 16) k16 (by omega)
              simp (decide := true) only [f_X15_feed_23, f_X15_feed_76, c20, r4, r8, r12, r16, k4, k8, k12, k16, h, i1, s1, oN_succ, isO_s, gI_s, gA_s, gL_s, pI_s, pZ_s, pL_s, aI_s, aL_s, aN_s, aQ_s, sI_s, sL_s, cr, LNs, Option.map_some, Option.map_none, Option.bind_some, b2, tr, lt, if_true, if_false, ckZ, X_within, M_in, inR_z, X_refuse, X_tell, X_deny, X_grant, M_refused, M_denied, M_done, M_granted, u2_same, u2_ne, u2_u2, upd_same, upd_ne, aW0, ixR_z, ixR_1, M_isWall, M_isPainter, M_isWork, X_has4, X_has10, X_at, or_false, false_or, or_true, true_or, not_true, not_false_iff, Option.isSome_some, isO_d, gI_d, gA_d, pI_d, ne_eq, not_false_eq_true, u2_hi, u2_hj, u2_dyn, u2_dynj, Nat.reduceAdd, mX_r, mX_rD, mX_rDj, mM_r, mX_u, mX_uM, mX_uD, mX_uDj, mM_u, mM_uX, mM_uD, mM_uDj, u2_dd, u2_d0, u2_0d]
            · have r16 : ((16 : Int32) ≤ Int32.ofNat k) = True := eq_true (oN_leL (n := 16) (by omega) (by omega))
              simp (decide := true) only [f_X15_feed_23, f_X15_feed_76, c20, r4, r8, r12, r16, k4, k8, k12, k16, h, i1, s1, oN_succ, isO_s, gI_s, gA_s, gL_s, pI_s, pZ_s, pL_s, aI_s, aL_s, aN_s, aQ_s, sI_s, sL_s, cr, LNs, Option.map_some, Option.map_none, Option.bind_some, b2, tr, lt, if_true, if_false, ckZ, X_within, M_in, inR_z, X_refuse, X_tell, X_deny, X_grant, M_refused, M_denied, M_done, M_granted, u2_same, u2_ne, u2_u2, upd_same, upd_ne, aW0, ixR_z, ixR_1, M_isWall, M_isPainter, M_isWork, X_has4, X_has10, X_at, or_false, false_or, or_true, true_or, not_true, not_false_iff, Option.isSome_some, isO_d, gI_d, gA_d, pI_d, ne_eq, not_false_eq_true, u2_hi, u2_hj, u2_dyn, u2_dynj, Nat.reduceAdd, mX_r, mX_rD, mX_rDj, mM_r, mX_u, mX_uM, mX_uD, mX_uDj, mM_u, mM_uX, mM_uD, mM_uDj, u2_dd, u2_d0, u2_0d]
    rw [hst]
    have := ih (k + 1) (by omega) (u2 (u2 I 91 (upd (I 91) t (byW (selF a c d e f k) (24 - 8 * (k % 4))))) 72 (upd (I 72) 25 (Int32.ofNat (t + 1)))) (t + 1) fu (by omega) (by omega) (by simp (decide := true) only [u2_same, u2_ne, u2_u2, upd_same, upd_ne, mE, u2_dyn, dyn_u2, dyn_hi, u2_hi, u2_hj, u2_dynj, u2_dd, u2_d0, u2_0d])
    rw [this]
    simp (decide := true) only [u2_same, u2_ne, ne_eq]
    rw [show t + 1 + m = t + (m + 1) by omega, u2_cm (show 72 ≠ 91 by decide), u2_u2, u2_u2]
    have er : (fun j => if t + 1 ≤ j ∧ j < t + (m + 1) then byW (selF a c d e f (k + 1 + (j - (t + 1)))) (24 - 8 * ((k + 1 + (j - (t + 1))) % 4)) else upd (I 91) t (byW (selF a c d e f k) (24 - 8 * (k % 4))) j) = (fun j => if t ≤ j ∧ j < t + (m + 1) then byW (selF a c d e f (k + (j - t))) (24 - 8 * ((k + (j - t)) % 4)) else I 91 j) := by
      funext j
      by_cases hz : j = t
      · subst hz
        rw [if_neg (by omega), if_pos (by omega), upd_same, Nat.sub_self, Nat.add_zero]
      · rw [upd_ne hz]
        by_cases hj : t + 1 ≤ j ∧ j < t + (m + 1)
        · rw [if_pos hj, if_pos (by omega), show k + 1 + (j - (t + 1)) = k + (j - t) by omega]
        · rw [if_neg hj, if_neg (by omega)]
    have eu : upd (upd (I 72) 25 (Int32.ofNat (t + 1))) 25 (Int32.ofNat (t + (m + 1))) = upd (I 72) 25 (Int32.ofNat (t + (m + 1))) := by funext j; unfold upd; split <;> rfl
    rw [er, eu]
theorem call_feed (a c d e f : Int32) {tp : Nat} (hT : GTI I) (hn : Cn tp 400 (I 0 6) (I 72 25)) (hG : GTap (I 39) (I 91)) : ∃ I2 tp2, Run b F E L P nx us (f_X11_feed (ad b 0) a c d e f) (f_X15_feed (ad b 72) a c d e f) I I2 ∧ GTI I2 ∧ Cn tp2 400 (I2 0 6) (I2 72 25) ∧ GTap (I2 39) (I2 91) ∧ Fr I I2 [(0, 6), (72, 0), (72, 25)] [39, 91] := by
  obtain ⟨h1, h2, h3⟩ := hn
  have e20 : Int32.ofNat tp + 20 = Int32.ofNat (tp + 20) := oN_add tp 20
  by_cases hc : tp + 20 ≤ 400
  · have c1 : (Int32.ofNat (tp + 20) ≤ 400) = True := eq_true (oN_leL hc (by decide))
    have p1 := X_put (b := b) (F := F) (E := E) (L := L) (P := P) (nx := nx) (us := us) (I := I) (t := tp) a (by omega) h2
    have p2 := X_put (b := b) (F := F) (E := E) (L := L) (P := P) (nx := nx) (us := us) (I := u2 (u2 I 39 (p4 (I 39) tp a)) 0 (upd (I 0) 6 (Int32.ofNat (tp + 4)))) (t := tp + 4) c (by omega) (by simp (decide := true) only [u2_same, u2_ne, u2_u2, upd_same, upd_ne, mE, u2_dyn, dyn_u2, dyn_hi, u2_hi, u2_hj, u2_dynj, u2_dd, u2_d0, u2_0d])
    have hu : ∀ (r : RW) (x y : Int32), upd (upd r 6 x) 6 y = upd r 6 y := by intro r x y; funext j; unfold upd; split <;> rfl
    have hc' : ∀ (A : Nat → RW) (f : RW) (g : RW), u2 (u2 A 0 g) 39 f = u2 (u2 A 39 f) 0 g := fun A f g => u2_cm (by decide)
    simp (decide := true) only [u2_same, u2_ne, u2_u2, ne_eq, hu, hc'] at p2
    have p3 := X_put (b := b) (F := F) (E := E) (L := L) (P := P) (nx := nx) (us := us) (I := u2 (u2 I 39 (p4 (p4 (I 39) tp a) (tp + 4) c)) 0 (upd (I 0) 6 (Int32.ofNat (tp + 4 + 4)))) (t := tp + 4 + 4) d (by omega) (by simp (decide := true) only [u2_same, u2_ne, u2_u2, upd_same, upd_ne, mE, u2_dyn, dyn_u2, dyn_hi, u2_hi, u2_hj, u2_dynj, u2_dd, u2_d0, u2_0d])
    simp (decide := true) only [u2_same, u2_ne, u2_u2, ne_eq, hu, hc'] at p3
    have p4' := X_put (b := b) (F := F) (E := E) (L := L) (P := P) (nx := nx) (us := us) (I := u2 (u2 I 39 (p4 (p4 (p4 (I 39) tp a) (tp + 4) c) (tp + 4 + 4) d)) 0 (upd (I 0) 6 (Int32.ofNat (tp + 4 + 4 + 4)))) (t := tp + 4 + 4 + 4) e (by omega) (by simp (decide := true) only [u2_same, u2_ne, u2_u2, upd_same, upd_ne, mE, u2_dyn, dyn_u2, dyn_hi, u2_hi, u2_hj, u2_dynj, u2_dd, u2_d0, u2_0d])
    simp (decide := true) only [u2_same, u2_ne, u2_u2, ne_eq, hu, hc'] at p4'
    have p5 := X_put (b := b) (F := F) (E := E) (L := L) (P := P) (nx := nx) (us := us) (I := u2 (u2 I 39 (p4 (p4 (p4 (p4 (I 39) tp a) (tp + 4) c) (tp + 4 + 4) d) (tp + 4 + 4 + 4) e)) 0 (upd (I 0) 6 (Int32.ofNat (tp + 4 + 4 + 4 + 4)))) (t := tp + 4 + 4 + 4 + 4) f (by omega) (by simp (decide := true) only [u2_same, u2_ne, u2_u2, upd_same, upd_ne, mE, u2_dyn, dyn_u2, dyn_hi, u2_hi, u2_hj, u2_dynj, u2_dd, u2_d0, u2_0d])
    simp (decide := true) only [u2_same, u2_ne, u2_u2, ne_eq, hu, hc'] at p5
    let r39 : RW := p4 (p4 (p4 (p4 (p4 (I 39) tp a) (tp + 4) c) (tp + 4 + 4) d) (tp + 4 + 4 + 4) e) (tp + 4 + 4 + 4 + 4) f
    have hm := M_feedL (b := b) (F := F) (E := E) (L := L) (P := P) (nx := nx) (us := us) (a := a) (c := c) (d := d) (e := e) (f := f) 20 0 (by omega) (u2 (u2 (u2 I 39 r39) 0 (upd (I 0) 6 (Int32.ofNat (tp + 4 + 4 + 4 + 4 + 4)))) 72 (upd (I 72) 0 0)) tp FU (by unfold FU; omega) (by omega) (by simp (decide := true) only [u2_same, u2_ne, u2_u2, upd_same, upd_ne, mE, u2_dyn, dyn_u2, dyn_hi, u2_hi, u2_hj, u2_dynj, u2_dd, u2_d0, u2_0d]; exact h3)
    simp (decide := true) only [u2_same, u2_ne, ne_eq] at hm
    have hm' : f_X15_feed_23 FU (ad b 72) a c d e f 0 _ = _ := hm
    apply Exists.intro
    refine ⟨tp + 20, ?_, ?_, ?_, ?_, ?_⟩
    · refine ⟨Int32.ofNat (tp + 20), u2 (u2 I 39 r39) 0 (upd (I 0) 6 (Int32.ofNat (tp + 4 + 4 + 4 + 4 + 4))), ?_, ?_⟩
      · simp (decide := true) only [f_X11_feed, h2, e20, c1, p1, p2, p3, p4', p5, isO_s, gI_s, gA_s, gL_s, pI_s, pZ_s, pL_s, aI_s, aL_s, aN_s, aQ_s, sI_s, sL_s, cr, LNs, Option.map_some, Option.map_none, Option.bind_some, b2, tr, lt, if_true, if_false, ckZ, X_within, M_in, inR_z, X_refuse, X_tell, X_deny, X_grant, M_refused, M_denied, M_done, M_granted, u2_same, u2_ne, u2_u2, upd_same, upd_ne, aW0, ixR_z, ixR_1, M_isWall, M_isPainter, M_isWork, X_has4, X_has10, X_at, or_false, false_or, or_true, true_or, not_true, not_false_iff, Option.isSome_some, isO_d, gI_d, gA_d, pI_d, ne_eq, not_false_eq_true, u2_hi, u2_hj, u2_dyn, u2_dynj, mX_r, mX_rD, mX_rDj, mM_r, mX_u, mX_uM, mX_uD, mX_uDj, mM_u, mM_uX, mM_uD, mM_uDj, u2_dd, u2_d0, u2_0d]
        rfl
      · simp (decide := true) only [f_X15_feed_76, f_X15_feed, h3, e20, c1, hm', isO_s, gI_s, gA_s, gL_s, pI_s, pZ_s, pL_s, aI_s, aL_s, aN_s, aQ_s, sI_s, sL_s, cr, LNs, Option.map_some, Option.map_none, Option.bind_some, b2, tr, lt, if_true, if_false, ckZ, X_within, M_in, inR_z, X_refuse, X_tell, X_deny, X_grant, M_refused, M_denied, M_done, M_granted, u2_same, u2_ne, u2_u2, upd_same, upd_ne, aW0, ixR_z, ixR_1, M_isWall, M_isPainter, M_isWork, X_has4, X_has10, X_at, or_false, false_or, or_true, true_or, not_true, not_false_iff, Option.isSome_some, isO_d, gI_d, gA_d, pI_d, ne_eq, not_false_eq_true, u2_hi, u2_hj, u2_dyn, u2_dynj, Nat.reduceAdd, mX_r, mX_rD, mX_rDj, mM_r, mX_u, mX_uM, mX_uD, mX_uDj, mM_u, mM_uX, mM_uD, mM_uDj, u2_dd, u2_d0, u2_0d]
        exact rfl
    · simp (decide := true) only [GTI, u2_same, u2_ne, u2_u2, upd_same, upd_ne, mE, u2_dyn, dyn_u2, dyn_hi, u2_hi, u2_hj, u2_dynj, u2_dd, u2_d0, u2_0d]
      exact hT
    · simp (decide := true) only [u2_same, u2_ne, u2_u2, upd_same, upd_ne, mE, u2_dyn, dyn_u2, dyn_hi, u2_hi, u2_hj, u2_dynj, u2_dd, u2_d0, u2_0d]
      exact ⟨hc, rfl, rfl⟩
    · simp (decide := true) only [u2_same, u2_ne, u2_u2, upd_same, upd_ne, mE, u2_dyn, dyn_u2, dyn_hi, u2_hi, u2_hj, u2_dynj, u2_dd, u2_d0, u2_0d]
      intro j hj
      simp only [r39]
      obtain ⟨g1, g2, g3⟩ := hG j hj
      by_cases hin : tp ≤ j ∧ j < tp + 20
      · rw [if_pos hin]
        refine ⟨?_, aW1_rng _⟩
        rw [p4_eq]
        unfold selF
        by_cases r5 : tp + 4 + 4 + 4 + 4 ≤ j ∧ j < tp + 4 + 4 + 4 + 4 + 4
        · rw [if_pos r5, if_neg (by omega), if_neg (by omega), if_neg (by omega), if_neg (by omega)]; congr 1; omega
        · rw [if_neg r5, p4_eq]
          by_cases r4 : tp + 4 + 4 + 4 ≤ j ∧ j < tp + 4 + 4 + 4 + 4
          · rw [if_pos r4, if_neg (by omega), if_neg (by omega), if_neg (by omega), if_pos (by omega)]; congr 1; omega
          · rw [if_neg r4, p4_eq]
            by_cases r3 : tp + 4 + 4 ≤ j ∧ j < tp + 4 + 4 + 4
            · rw [if_pos r3, if_neg (by omega), if_neg (by omega), if_pos (by omega)]; congr 1; omega
            · rw [if_neg r3, p4_eq]
              by_cases r2 : tp + 4 ≤ j ∧ j < tp + 4 + 4
              · rw [if_pos r2, if_neg (by omega), if_pos (by omega)]; congr 1; omega
              · rw [if_neg r2, p4_eq, if_pos (by omega), if_pos (by omega)]; congr 1; omega
      · rw [if_neg hin, p4_eq, if_neg (by omega), p4_eq, if_neg (by omega), p4_eq, if_neg (by omega), p4_eq, if_neg (by omega), p4_eq, if_neg (by omega)]
        exact ⟨g1, g2, g3⟩
    · exact (by repeat (first | exact Fr.refl _ _ _ | refine Fr.whole ?_ (by decide) | refine Fr.slot ?_ (fun k hk => by (try simp (decide := true) only [mE, u2_ne, u2_same, u2_u2]); repeat rw [upd_fr (by decide) hk])))
  · have c1 : (Int32.ofNat (tp + 20) ≤ 400) = False := oN_leF (a := 400) (by omega) (by omega)
    refine ⟨th I, tp, ⟨-1, I, ?_, ?_⟩, th_GT hT, ?_, ?_, ?_⟩
    · (simp (decide := true) only [f_X11_feed, h2, e20, c1, isO_s, gI_s, gA_s, gL_s, pI_s, pZ_s, pL_s, aI_s, aL_s, aN_s, aQ_s, sI_s, sL_s, cr, LNs, Option.map_some, Option.map_none, Option.bind_some, b2, tr, lt, if_true, if_false, ckZ, X_within, M_in, inR_z, X_refuse, X_tell, X_deny, X_grant, M_refused, M_denied, M_done, M_granted, u2_same, u2_ne, u2_u2, upd_same, upd_ne, aW0, ixR_z, ixR_1, M_isWall, M_isPainter, M_isWork, X_has4, X_has10, X_at, or_false, false_or, or_true, true_or, not_true, not_false_iff, Option.isSome_some, isO_d, gI_d, gA_d, pI_d, ne_eq, not_false_eq_true, u2_hi, u2_hj, u2_dyn, u2_dynj, Nat.reduceAdd, mX_r, mX_rD, mX_rDj, mM_r, mX_u, mX_uM, mX_uD, mX_uDj, mM_u, mM_uX, mM_uD, mM_uDj, u2_dd, u2_d0, u2_0d]; try exact rfl)
    · (simp (decide := true) only [f_X15_feed_76, f_X15_feed, h3, e20, c1, isO_s, gI_s, gA_s, gL_s, pI_s, pZ_s, pL_s, aI_s, aL_s, aN_s, aQ_s, sI_s, sL_s, cr, LNs, Option.map_some, Option.map_none, Option.bind_some, b2, tr, lt, if_true, if_false, ckZ, X_within, M_in, inR_z, X_refuse, X_tell, X_deny, X_grant, M_refused, M_denied, M_done, M_granted, u2_same, u2_ne, u2_u2, upd_same, upd_ne, aW0, ixR_z, ixR_1, M_isWall, M_isPainter, M_isWork, X_has4, X_has10, X_at, or_false, false_or, or_true, true_or, not_true, not_false_iff, Option.isSome_some, isO_d, gI_d, gA_d, pI_d, ne_eq, not_false_eq_true, u2_hi, u2_hj, u2_dyn, u2_dynj, Nat.reduceAdd, mX_r, mX_rD, mX_rDj, mM_r, mX_u, mX_uM, mX_uD, mX_uDj, mM_u, mM_uX, mM_uD, mM_uDj, u2_dd, u2_d0, u2_0d]; try exact rfl)
    · simp (decide := true) only [th, u2_same, u2_ne, u2_u2, upd_same, upd_ne, mE, u2_dyn, dyn_u2, dyn_hi, u2_hi, u2_hj, u2_dynj, u2_dd, u2_d0, u2_0d]; exact ⟨h1, h2, h3⟩
    · simp (decide := true) only [th, u2_same, u2_ne, u2_u2, upd_same, upd_ne, mE, u2_dyn, dyn_u2, dyn_hi, u2_hi, u2_hj, u2_dynj, u2_dd, u2_d0, u2_0d]; exact hG
    · unfold th
      exact (by repeat (first | exact Fr.refl _ _ _ | refine Fr.whole ?_ (by decide) | refine Fr.slot ?_ (fun k hk => by (try simp (decide := true) only [mE, u2_ne, u2_same, u2_u2]); repeat rw [upd_fr (by decide) hk])))
end FEED
