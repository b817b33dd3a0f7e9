/-! ===== led, sketched, sketchOf, unlike ===== -/
/-- the number of bits, as the JDK reckons it -/
def bcF (p1 : Int32) : Int32 :=
  let x1 := p1 - (((p1.toUInt32 >>> ((1 : Int32).toUInt32 &&& Int32.toUInt32 31)).toInt32) &&& 1431655765)
  let x2 := (x1 &&& 858993459) + (((x1.toUInt32 >>> ((2 : Int32).toUInt32 &&& Int32.toUInt32 31)).toInt32) &&& 858993459)
  let x3 := (x2 + ((x2.toUInt32 >>> ((4 : Int32).toUInt32 &&& Int32.toUInt32 31)).toInt32)) &&& 252645135
  let x4 := x3 + ((x3.toUInt32 >>> ((8 : Int32).toUInt32 &&& Int32.toUInt32 31)).toInt32)
  let x5 := x4 + ((x4.toUInt32 >>> ((16 : Int32).toUInt32 &&& Int32.toUInt32 31)).toInt32)
  x5 &&& 63
theorem J_bitCount (x : Int32) (h : AH) : f_J6_bitCount_0f7a4 x h = some (bcF x, h) := rfl
theorem bcF_12' : ∀ i, i < 64 → ∀ j, j < 64 → bcF (Int32.ofNat (64 * i + j)) = bcI (Int32.ofNat (64 * i + j)) 12 := by decide +kernel
theorem bcF_12 (n : Nat) (h : n < 4096) : bcF (Int32.ofNat n) = bcI (Int32.ofNat n) 12 := by
  have := bcF_12' (n / 64) (by omega) (n % 64) (Nat.mod_lt _ (by decide))
  rw [show 64 * (n / 64) + n % 64 = n by omega] at this
  exact this
theorem oN_m2 {k : Nat} (h : k < 2147483648) : ¬ Int32.ofNat k = -2 := by
  intro q
  have := congrArg Int32.toInt q
  rw [oN_toInt (by omega), show (-2 : Int32).toInt = -2 by decide] at this
  omega
theorem oN_m1 {k : Nat} (h : k < 2147483648) : ¬ Int32.ofNat k = -1 := by
  intro q
  have := congrArg Int32.toInt q
  rw [oN_toInt (by omega), show (-1 : Int32).toInt = -1 by decide] at this
  omega
section Q5
variable {b : Nat} {F : Nat → Option AE} {D E : Nat → Option KD} {I : Nat → Nat → Int32} {L : Nat → Nat → Int64} {P : Nat → Nat → Option Nat} {nx us : Nat}
theorem call_led (p x y v : Int32) {nw nk nt np nd td : Nat} {q wd hg ow : Nat → Nat} (hnk : Cn nk 40 (I 13 1) (I 72 76)) (hn : Cn nw 16 (I 1 1) (I 72 4)) (hA : WA nw q wd hg ow E (P 2)) (hW : WALL nw nk nt q wd hg I) (hK : GWrk nk nw np nd td (I 14) (I 15) (I 16) (I 17) (I 18) (I 20) (I 21) (I 22) (I 123) (I 124) (I 125) (I 126) (I 127) (I 128) (I 129) (I 130) (I 131)) : Run b F E L P nx us (f_X11_led (ad b 0) p x y v) (f_X15_led (ad b 72) p x y v) I (th I) := by
  obtain ⟨hB, hC, hD, hE, hF, hG, hH, hI, hU⟩ := hW
  rcases wallCase hn hA p with ⟨h1, h2⟩ | ⟨w, hw, rfl, h1, h2⟩
  · refine ⟨-1, I, ?_, ?_⟩
    · (simp (decide := true) only [f_X11_led_27, f_X11_led, h1, isO_s, gI_s, gA_s, gL_s, pI_s, pZ_s, pL_s, aI_s, aL_s, aN_s, aQ_s, sI_s, sL_s, cr, LNs, Option.map_some, Option.map_none, Option.bind_some, b2, tr, lt, if_true, if_false, ckZ, X_within, M_in, inR_z, X_refuse, X_tell, X_deny, X_grant, M_refused, M_denied, M_done, M_granted, u2_same, u2_ne, u2_u2, upd_same, upd_ne, aW0, ixR_z, ixR_1, M_isWall, M_isPainter, M_isWork, X_has4, X_has10, X_at, or_false, false_or, or_true, true_or, not_true, not_false_iff, Option.isSome_some, isO_d, gI_d, gA_d, pI_d, ne_eq, not_false_eq_true, u2_hi, u2_hj, u2_dyn, u2_dynj, Nat.reduceAdd]; try exact rfl)
    · (simp (decide := true) only [f_X15_led_95, f_X15_led_31, f_X15_led, f_X15_isOn_45, f_X15_isOn_44, f_X15_isOn, h2, isO_s, gI_s, gA_s, gL_s, pI_s, pZ_s, pL_s, aI_s, aL_s, aN_s, aQ_s, sI_s, sL_s, cr, LNs, Option.map_some, Option.map_none, Option.bind_some, b2, tr, lt, if_true, if_false, ckZ, X_within, M_in, inR_z, X_refuse, X_tell, X_deny, X_grant, M_refused, M_denied, M_done, M_granted, u2_same, u2_ne, u2_u2, upd_same, upd_ne, aW0, ixR_1, M_isWall, M_isPainter, M_isWork, X_has4, X_has10, X_at, or_false, false_or, or_true, true_or, not_true, not_false_iff, Option.isSome_some, isO_d, gI_d, gA_d, pI_d, ne_eq, not_false_eq_true, u2_hi, u2_hj, u2_dyn, u2_dynj, Nat.reduceAdd]; try exact rfl)
  obtain ⟨-, hKd, a1, a2, a3, a4, -, -⟩ := hA w hw
  obtain ⟨b1, b2', b3, b4⟩ := hB w hw
  obtain ⟨k0, k1, k2, k3, k4⟩ := WKk hKd
  have hx := X_holds1 (b := b) (F := F) (L := L) (P := P) (nx := nx) (us := us) x y k0 b1 b2' a2 a4
  have hm := M_isOn (b := b) (F := F) (E := E) (L := L) (P := P) (nx := nx) (us := us) (I := th I) x y (w := w) (by simp (decide := true) only [th, isO_s, gI_s, gA_s, gL_s, pI_s, pZ_s, pL_s, aI_s, aL_s, aN_s, aQ_s, sI_s, sL_s, cr, LNs, Option.map_some, Option.map_none, Option.bind_some, b2, tr, lt, if_true, if_false, ckZ, X_within, M_in, inR_z, X_refuse, X_tell, X_deny, X_grant, M_refused, M_denied, M_done, M_granted, u2_same, u2_ne, u2_u2, upd_same, upd_ne, aW0, ixR_z, ixR_1, M_isWall, M_isPainter, M_isWork, X_has4, X_has10, X_at, or_false, false_or, or_true, true_or, not_true, not_false_iff, Option.isSome_some, isO_d, gI_d, gA_d, pI_d, ne_eq, not_false_eq_true, u2_hi, u2_hj, u2_dyn, u2_dynj, Nat.reduceAdd]; exact hn.2.2) hw hn.1 (by simp (decide := true) only [th, isO_s, gI_s, gA_s, gL_s, pI_s, pZ_s, pL_s, aI_s, aL_s, aN_s, aQ_s, sI_s, sL_s, cr, LNs, Option.map_some, Option.map_none, Option.bind_some, b2, tr, lt, if_true, if_false, ckZ, X_within, M_in, inR_z, X_refuse, X_tell, X_deny, X_grant, M_refused, M_denied, M_done, M_granted, u2_same, u2_ne, u2_u2, upd_same, upd_ne, aW0, ixR_z, ixR_1, M_isWall, M_isPainter, M_isWork, X_has4, X_has10, X_at, or_false, false_or, or_true, true_or, not_true, not_false_iff, Option.isSome_some, isO_d, gI_d, gA_d, pI_d, ne_eq, not_false_eq_true, u2_hi, u2_hj, u2_dyn, u2_dynj, Nat.reduceAdd]; exact b3) (by simp (decide := true) only [th, isO_s, gI_s, gA_s, gL_s, pI_s, pZ_s, pL_s, aI_s, aL_s, aN_s, aQ_s, sI_s, sL_s, cr, LNs, Option.map_some, Option.map_none, Option.bind_some, b2, tr, lt, if_true, if_false, ckZ, X_within, M_in, inR_z, X_refuse, X_tell, X_deny, X_grant, M_refused, M_denied, M_done, M_granted, u2_same, u2_ne, u2_u2, upd_same, upd_ne, aW0, ixR_z, ixR_1, M_isWall, M_isPainter, M_isWork, X_has4, X_has10, X_at, or_false, false_or, or_true, true_or, not_true, not_false_iff, Option.isSome_some, isO_d, gI_d, gA_d, pI_d, ne_eq, not_false_eq_true, u2_hi, u2_hj, u2_dyn, u2_dynj, Nat.reduceAdd]; exact b4) a2 a4 a1 a3
  unfold th at hm
  rcases onCase x y a2 a4 with h5 | ⟨i, j, hi, hj, rfl, rfl, h5⟩
  · rw [h5] at hx hm
    refine ⟨-1, I, ?_, ?_⟩
    · (simp (decide := true) only [f_X11_led_27, f_X11_led, h1, hx, isO_s, gI_s, gA_s, gL_s, pI_s, pZ_s, pL_s, aI_s, aL_s, aN_s, aQ_s, sI_s, sL_s, cr, LNs, Option.map_some, Option.map_none, Option.bind_some, b2, tr, lt, if_true, if_false, ckZ, X_within, M_in, inR_z, X_refuse, X_tell, X_deny, X_grant, M_refused, M_denied, M_done, M_granted, u2_same, u2_ne, u2_u2, upd_same, upd_ne, aW0, ixR_z, ixR_1, M_isWall, M_isPainter, M_isWork, X_has4, X_has10, X_at, or_false, false_or, or_true, true_or, not_true, not_false_iff, Option.isSome_some, isO_d, gI_d, gA_d, pI_d, ne_eq, not_false_eq_true, u2_hi, u2_hj, u2_dyn, u2_dynj, Nat.reduceAdd]; try exact rfl)
    · (simp (decide := true) only [f_X15_led_95, f_X15_led_31, f_X15_led, hm, isO_s, gI_s, gA_s, gL_s, pI_s, pZ_s, pL_s, aI_s, aL_s, aN_s, aQ_s, sI_s, sL_s, cr, LNs, Option.map_some, Option.map_none, Option.bind_some, b2, tr, lt, if_true, if_false, ckZ, X_within, M_in, inR_z, X_refuse, X_tell, X_deny, X_grant, M_refused, M_denied, M_done, M_granted, u2_same, u2_ne, u2_u2, upd_same, upd_ne, aW0, ixR_z, ixR_1, M_isWall, M_isPainter, M_isWork, X_has4, X_has10, X_at, or_false, false_or, or_true, true_or, not_true, not_false_iff, Option.isSome_some, isO_d, gI_d, gA_d, pI_d, ne_eq, not_false_eq_true, u2_hi, u2_hj, u2_dyn, u2_dynj, Nat.reduceAdd]; try exact rfl)
  rw [h5] at hx hm
  have hp := plc hi hj
  have h192 := n192 a2 a4
  have hc := X_colourOf (b := b) (F := F) (L := L) (P := P) (nx := nx) (us := us) (I := I) k0 k2 hp h192
  have htn := X_tinOf (b := b) (F := F) (L := L) (P := P) (nx := nx) (us := us) (I := I) k0 k3 hp h192
  obtain ⟨c1, -⟩ := hG w hw _ hp
  have w16 : w < 16 := by have := hn.1; omega
  have e3 : iN (Int32.ofNat w) 16 = some w := iN_oN w16 (by omega)
  have e4 : Int32.ofNat (192 * w) + Int32.ofNat (wd w) * Int32.ofNat j + Int32.ofNat i = Int32.ofNat (192 * w + (j * wd w + i)) := by
    rw [oN_mul, oN_add, oN_add, Nat.mul_comm (wd w) j, Nat.add_assoc]
  have e6 : (192 : Int32) * Int32.ofNat w = Int32.ofNat (192 * w) := oN_mul 192 w
  have e5 : iN (Int32.ofNat (192 * w + (j * wd w + i))) 3072 = some (192 * w + (j * wd w + i)) := iN_oN (by omega) (by omega)
  have c1' : I (149 + q w + 2) (j * wd w + i) = I 86 (192 * w + (j * wd w + i)) := c1
  have b1' : I (149 + q w) 0 = Int32.ofNat (wd w) := b1
  by_cases h6 : I 86 (192 * w + (j * wd w + i)) = -1
  · refine ⟨-1, I, ?_, ?_⟩
    · (simp (decide := true) only [f_X11_led_27, f_X11_led, h1, hx, f_X8_placeOf, k0, b1', oN_mul, oN_add, hc, c1', h6, isO_s, gI_s, gA_s, gL_s, pI_s, pZ_s, pL_s, aI_s, aL_s, aN_s, aQ_s, sI_s, sL_s, cr, LNs, Option.map_some, Option.map_none, Option.bind_some, b2, tr, lt, if_true, if_false, ckZ, X_within, M_in, inR_z, X_refuse, X_tell, X_deny, X_grant, M_refused, M_denied, M_done, M_granted, u2_same, u2_ne, u2_u2, upd_same, upd_ne, aW0, ixR_z, ixR_1, M_isWall, M_isPainter, M_isWork, X_has4, X_has10, X_at, or_false, false_or, or_true, true_or, not_true, not_false_iff, Option.isSome_some, isO_d, gI_d, gA_d, pI_d, ne_eq, not_false_eq_true, u2_hi, u2_hj, u2_dyn, u2_dynj, Nat.reduceAdd]; try exact rfl)
    · (simp (decide := true) only [f_X15_led_95, f_X15_led_31, f_X15_led, f_X15_cellOf, hm, e3, b3, e6, e4, e5, h6, isO_s, gI_s, gA_s, gL_s, pI_s, pZ_s, pL_s, aI_s, aL_s, aN_s, aQ_s, sI_s, sL_s, cr, LNs, Option.map_some, Option.map_none, Option.bind_some, b2, tr, lt, if_true, if_false, ckZ, X_within, M_in, inR_z, X_refuse, X_tell, X_deny, X_grant, M_refused, M_denied, M_done, M_granted, u2_same, u2_ne, u2_u2, upd_same, upd_ne, aW0, ixR_z, ixR_1, M_isWall, M_isPainter, M_isWork, X_has4, X_has10, X_at, or_false, false_or, or_true, true_or, not_true, not_false_iff, Option.isSome_some, isO_d, gI_d, gA_d, pI_d, ne_eq, not_false_eq_true, u2_hi, u2_hj, u2_dyn, u2_dynj, Nat.reduceAdd]; try exact rfl)
  obtain ⟨t1, t2, t3, -⟩ := (hH w hw _ hp).2 h6
  have t1' : I (149 + q w + 3) (j * wd w + i) = I 88 (192 * w + (j * wd w + i)) := t1
  obtain ⟨-, f2, -, -, f5⟩ := hE.1 w hw
  have f2' : I (149 + q w) 9 = I 81 w := f2
  by_cases v0 : v = 0
  · subst v0
    refine ⟨I 81 w, I, ?_, ?_⟩
    · (simp (decide := true) only [f_X11_led_27, f_X11_led, h1, hx, f_X8_placeOf, k0, b1', oN_mul, oN_add, hc, c1', h6, f2', isO_s, gI_s, gA_s, gL_s, pI_s, pZ_s, pL_s, aI_s, aL_s, aN_s, aQ_s, sI_s, sL_s, cr, LNs, Option.map_some, Option.map_none, Option.bind_some, b2, tr, lt, if_true, if_false, ckZ, X_within, M_in, inR_z, X_refuse, X_tell, X_deny, X_grant, M_refused, M_denied, M_done, M_granted, u2_same, u2_ne, u2_u2, upd_same, upd_ne, aW0, ixR_z, ixR_1, M_isWall, M_isPainter, M_isWork, X_has4, X_has10, X_at, or_false, false_or, or_true, true_or, not_true, not_false_iff, Option.isSome_some, isO_d, gI_d, gA_d, pI_d, ne_eq, not_false_eq_true, u2_hi, u2_hj, u2_dyn, u2_dynj, Nat.reduceAdd]; try exact rfl)
    · (simp (decide := true) only [f_X15_led_95, f_X15_led_31, f_X15_led, f_X15_cellOf, hm, e3, b3, e6, e4, e5, h6, t2, isO_s, gI_s, gA_s, gL_s, pI_s, pZ_s, pL_s, aI_s, aL_s, aN_s, aQ_s, sI_s, sL_s, cr, LNs, Option.map_some, Option.map_none, Option.bind_some, b2, tr, lt, if_true, if_false, ckZ, X_within, M_in, inR_z, X_refuse, X_tell, X_deny, X_grant, M_refused, M_denied, M_done, M_granted, u2_same, u2_ne, u2_u2, upd_same, upd_ne, aW0, ixR_z, ixR_1, M_isWall, M_isPainter, M_isWork, X_has4, X_has10, X_at, or_false, false_or, or_true, true_or, not_true, not_false_iff, Option.isSome_some, isO_d, gI_d, gA_d, pI_d, ne_eq, not_false_eq_true, u2_hi, u2_hj, u2_dyn, u2_dynj, Nat.reduceAdd]; try exact rfl)
  by_cases v1 : v = 1
  · subst v1
    rcases f5 with f5 | ⟨k, hk, f5, -⟩
    · exact absurd f5 t3
    have h40 : Int32.ofNat nk ≤ 40 := oN_leL hnk.1 (by decide)
    have k40 : k < 40 := by have := hnk.1; omega
    have g1 := oN_neg (w := k) (by omega)
    have g2 := oN_leF hk (by have := hnk.1; omega)
    have g3 : iN (Int32.ofNat k) 40 = some k := iN_oN k40 (by omega)
    refine ⟨I 124 k, I, ?_, ?_⟩
    · (simp (decide := true) only [f_X11_led_27, f_X11_led, f_X10_tellOf, h1, hx, f_X8_placeOf, k0, b1', oN_mul, oN_add, hc, c1', h6, f2', f5, hnk.2.1, h40, g1, g2, g3, (hK k hk).2.2.1, isO_s, gI_s, gA_s, gL_s, pI_s, pZ_s, pL_s, aI_s, aL_s, aN_s, aQ_s, sI_s, sL_s, cr, LNs, Option.map_some, Option.map_none, Option.bind_some, b2, tr, lt, if_true, if_false, ckZ, X_within, M_in, inR_z, X_refuse, X_tell, X_deny, X_grant, M_refused, M_denied, M_done, M_granted, u2_same, u2_ne, u2_u2, upd_same, upd_ne, aW0, ixR_z, ixR_1, M_isWall, M_isPainter, M_isWork, X_has4, X_has10, X_at, or_false, false_or, or_true, true_or, not_true, not_false_iff, Option.isSome_some, isO_d, gI_d, gA_d, pI_d, ne_eq, not_false_eq_true, u2_hi, u2_hj, u2_dyn, u2_dynj, Nat.reduceAdd]; try exact rfl)
    · (simp (decide := true) only [f_X15_led_95, f_X15_led_31, f_X15_led, f_X15_cellOf, hm, e3, b3, e6, e4, e5, h6, t2, f5, g3, isO_s, gI_s, gA_s, gL_s, pI_s, pZ_s, pL_s, aI_s, aL_s, aN_s, aQ_s, sI_s, sL_s, cr, LNs, Option.map_some, Option.map_none, Option.bind_some, b2, tr, lt, if_true, if_false, ckZ, X_within, M_in, inR_z, X_refuse, X_tell, X_deny, X_grant, M_refused, M_denied, M_done, M_granted, u2_same, u2_ne, u2_u2, upd_same, upd_ne, aW0, ixR_z, ixR_1, M_isWall, M_isPainter, M_isWork, X_has4, X_has10, X_at, or_false, false_or, or_true, true_or, not_true, not_false_iff, Option.isSome_some, isO_d, gI_d, gA_d, pI_d, ne_eq, not_false_eq_true, u2_hi, u2_hj, u2_dyn, u2_dynj, Nat.reduceAdd]; try exact rfl)
  by_cases v2 : v = 2
  · subst v2
    refine ⟨I 88 (192 * w + (j * wd w + i)), I, ?_, ?_⟩
    · (simp (decide := true) only [f_X11_led_27, f_X11_led, h1, hx, f_X8_placeOf, k0, b1', oN_mul, oN_add, hc, c1', h6, htn, t1', isO_s, gI_s, gA_s, gL_s, pI_s, pZ_s, pL_s, aI_s, aL_s, aN_s, aQ_s, sI_s, sL_s, cr, LNs, Option.map_some, Option.map_none, Option.bind_some, b2, tr, lt, if_true, if_false, ckZ, X_within, M_in, inR_z, X_refuse, X_tell, X_deny, X_grant, M_refused, M_denied, M_done, M_granted, u2_same, u2_ne, u2_u2, upd_same, upd_ne, aW0, ixR_z, ixR_1, M_isWall, M_isPainter, M_isWork, X_has4, X_has10, X_at, or_false, false_or, or_true, true_or, not_true, not_false_iff, Option.isSome_some, isO_d, gI_d, gA_d, pI_d, ne_eq, not_false_eq_true, u2_hi, u2_hj, u2_dyn, u2_dynj, Nat.reduceAdd]; try exact rfl)
    · (simp (decide := true) only [f_X15_led_95, f_X15_led_31, f_X15_led, f_X15_cellOf, hm, e3, b3, e6, e4, e5, h6, isO_s, gI_s, gA_s, gL_s, pI_s, pZ_s, pL_s, aI_s, aL_s, aN_s, aQ_s, sI_s, sL_s, cr, LNs, Option.map_some, Option.map_none, Option.bind_some, b2, tr, lt, if_true, if_false, ckZ, X_within, M_in, inR_z, X_refuse, X_tell, X_deny, X_grant, M_refused, M_denied, M_done, M_granted, u2_same, u2_ne, u2_u2, upd_same, upd_ne, aW0, ixR_z, ixR_1, M_isWall, M_isPainter, M_isWork, X_has4, X_has10, X_at, or_false, false_or, or_true, true_or, not_true, not_false_iff, Option.isSome_some, isO_d, gI_d, gA_d, pI_d, ne_eq, not_false_eq_true, u2_hi, u2_hj, u2_dyn, u2_dynj, Nat.reduceAdd]; try exact rfl)
  refine ⟨-1, I, ?_, ?_⟩
  · (simp (decide := true) only [f_X11_led_27, f_X11_led, h1, hx, f_X8_placeOf, k0, b1', oN_mul, oN_add, hc, c1', h6, v0, v1, v2, isO_s, gI_s, gA_s, gL_s, pI_s, pZ_s, pL_s, aI_s, aL_s, aN_s, aQ_s, sI_s, sL_s, cr, LNs, Option.map_some, Option.map_none, Option.bind_some, b2, tr, lt, if_true, if_false, ckZ, X_within, M_in, inR_z, X_refuse, X_tell, X_deny, X_grant, M_refused, M_denied, M_done, M_granted, u2_same, u2_ne, u2_u2, upd_same, upd_ne, aW0, ixR_z, ixR_1, M_isWall, M_isPainter, M_isWork, X_has4, X_has10, X_at, or_false, false_or, or_true, true_or, not_true, not_false_iff, Option.isSome_some, isO_d, gI_d, gA_d, pI_d, ne_eq, not_false_eq_true, u2_hi, u2_hj, u2_dyn, u2_dynj, Nat.reduceAdd]; try exact rfl)
  · (simp (decide := true) only [f_X15_led_95, f_X15_led_31, f_X15_led, f_X15_cellOf, hm, e3, b3, e6, e4, e5, h6, v0, v1, v2, isO_s, gI_s, gA_s, gL_s, pI_s, pZ_s, pL_s, aI_s, aL_s, aN_s, aQ_s, sI_s, sL_s, cr, LNs, Option.map_some, Option.map_none, Option.bind_some, b2, tr, lt, if_true, if_false, ckZ, X_within, M_in, inR_z, X_refuse, X_tell, X_deny, X_grant, M_refused, M_denied, M_done, M_granted, u2_same, u2_ne, u2_u2, upd_same, upd_ne, aW0, ixR_z, ixR_1, M_isWall, M_isPainter, M_isWork, X_has4, X_has10, X_at, or_false, false_or, or_true, true_or, not_true, not_false_iff, Option.isSome_some, isO_d, gI_d, gA_d, pI_d, ne_eq, not_false_eq_true, u2_hi, u2_hj, u2_dyn, u2_dynj, Nat.reduceAdd]; try exact rfl)
theorem X_cholds (x y : Int32) : f_X0_holds (ad b 58) x y (lay b F E I L P nx us) = some (onR x y (I 58 1) (I 58 2), (lay b F E I L P nx us)) := by
  simp (decide := true) only [f_X0_holds_29, f_X0_holds_28, f_X0_holds, isO_s, gI_s, gA_s, gL_s, pI_s, pZ_s, pL_s, aI_s, aL_s, aN_s, aQ_s, sI_s, sL_s, cr, LNs, Option.map_some, Option.map_none, Option.bind_some, b2, tr, lt, if_true, if_false, ckZ, X_within, M_in, inR_z, X_refuse, X_tell, X_deny, X_grant, M_refused, M_denied, M_done, M_granted, u2_same, u2_ne, u2_u2, upd_same, upd_ne, aW0, ixR_z, ixR_1, M_isWall, M_isPainter, M_isWork, X_has4, X_has10, X_at, or_false, false_or, or_true, true_or, not_true, not_false_iff, Option.isSome_some, isO_d, gI_d, gA_d, pI_d, ne_eq, not_false_eq_true, u2_hi, u2_hj, u2_dyn, u2_dynj, Nat.reduceAdd]
  unfold onR
  split
  · rfl
  · split
    · rfl
    · split
      · rfl
      · split <;> rfl
theorem inR_m {x : Int32} {n : Nat} (h1 : 1 ≤ n) (h2 : n ≤ 16) : (x < 0 ∨ Int32.ofNat n - 1 < x) ↔ (x < 0 ∨ Int32.ofNat n ≤ x) := by
  rw [show Int32.ofNat n - 1 = Int32.ofNat (n - 1) from oN_sub h1]
  by_cases hx : x < 0
  · simp only [hx, true_or]
  · obtain ⟨i, hi, rfl⟩ := nn_oN hx
    rw [oN_lt (by omega) hi, oN_le (by omega) hi]
    simp only [hx, false_or]
    omega
theorem call_sketched (x y : Int32) (hG : GSk (I 58) (I 59) (I 110) (I 72 52) (I 72 53) (I 72 54) (I 72 55) (I 72 56) (I 72 57)) : Run b F E L P nx us (f_X11_sketched (ad b 0) x y) (f_X15_sketched (ad b 72) x y) I (th I) := by
  rcases hG with ⟨h1, h2, h3, h4⟩ | ⟨h1, h2, h3, h4, ⟨wd, w1, w2, w3⟩, ⟨hg, y1, y2, y3⟩, h5, h6, h7, h8, -, -, h9⟩
  · have h5 : onR x y 0 0 = 0 := by
      unfold onR
      by_cases hx : x < 0
      · rw [if_pos hx]
      · rw [if_neg hx, if_pos (Int32.not_lt.mp hx)]
    refine ⟨-1, I, ?_, ?_⟩
    · (simp (decide := true) only [f_X11_sketched_35, f_X11_sketched, X_cholds, h3, h4, h5, isO_s, gI_s, gA_s, gL_s, pI_s, pZ_s, pL_s, aI_s, aL_s, aN_s, aQ_s, sI_s, sL_s, cr, LNs, Option.map_some, Option.map_none, Option.bind_some, b2, tr, lt, if_true, if_false, ckZ, X_within, M_in, inR_z, X_refuse, X_tell, X_deny, X_grant, M_refused, M_denied, M_done, M_granted, u2_same, u2_ne, u2_u2, upd_same, upd_ne, aW0, ixR_z, ixR_1, M_isWall, M_isPainter, M_isWork, X_has4, X_has10, X_at, or_false, false_or, or_true, true_or, not_true, not_false_iff, Option.isSome_some, isO_d, gI_d, gA_d, pI_d, ne_eq, not_false_eq_true, u2_hi, u2_hj, u2_dyn, u2_dynj, Nat.reduceAdd]; try exact rfl)
    · (simp (decide := true) only [f_X15_sketched_67, f_X15_sketched_40, f_X15_sketched, h1, isO_s, gI_s, gA_s, gL_s, pI_s, pZ_s, pL_s, aI_s, aL_s, aN_s, aQ_s, sI_s, sL_s, cr, LNs, Option.map_some, Option.map_none, Option.bind_some, b2, tr, lt, if_true, if_false, ckZ, X_within, M_in, inR_z, X_refuse, X_tell, X_deny, X_grant, M_refused, M_denied, M_done, M_granted, u2_same, u2_ne, u2_u2, upd_same, upd_ne, aW0, ixR_z, ixR_1, M_isWall, M_isPainter, M_isWork, X_has4, X_has10, X_at, or_false, false_or, or_true, true_or, not_true, not_false_iff, Option.isSome_some, isO_d, gI_d, gA_d, pI_d, ne_eq, not_false_eq_true, u2_hi, u2_hj, u2_dyn, u2_dynj, Nat.reduceAdd]; try exact rfl)
  have hxx := inR_m (x := x) w1 w2
  have hyy := inR_m (x := y) y1 (by omega)
  rcases onCase x y w2 y2 with h10 | ⟨i, j, hi, hj, rfl, rfl, h10⟩
  · refine ⟨-1, I, ?_, ?_⟩
    · (simp (decide := true) only [f_X11_sketched_35, f_X11_sketched, X_cholds, h3, h4, w3, y3, h10, isO_s, gI_s, gA_s, gL_s, pI_s, pZ_s, pL_s, aI_s, aL_s, aN_s, aQ_s, sI_s, sL_s, cr, LNs, Option.map_some, Option.map_none, Option.bind_some, b2, tr, lt, if_true, if_false, ckZ, X_within, M_in, inR_z, X_refuse, X_tell, X_deny, X_grant, M_refused, M_denied, M_done, M_granted, u2_same, u2_ne, u2_u2, upd_same, upd_ne, aW0, ixR_z, ixR_1, M_isWall, M_isPainter, M_isWork, X_has4, X_has10, X_at, or_false, false_or, or_true, true_or, not_true, not_false_iff, Option.isSome_some, isO_d, gI_d, gA_d, pI_d, ne_eq, not_false_eq_true, u2_hi, u2_hj, u2_dyn, u2_dynj, Nat.reduceAdd]; try exact rfl)
    · by_cases hx : (x < 0 ∨ Int32.ofNat wd ≤ x)
      · (simp (decide := true) only [f_X15_sketched_67, f_X15_sketched_40, f_X15_sketched, h1, w3, hxx, hx, isO_s, gI_s, gA_s, gL_s, pI_s, pZ_s, pL_s, aI_s, aL_s, aN_s, aQ_s, sI_s, sL_s, cr, LNs, Option.map_some, Option.map_none, Option.bind_some, b2, tr, lt, if_true, if_false, ckZ, X_within, M_in, inR_z, X_refuse, X_tell, X_deny, X_grant, M_refused, M_denied, M_done, M_granted, u2_same, u2_ne, u2_u2, upd_same, upd_ne, aW0, ixR_z, ixR_1, M_isWall, M_isPainter, M_isWork, X_has4, X_has10, X_at, or_false, false_or, or_true, true_or, not_true, not_false_iff, Option.isSome_some, isO_d, gI_d, gA_d, pI_d, ne_eq, not_false_eq_true, u2_hi, u2_hj, u2_dyn, u2_dynj, Nat.reduceAdd]; try exact rfl)
      · have hy : (y < 0 ∨ Int32.ofNat hg ≤ y) := by
          have hxa : ¬ x < 0 := fun q => hx (Or.inl q)
          have hxb : ¬ Int32.ofNat wd ≤ x := fun q => hx (Or.inr q)
          unfold onR at h10
          rw [if_neg hxa, if_neg hxb] at h10
          by_cases hya : y < 0
          · exact Or.inl hya
          · rw [if_neg hya] at h10
            by_cases hyb : Int32.ofNat hg ≤ y
            · exact Or.inr hyb
            · rw [if_neg hyb] at h10; cases h10
        (simp (decide := true) only [f_X15_sketched_67, f_X15_sketched_40, f_X15_sketched, h1, w3, y3, hxx, hx, hyy, hy, isO_s, gI_s, gA_s, gL_s, pI_s, pZ_s, pL_s, aI_s, aL_s, aN_s, aQ_s, sI_s, sL_s, cr, LNs, Option.map_some, Option.map_none, Option.bind_some, b2, tr, lt, if_true, if_false, ckZ, X_within, M_in, inR_z, X_refuse, X_tell, X_deny, X_grant, M_refused, M_denied, M_done, M_granted, u2_same, u2_ne, u2_u2, upd_same, upd_ne, aW0, ixR_z, ixR_1, M_isWall, M_isPainter, M_isWork, X_has4, X_has10, X_at, or_false, false_or, or_true, true_or, not_true, not_false_iff, Option.isSome_some, isO_d, gI_d, gA_d, pI_d, ne_eq, not_false_eq_true, u2_hi, u2_hj, u2_dyn, u2_dynj, Nat.reduceAdd]; try exact rfl)
  · have hp := plc hi hj
    have h192 := n192 w2 y2
    have e1 := oN_neg (w := j * wd + i) (by omega)
    have e2 := oN_leF (show j * wd + i < 192 by omega) (by omega)
    have e3 : iN (Int32.ofNat (j * wd + i)) 192 = some (j * wd + i) := iN_oN (by omega) (by omega)
    have c1 := oN_neg (w := i) (by omega)
    have c2 := oN_neg (w := j) (by omega)
    have c3 : ¬ (Int32.ofNat wd - 1 < Int32.ofNat i) := by
      rw [show Int32.ofNat wd - 1 = Int32.ofNat (wd - 1) from oN_sub w1, oN_lt (by omega) (by omega)]; omega
    have c4 : ¬ (Int32.ofNat hg - 1 < Int32.ofNat j) := by
      rw [show Int32.ofNat hg - 1 = Int32.ofNat (hg - 1) from oN_sub y1, oN_lt (by omega) (by omega)]; omega
    have c5 : Int32.ofNat wd * Int32.ofNat j + Int32.ofNat i = Int32.ofNat (j * wd + i) := by rw [oN_mul, oN_add, Nat.mul_comm]
    obtain ⟨h11, -⟩ := h9 (j * wd + i) (by omega)
    by_cases h12 : I 110 (j * wd + i) = -1
    · refine ⟨-2, I, ?_, ?_⟩
      · (simp (decide := true) only [f_X11_sketched_35, f_X11_sketched, f_X0_colourAt_41, f_X0_colourAt_40, f_X0_colourAt, X_cholds, h3, h4, w3, y3, h10, oN_mul, oN_add, e1, e2, e3, h11, h12, isO_s, gI_s, gA_s, gL_s, pI_s, pZ_s, pL_s, aI_s, aL_s, aN_s, aQ_s, sI_s, sL_s, cr, LNs, Option.map_some, Option.map_none, Option.bind_some, b2, tr, lt, if_true, if_false, ckZ, X_within, M_in, inR_z, X_refuse, X_tell, X_deny, X_grant, M_refused, M_denied, M_done, M_granted, u2_same, u2_ne, u2_u2, upd_same, upd_ne, aW0, ixR_z, ixR_1, M_isWall, M_isPainter, M_isWork, X_has4, X_has10, X_at, or_false, false_or, or_true, true_or, not_true, not_false_iff, Option.isSome_some, isO_d, gI_d, gA_d, pI_d, ne_eq, not_false_eq_true, u2_hi, u2_hj, u2_dyn, u2_dynj, Nat.reduceAdd]; try exact rfl)
      · (simp (decide := true) only [f_X15_sketched_67, f_X15_sketched_40, f_X15_sketched, h1, w3, y3, hxx, hyy, c1, c2, c3, c4, c5, e3, h12, isO_s, gI_s, gA_s, gL_s, pI_s, pZ_s, pL_s, aI_s, aL_s, aN_s, aQ_s, sI_s, sL_s, cr, LNs, Option.map_some, Option.map_none, Option.bind_some, b2, tr, lt, if_true, if_false, ckZ, X_within, M_in, inR_z, X_refuse, X_tell, X_deny, X_grant, M_refused, M_denied, M_done, M_granted, u2_same, u2_ne, u2_u2, upd_same, upd_ne, aW0, ixR_z, ixR_1, M_isWall, M_isPainter, M_isWork, X_has4, X_has10, X_at, or_false, false_or, or_true, true_or, not_true, not_false_iff, Option.isSome_some, isO_d, gI_d, gA_d, pI_d, ne_eq, not_false_eq_true, u2_hi, u2_hj, u2_dyn, u2_dynj, Nat.reduceAdd]; try exact rfl)
    · refine ⟨I 110 (j * wd + i), I, ?_, ?_⟩
      · (simp (decide := true) only [f_X11_sketched_35, f_X11_sketched, f_X0_colourAt_41, f_X0_colourAt_40, f_X0_colourAt, X_cholds, h3, h4, w3, y3, h10, oN_mul, oN_add, e1, e2, e3, h11, h12, isO_s, gI_s, gA_s, gL_s, pI_s, pZ_s, pL_s, aI_s, aL_s, aN_s, aQ_s, sI_s, sL_s, cr, LNs, Option.map_some, Option.map_none, Option.bind_some, b2, tr, lt, if_true, if_false, ckZ, X_within, M_in, inR_z, X_refuse, X_tell, X_deny, X_grant, M_refused, M_denied, M_done, M_granted, u2_same, u2_ne, u2_u2, upd_same, upd_ne, aW0, ixR_z, ixR_1, M_isWall, M_isPainter, M_isWork, X_has4, X_has10, X_at, or_false, false_or, or_true, true_or, not_true, not_false_iff, Option.isSome_some, isO_d, gI_d, gA_d, pI_d, ne_eq, not_false_eq_true, u2_hi, u2_hj, u2_dyn, u2_dynj, Nat.reduceAdd]; try exact rfl)
      · (simp (decide := true) only [f_X15_sketched_67, f_X15_sketched_40, f_X15_sketched, h1, w3, y3, hxx, hyy, c1, c2, c3, c4, c5, e3, h12, isO_s, gI_s, gA_s, gL_s, pI_s, pZ_s, pL_s, aI_s, aL_s, aN_s, aQ_s, sI_s, sL_s, cr, LNs, Option.map_some, Option.map_none, Option.bind_some, b2, tr, lt, if_true, if_false, ckZ, X_within, M_in, inR_z, X_refuse, X_tell, X_deny, X_grant, M_refused, M_denied, M_done, M_granted, u2_same, u2_ne, u2_u2, upd_same, upd_ne, aW0, ixR_z, ixR_1, M_isWall, M_isPainter, M_isWork, X_has4, X_has10, X_at, or_false, false_or, or_true, true_or, not_true, not_false_iff, Option.isSome_some, isO_d, gI_d, gA_d, pI_d, ne_eq, not_false_eq_true, u2_hi, u2_hj, u2_dyn, u2_dynj, Nat.reduceAdd]; try exact rfl)
theorem X_area (v : Int32) : f_X0_area (ad b 58) v (lay b F E I L P nx us) = some (sm (fun c => if I 59 c = v then 1 else 0) 0 192, (lay b F E I L P nx us)) := by
  simp (decide := true) only [f_X0_area_26, f_X0_area, isO_s, gI_s, gA_s, gL_s, pI_s, pZ_s, pL_s, aI_s, aL_s, aN_s, aQ_s, sI_s, sL_s, cr, LNs, Option.map_some, Option.map_none, Option.bind_some, b2, tr, lt, if_true, if_false, ckZ, X_within, M_in, inR_z, X_refuse, X_tell, X_deny, X_grant, M_refused, M_denied, M_done, M_granted, u2_same, u2_ne, u2_u2, upd_same, upd_ne, aW0, ixR_z, ixR_1, M_isWall, M_isPainter, M_isWork, X_has4, X_has10, X_at, or_false, false_or, or_true, true_or, not_true, not_false_iff, Option.isSome_some, isO_d, gI_d, gA_d, pI_d, ne_eq, not_false_eq_true, u2_hi, u2_hj, u2_dyn, u2_dynj, Nat.reduceAdd]
  refine lp_sum0 (T := fun n a' k => f_X0_area_4 n (ad b 58) v a' k (lay b F E I L P nx us)) (R := fun a => some (a, (lay b F E I L P nx us))) (f := fun c => if I 59 c = v then 1 else 0) (N := 192) (by omega) ?_ ?_
  · intro n' a'
    simp (decide := true) only [f_X0_area_4, Int32.le_refl, isO_s, gI_s, gA_s, gL_s, pI_s, pZ_s, pL_s, aI_s, aL_s, aN_s, aQ_s, sI_s, sL_s, cr, LNs, Option.map_some, Option.map_none, Option.bind_some, b2, tr, lt, if_true, if_false, ckZ, X_within, M_in, inR_z, X_refuse, X_tell, X_deny, X_grant, M_refused, M_denied, M_done, M_granted, u2_same, u2_ne, u2_u2, upd_same, upd_ne, aW0, ixR_z, ixR_1, M_isWall, M_isPainter, M_isWork, X_has4, X_has10, X_at, or_false, false_or, or_true, true_or, not_true, not_false_iff, Option.isSome_some, isO_d, gI_d, gA_d, pI_d, ne_eq, not_false_eq_true, u2_hi, u2_hj, u2_dyn, u2_dynj, Nat.reduceAdd]
  · intro n' a' k hk
    have e2 := oN_leF hk (by omega)
    have e3 : iN (Int32.ofNat k) 192 = some k := iN_oN (by omega) (by omega)
    show f_X0_area_4 (n' + 1) (ad b 58) v a' (Int32.ofNat k) (lay b F E I L P nx us) = _
    simp (decide := true) only [f_X0_area_4, f_X0_area_26, e2, e3, oN_succ, isO_s, gI_s, gA_s, gL_s, pI_s, pZ_s, pL_s, aI_s, aL_s, aN_s, aQ_s, sI_s, sL_s, cr, LNs, Option.map_some, Option.map_none, Option.bind_some, b2, tr, lt, if_true, if_false, ckZ, X_within, M_in, inR_z, X_refuse, X_tell, X_deny, X_grant, M_refused, M_denied, M_done, M_granted, u2_same, u2_ne, u2_u2, upd_same, upd_ne, aW0, ixR_z, ixR_1, M_isWall, M_isPainter, M_isWork, X_has4, X_has10, X_at, or_false, false_or, or_true, true_or, not_true, not_false_iff, Option.isSome_some, isO_d, gI_d, gA_d, pI_d, ne_eq, not_false_eq_true, u2_hi, u2_hj, u2_dyn, u2_dynj, Nat.reduceAdd]
    by_cases h1 : I 59 k = v
    · simp only [h1, if_true]
    · simp only [h1, if_false, Int32.add_zero]
theorem M_area (v : Int32) : f_X15_sketchOf_69 FU (ad b 72) v 0 0 (lay b F E I L P nx us) = some (sm (fun c => if I 110 c = v then 1 else 0) 0 192, (lay b F E I L P nx us)) := by
  refine lp_sum0 (T := fun n a' k => f_X15_sketchOf_69 n (ad b 72) v a' k (lay b F E I L P nx us)) (R := fun a => some (a, (lay b F E I L P nx us))) (f := fun c => if I 110 c = v then 1 else 0) (N := 192) (by omega) ?_ ?_
  · intro n' a'
    simp (decide := true) only [f_X15_sketchOf_69, Int32.le_refl, isO_s, gI_s, gA_s, gL_s, pI_s, pZ_s, pL_s, aI_s, aL_s, aN_s, aQ_s, sI_s, sL_s, cr, LNs, Option.map_some, Option.map_none, Option.bind_some, b2, tr, lt, if_true, if_false, ckZ, X_within, M_in, inR_z, X_refuse, X_tell, X_deny, X_grant, M_refused, M_denied, M_done, M_granted, u2_same, u2_ne, u2_u2, upd_same, upd_ne, aW0, ixR_z, ixR_1, M_isWall, M_isPainter, M_isWork, X_has4, X_has10, X_at, or_false, false_or, or_true, true_or, not_true, not_false_iff, Option.isSome_some, isO_d, gI_d, gA_d, pI_d, ne_eq, not_false_eq_true, u2_hi, u2_hj, u2_dyn, u2_dynj, Nat.reduceAdd]
  · intro n' a' k hk
    have e2 : ((192 : Int32) ≤ Int32.ofNat k) = False := oN_leF (c := 192) hk (by omega)
    have e3 : iN (Int32.ofNat k) 192 = some k := iN_oN (by omega) (by omega)
    show f_X15_sketchOf_69 (n' + 1) (ad b 72) v a' (Int32.ofNat k) (lay b F E I L P nx us) = _
    simp (decide := true) only [f_X15_sketchOf_69, f_X15_sketchOf_92, e2, e3, oN_succ, isO_s, gI_s, gA_s, gL_s, pI_s, pZ_s, pL_s, aI_s, aL_s, aN_s, aQ_s, sI_s, sL_s, cr, LNs, Option.map_some, Option.map_none, Option.bind_some, b2, tr, lt, if_true, if_false, ckZ, X_within, M_in, inR_z, X_refuse, X_tell, X_deny, X_grant, M_refused, M_denied, M_done, M_granted, u2_same, u2_ne, u2_u2, upd_same, upd_ne, aW0, ixR_z, ixR_1, M_isWall, M_isPainter, M_isWork, X_has4, X_has10, X_at, or_false, false_or, or_true, true_or, not_true, not_false_iff, Option.isSome_some, isO_d, gI_d, gA_d, pI_d, ne_eq, not_false_eq_true, u2_hi, u2_hj, u2_dyn, u2_dynj, Nat.reduceAdd]
    by_cases h1 : I 110 k = v
    · simp only [h1, if_true]
    · simp only [h1, if_false, Int32.add_zero]
theorem call_sketchOf (x : Int32) (hG : GSk (I 58) (I 59) (I 110) (I 72 52) (I 72 53) (I 72 54) (I 72 55) (I 72 56) (I 72 57)) : Run b F E L P nx us (f_X11_sketchOf (ad b 0) x) (f_X15_sketchOf (ad b 72) x) I (th I) := by
  rcases hG with ⟨h1, h2, h3, h4⟩ | ⟨h1, h2, h3, h4, -, -, h5, h6, h7, h8, g1, g2, h9⟩
  · refine ⟨-1, I, ?_, ?_⟩
    · (simp (decide := true) only [f_X11_sketchOf_83, f_X11_sketchOf, h2, isO_s, gI_s, gA_s, gL_s, pI_s, pZ_s, pL_s, aI_s, aL_s, aN_s, aQ_s, sI_s, sL_s, cr, LNs, Option.map_some, Option.map_none, Option.bind_some, b2, tr, lt, if_true, if_false, ckZ, X_within, M_in, inR_z, X_refuse, X_tell, X_deny, X_grant, M_refused, M_denied, M_done, M_granted, u2_same, u2_ne, u2_u2, upd_same, upd_ne, aW0, ixR_z, ixR_1, M_isWall, M_isPainter, M_isWork, X_has4, X_has10, X_at, or_false, false_or, or_true, true_or, not_true, not_false_iff, Option.isSome_some, isO_d, gI_d, gA_d, pI_d, ne_eq, not_false_eq_true, u2_hi, u2_hj, u2_dyn, u2_dynj, Nat.reduceAdd]; try exact rfl)
    · (simp (decide := true) only [f_X15_sketchOf_92, f_X15_sketchOf_53, f_X15_sketchOf_22, f_X15_sketchOf, h1, isO_s, gI_s, gA_s, gL_s, pI_s, pZ_s, pL_s, aI_s, aL_s, aN_s, aQ_s, sI_s, sL_s, cr, LNs, Option.map_some, Option.map_none, Option.bind_some, b2, tr, lt, if_true, if_false, ckZ, X_within, M_in, inR_z, X_refuse, X_tell, X_deny, X_grant, M_refused, M_denied, M_done, M_granted, u2_same, u2_ne, u2_u2, upd_same, upd_ne, aW0, ixR_z, ixR_1, M_isWall, M_isPainter, M_isWork, X_has4, X_has10, X_at, or_false, false_or, or_true, true_or, not_true, not_false_iff, Option.isSome_some, isO_d, gI_d, gA_d, pI_d, ne_eq, not_false_eq_true, u2_hi, u2_hj, u2_dyn, u2_dynj, Nat.reduceAdd]; try exact rfl)
  by_cases x8 : x = 8
  · subst x8
    exact ⟨I 72 54, I, by (simp (decide := true) only [f_X11_sketchOf_83, f_X11_sketchOf, h2, h5, isO_s, gI_s, gA_s, gL_s, pI_s, pZ_s, pL_s, aI_s, aL_s, aN_s, aQ_s, sI_s, sL_s, cr, LNs, Option.map_some, Option.map_none, Option.bind_some, b2, tr, lt, if_true, if_false, ckZ, X_within, M_in, inR_z, X_refuse, X_tell, X_deny, X_grant, M_refused, M_denied, M_done, M_granted, u2_same, u2_ne, u2_u2, upd_same, upd_ne, aW0, ixR_z, ixR_1, M_isWall, M_isPainter, M_isWork, X_has4, X_has10, X_at, or_false, false_or, or_true, true_or, not_true, not_false_iff, Option.isSome_some, isO_d, gI_d, gA_d, pI_d, ne_eq, not_false_eq_true, u2_hi, u2_hj, u2_dyn, u2_dynj, Nat.reduceAdd]; try exact rfl), by (simp (decide := true) only [f_X15_sketchOf_92, f_X15_sketchOf_53, f_X15_sketchOf_22, f_X15_sketchOf, h1, isO_s, gI_s, gA_s, gL_s, pI_s, pZ_s, pL_s, aI_s, aL_s, aN_s, aQ_s, sI_s, sL_s, cr, LNs, Option.map_some, Option.map_none, Option.bind_some, b2, tr, lt, if_true, if_false, ckZ, X_within, M_in, inR_z, X_refuse, X_tell, X_deny, X_grant, M_refused, M_denied, M_done, M_granted, u2_same, u2_ne, u2_u2, upd_same, upd_ne, aW0, ixR_z, ixR_1, M_isWall, M_isPainter, M_isWork, X_has4, X_has10, X_at, or_false, false_or, or_true, true_or, not_true, not_false_iff, Option.isSome_some, isO_d, gI_d, gA_d, pI_d, ne_eq, not_false_eq_true, u2_hi, u2_hj, u2_dyn, u2_dynj, Nat.reduceAdd]; try exact rfl)⟩
  by_cases x9 : x = 9
  · subst x9
    rcases h7 with h7 | h7
    · exact ⟨0, I, by (simp (decide := true) only [f_X11_sketchOf_83, f_X11_sketchOf, h2, h6, h7, isO_s, gI_s, gA_s, gL_s, pI_s, pZ_s, pL_s, aI_s, aL_s, aN_s, aQ_s, sI_s, sL_s, cr, LNs, Option.map_some, Option.map_none, Option.bind_some, b2, tr, lt, if_true, if_false, ckZ, X_within, M_in, inR_z, X_refuse, X_tell, X_deny, X_grant, M_refused, M_denied, M_done, M_granted, u2_same, u2_ne, u2_u2, upd_same, upd_ne, aW0, ixR_z, ixR_1, M_isWall, M_isPainter, M_isWork, X_has4, X_has10, X_at, or_false, false_or, or_true, true_or, not_true, not_false_iff, Option.isSome_some, isO_d, gI_d, gA_d, pI_d, ne_eq, not_false_eq_true, u2_hi, u2_hj, u2_dyn, u2_dynj, Nat.reduceAdd]; try exact rfl), by (simp (decide := true) only [f_X15_sketchOf_92, f_X15_sketchOf_53, f_X15_sketchOf_22, f_X15_sketchOf, h1, h7, isO_s, gI_s, gA_s, gL_s, pI_s, pZ_s, pL_s, aI_s, aL_s, aN_s, aQ_s, sI_s, sL_s, cr, LNs, Option.map_some, Option.map_none, Option.bind_some, b2, tr, lt, if_true, if_false, ckZ, X_within, M_in, inR_z, X_refuse, X_tell, X_deny, X_grant, M_refused, M_denied, M_done, M_granted, u2_same, u2_ne, u2_u2, upd_same, upd_ne, aW0, ixR_z, ixR_1, M_isWall, M_isPainter, M_isWork, X_has4, X_has10, X_at, or_false, false_or, or_true, true_or, not_true, not_false_iff, Option.isSome_some, isO_d, gI_d, gA_d, pI_d, ne_eq, not_false_eq_true, u2_hi, u2_hj, u2_dyn, u2_dynj, Nat.reduceAdd]; try exact rfl)⟩
    · exact ⟨1, I, by (simp (decide := true) only [f_X11_sketchOf_83, f_X11_sketchOf, h2, h6, h7, isO_s, gI_s, gA_s, gL_s, pI_s, pZ_s, pL_s, aI_s, aL_s, aN_s, aQ_s, sI_s, sL_s, cr, LNs, Option.map_some, Option.map_none, Option.bind_some, b2, tr, lt, if_true, if_false, ckZ, X_within, M_in, inR_z, X_refuse, X_tell, X_deny, X_grant, M_refused, M_denied, M_done, M_granted, u2_same, u2_ne, u2_u2, upd_same, upd_ne, aW0, ixR_z, ixR_1, M_isWall, M_isPainter, M_isWork, X_has4, X_has10, X_at, or_false, false_or, or_true, true_or, not_true, not_false_iff, Option.isSome_some, isO_d, gI_d, gA_d, pI_d, ne_eq, not_false_eq_true, u2_hi, u2_hj, u2_dyn, u2_dynj, Nat.reduceAdd]; try exact rfl), by (simp (decide := true) only [f_X15_sketchOf_92, f_X15_sketchOf_53, f_X15_sketchOf_22, f_X15_sketchOf, h1, h7, isO_s, gI_s, gA_s, gL_s, pI_s, pZ_s, pL_s, aI_s, aL_s, aN_s, aQ_s, sI_s, sL_s, cr, LNs, Option.map_some, Option.map_none, Option.bind_some, b2, tr, lt, if_true, if_false, ckZ, X_within, M_in, inR_z, X_refuse, X_tell, X_deny, X_grant, M_refused, M_denied, M_done, M_granted, u2_same, u2_ne, u2_u2, upd_same, upd_ne, aW0, ixR_z, ixR_1, M_isWall, M_isPainter, M_isWork, X_has4, X_has10, X_at, or_false, false_or, or_true, true_or, not_true, not_false_iff, Option.isSome_some, isO_d, gI_d, gA_d, pI_d, ne_eq, not_false_eq_true, u2_hi, u2_hj, u2_dyn, u2_dynj, Nat.reduceAdd]; try exact rfl)⟩
  by_cases x10 : x = 10
  · subst x10
    obtain ⟨n, hn, hne⟩ := nn_oN (Int32.not_lt.mpr g1)
    have hn2 : n < 4096 := by
      rw [hne] at g2
      exact (oN_lt hn (by decide : 4096 < 2147483648)).mp g2
    have : bcF (I 58 6) = I 72 55 := by rw [← h8, hne, bcF_12 n hn2]
    exact ⟨I 72 55, I, by (simp (decide := true) only [f_X11_sketchOf_83, f_X11_sketchOf, h2, J_bitCount, this, isO_s, gI_s, gA_s, gL_s, pI_s, pZ_s, pL_s, aI_s, aL_s, aN_s, aQ_s, sI_s, sL_s, cr, LNs, Option.map_some, Option.map_none, Option.bind_some, b2, tr, lt, if_true, if_false, ckZ, X_within, M_in, inR_z, X_refuse, X_tell, X_deny, X_grant, M_refused, M_denied, M_done, M_granted, u2_same, u2_ne, u2_u2, upd_same, upd_ne, aW0, ixR_z, ixR_1, M_isWall, M_isPainter, M_isWork, X_has4, X_has10, X_at, or_false, false_or, or_true, true_or, not_true, not_false_iff, Option.isSome_some, isO_d, gI_d, gA_d, pI_d, ne_eq, not_false_eq_true, u2_hi, u2_hj, u2_dyn, u2_dynj, Nat.reduceAdd]; try exact rfl), by (simp (decide := true) only [f_X15_sketchOf_92, f_X15_sketchOf_53, f_X15_sketchOf_22, f_X15_sketchOf, h1, isO_s, gI_s, gA_s, gL_s, pI_s, pZ_s, pL_s, aI_s, aL_s, aN_s, aQ_s, sI_s, sL_s, cr, LNs, Option.map_some, Option.map_none, Option.bind_some, b2, tr, lt, if_true, if_false, ckZ, X_within, M_in, inR_z, X_refuse, X_tell, X_deny, X_grant, M_refused, M_denied, M_done, M_granted, u2_same, u2_ne, u2_u2, upd_same, upd_ne, aW0, ixR_z, ixR_1, M_isWall, M_isPainter, M_isWork, X_has4, X_has10, X_at, or_false, false_or, or_true, true_or, not_true, not_false_iff, Option.isSome_some, isO_d, gI_d, gA_d, pI_d, ne_eq, not_false_eq_true, u2_hi, u2_hj, u2_dyn, u2_dynj, Nat.reduceAdd]; try exact rfl)⟩
  by_cases hx : (x < 0 ∨ 7 < x)
  · have hx2 : (x < 0 ∨ 10 < x) := by
      rcases hx with hx | hx
      · exact Or.inl hx
      · right; grind
    exact ⟨-1, I, by (simp (decide := true) only [f_X11_sketchOf_83, f_X11_sketchOf, h2, hx, x8, x9, x10, isO_s, gI_s, gA_s, gL_s, pI_s, pZ_s, pL_s, aI_s, aL_s, aN_s, aQ_s, sI_s, sL_s, cr, LNs, Option.map_some, Option.map_none, Option.bind_some, b2, tr, lt, if_true, if_false, ckZ, X_within, M_in, inR_z, X_refuse, X_tell, X_deny, X_grant, M_refused, M_denied, M_done, M_granted, u2_same, u2_ne, u2_u2, upd_same, upd_ne, aW0, ixR_z, ixR_1, M_isWall, M_isPainter, M_isWork, X_has4, X_has10, X_at, or_false, false_or, or_true, true_or, not_true, not_false_iff, Option.isSome_some, isO_d, gI_d, gA_d, pI_d, ne_eq, not_false_eq_true, u2_hi, u2_hj, u2_dyn, u2_dynj, Nat.reduceAdd]; try exact rfl), by (simp (decide := true) only [f_X15_sketchOf_92, f_X15_sketchOf_53, f_X15_sketchOf_22, f_X15_sketchOf, h1, hx2, isO_s, gI_s, gA_s, gL_s, pI_s, pZ_s, pL_s, aI_s, aL_s, aN_s, aQ_s, sI_s, sL_s, cr, LNs, Option.map_some, Option.map_none, Option.bind_some, b2, tr, lt, if_true, if_false, ckZ, X_within, M_in, inR_z, X_refuse, X_tell, X_deny, X_grant, M_refused, M_denied, M_done, M_granted, u2_same, u2_ne, u2_u2, upd_same, upd_ne, aW0, ixR_z, ixR_1, M_isWall, M_isPainter, M_isWork, X_has4, X_has10, X_at, or_false, false_or, or_true, true_or, not_true, not_false_iff, Option.isSome_some, isO_d, gI_d, gA_d, pI_d, ne_eq, not_false_eq_true, u2_hi, u2_hj, u2_dyn, u2_dynj, Nat.reduceAdd]; try exact rfl)⟩
  · have hx2 : ¬ (x < 0 ∨ 10 < x) := by
      rintro (h | h)
      · exact hx (Or.inl h)
      · exact hx (Or.inr (Int32.lt_trans (by decide) h))
    have hm := M_area (b := b) (F := F) (E := E) (L := L) (P := P) (nx := nx) (us := us) (I := th I) x
    unfold th at hm
    have e : sm (fun c => if I 59 c = x then 1 else 0) 0 192 = sm (fun c => if I 110 c = x then 1 else 0) 0 192 := by
      refine sm_congr _ _ ?_
      intro k _ hk
      rw [(h9 k (by omega)).1]
    refine ⟨sm (fun c => if I 110 c = x then 1 else 0) 0 192, I, ?_, ?_⟩
    · (simp (decide := true) only [f_X11_sketchOf_83, f_X11_sketchOf, h2, hx, X_area, e, isO_s, gI_s, gA_s, gL_s, pI_s, pZ_s, pL_s, aI_s, aL_s, aN_s, aQ_s, sI_s, sL_s, cr, LNs, Option.map_some, Option.map_none, Option.bind_some, b2, tr, lt, if_true, if_false, ckZ, X_within, M_in, inR_z, X_refuse, X_tell, X_deny, X_grant, M_refused, M_denied, M_done, M_granted, u2_same, u2_ne, u2_u2, upd_same, upd_ne, aW0, ixR_z, ixR_1, M_isWall, M_isPainter, M_isWork, X_has4, X_has10, X_at, or_false, false_or, or_true, true_or, not_true, not_false_iff, Option.isSome_some, isO_d, gI_d, gA_d, pI_d, ne_eq, not_false_eq_true, u2_hi, u2_hj, u2_dyn, u2_dynj, Nat.reduceAdd]; try exact rfl)
    · (simp (decide := true) only [f_X15_sketchOf_92, f_X15_sketchOf_53, f_X15_sketchOf_22, f_X15_sketchOf, h1, hx2, x8, x9, x10, hm, isO_s, gI_s, gA_s, gL_s, pI_s, pZ_s, pL_s, aI_s, aL_s, aN_s, aQ_s, sI_s, sL_s, cr, LNs, Option.map_some, Option.map_none, Option.bind_some, b2, tr, lt, if_true, if_false, ckZ, X_within, M_in, inR_z, X_refuse, X_tell, X_deny, X_grant, M_refused, M_denied, M_done, M_granted, u2_same, u2_ne, u2_u2, upd_same, upd_ne, aW0, ixR_z, ixR_1, M_isWall, M_isPainter, M_isWork, X_has4, X_has10, X_at, or_false, false_or, or_true, true_or, not_true, not_false_iff, Option.isSome_some, isO_d, gI_d, gA_d, pI_d, ne_eq, not_false_eq_true, u2_hi, u2_hj, u2_dyn, u2_dynj, Nat.reduceAdd]; try exact rfl)
end Q5
