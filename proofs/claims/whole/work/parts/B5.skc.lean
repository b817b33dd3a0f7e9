/-! ===== sketch: the call ===== -/
/-- what a sketch leaves alone -/
def FrSk (I : Nat → Nat → Int32) (L : Nat → Nat → Int64) (I2 : Nat → Nat → Int32) (L2 : Nat → Nat → Int64) : Prop := (∀ c, c ≠ 0 → (c < 58 ∨ 64 < c) → c ≠ 72 → c ≠ 106 → c ≠ 107 → c ≠ 108 → c ≠ 110 → I2 c = I c) ∧ (∀ k, k ≠ 16 → I2 0 k = I 0 k) ∧ (∀ k, [0, 1, 2, 47, 48, 49, 50, 52, 53, 54, 55, 56, 57].contains k = false → I2 72 k = I 72 k) ∧ ∀ c, c ≠ 109 → L2 c = L c
section SKC
variable {b : Nat} {F : Nat → Option AE} {D E : Nat → Option KD} {I : Nat → Nat → Int32} {L : Nat → Nat → Int64} {P : Nat → Nat → Option Nat} {nx us : Nat}
theorem M_s37 {w n : Int32} : ∀ (m i : Nat) (I : Nat → Nat → Int32) (fu : Nat), i + m = 192 → m < fu → f_X15_sketch_37 fu (ad b 72) w n (Int32.ofNat i) (lay b F E I L P nx us) = f_X15_sketch_37 1 (ad b 72) w n 192 (lay b F E (u2 I 110 (fun k => if i ≤ k ∧ k < 192 then I 106 k else I 110 k)) L P nx us) := by
  intro m
  induction m with
  | zero =>
    intro i I fu hi hfu
    obtain ⟨fu, rfl⟩ : ∃ z, fu = z + 1 := ⟨fu - 1, by omega⟩
    have : (fun k => if i ≤ k ∧ k < 192 then I 106 k else I 110 k) = I 110 := by
      funext k
      rw [if_neg (by omega)]
    have hi5 : i = 192 := by omega
    subst hi5
    rw [this, u2_id]
    have e : (192 : Int32) ≤ Int32.ofNat 192 := Int32.le_refl _
    have e' : (192 : Int32) ≤ 192 := Int32.le_refl _
    conv => lhs; unfold f_X15_sketch_37
    conv => rhs; unfold f_X15_sketch_37
    rw [if_pos e, if_pos e']
  | succ m ih =>
    intro i I fu hi hfu
    obtain ⟨fu, rfl⟩ : ∃ z, fu = z + 1 := ⟨fu - 1, by omega⟩
    have e : ¬ (192 : Int32) ≤ Int32.ofNat i := fun q => by have := (oN_le (a := 192) (by omega) (by omega)).mp q; omega
    have ei : iN (Int32.ofNat i) 192 = some i := iN_oN (by omega) (by omega)
    have g43 : gA 15 (lay b F E I L P nx us) (ad b 72) 43 = some (ad b 106) := by simp (decide := true) only [isO_s, gI_s, gA_s, gL_s, pI_s, pZ_s, pL_s, aI_s, aL_s, aN_s, aQ_s, sI_s, sL_s, cr, LNs, Option.map_some, Option.map_none, Option.bind_some, b2, tr, lt, if_true, if_false, ckZ, X_within, M_in, inR_z, X_refuse, X_tell, X_deny, X_grant, M_refused, M_denied, M_done, M_granted, u2_same, u2_ne, u2_u2, upd_same, upd_ne, aW0, ixR_z, ixR_1, M_isWall, M_isPainter, M_isWork, X_has4, X_has10, X_at, or_false, false_or, or_true, true_or, not_true, not_false_iff, Option.isSome_some, isO_d, gI_d, gA_d, pI_d, ne_eq, not_false_eq_true, u2_hi, u2_hj, u2_dyn, u2_dynj, Nat.reduceAdd, mX_r, mX_rD, mX_rDj, mM_r, mX_u, mX_uM, mX_uD, mX_uDj, mM_u, mM_uX, mM_uD, mM_uDj, u2_dd, u2_d0, u2_0d]
    have g51 : gA 15 (lay b F E I L P nx us) (ad b 72) 51 = some (ad b 110) := by simp (decide := true) only [isO_s, gI_s, gA_s, gL_s, pI_s, pZ_s, pL_s, aI_s, aL_s, aN_s, aQ_s, sI_s, sL_s, cr, LNs, Option.map_some, Option.map_none, Option.bind_some, b2, tr, lt, if_true, if_false, ckZ, X_within, M_in, inR_z, X_refuse, X_tell, X_deny, X_grant, M_refused, M_denied, M_done, M_granted, u2_same, u2_ne, u2_u2, upd_same, upd_ne, aW0, ixR_z, ixR_1, M_isWall, M_isPainter, M_isWork, X_has4, X_has10, X_at, or_false, false_or, or_true, true_or, not_true, not_false_iff, Option.isSome_some, isO_d, gI_d, gA_d, pI_d, ne_eq, not_false_eq_true, u2_hi, u2_hj, u2_dyn, u2_dynj, Nat.reduceAdd, mX_r, mX_rD, mX_rDj, mM_r, mX_u, mX_uM, mX_uD, mX_uDj, mM_u, mM_uX, mM_uD, mM_uDj, u2_dd, u2_d0, u2_0d]
    have a6 : aI 0 (lay b F E I L P nx us) (ad b 106) (Int32.ofNat i) = some (I 106 i) := by simp (decide := true) only [ei, isO_s, gI_s, gA_s, gL_s, pI_s, pZ_s, pL_s, aI_s, aL_s, aN_s, aQ_s, sI_s, sL_s, cr, LNs, Option.map_some, Option.map_none, Option.bind_some, b2, tr, lt, if_true, if_false, ckZ, X_within, M_in, inR_z, X_refuse, X_tell, X_deny, X_grant, M_refused, M_denied, M_done, M_granted, u2_same, u2_ne, u2_u2, upd_same, upd_ne, aW0, ixR_z, ixR_1, M_isWall, M_isPainter, M_isWork, X_has4, X_has10, X_at, or_false, false_or, or_true, true_or, not_true, not_false_iff, Option.isSome_some, isO_d, gI_d, gA_d, pI_d, ne_eq, not_false_eq_true, u2_hi, u2_hj, u2_dyn, u2_dynj, Nat.reduceAdd, mX_r, mX_rD, mX_rDj, mM_r, mX_u, mX_uM, mX_uD, mX_uDj, mM_u, mM_uX, mM_uD, mM_uDj, u2_dd, u2_d0, u2_0d]
    have s7 : sI 0 (lay b F E I L P nx us) (ad b 110) (Int32.ofNat i) (I 106 i) = some (lay b F E (u2 I 110 (upd (I 110) i (I 106 i))) L P nx us) := by simp (decide := true) only [ei, isO_s, gI_s, gA_s, gL_s, pI_s, pZ_s, pL_s, aI_s, aL_s, aN_s, aQ_s, sI_s, sL_s, cr, LNs, Option.map_some, Option.map_none, Option.bind_some, b2, tr, lt, if_true, if_false, ckZ, X_within, M_in, inR_z, X_refuse, X_tell, X_deny, X_grant, M_refused, M_denied, M_done, M_granted, u2_same, u2_ne, u2_u2, upd_same, upd_ne, aW0, ixR_z, ixR_1, M_isWall, M_isPainter, M_isWork, X_has4, X_has10, X_at, or_false, false_or, or_true, true_or, not_true, not_false_iff, Option.isSome_some, isO_d, gI_d, gA_d, pI_d, ne_eq, not_false_eq_true, u2_hi, u2_hj, u2_dyn, u2_dynj, Nat.reduceAdd, mX_r, mX_rD, mX_rDj, mM_r, mX_u, mX_uM, mX_uD, mX_uDj, mM_u, mM_uX, mM_uD, mM_uDj, u2_dd, u2_d0, u2_0d]
    conv => lhs; unfold f_X15_sketch_37
    rw [if_neg e, g51, Option.bind_some, g43, Option.bind_some, a6, Option.bind_some, s7, Option.bind_some, oN_succ, ih (i + 1) _ fu (by omega) (by omega), u2_u2, u2_same, u2_ne (show (106 : Nat) ≠ 110 by decide)]
    congr 3
    funext k
    by_cases hk : k = i
    · subst hk
      rw [if_neg (by omega), upd_same, if_pos (by omega)]
    · rw [upd_ne hk]
      by_cases hk2 : i + 1 ≤ k ∧ k < 192
      · rw [if_pos hk2, if_pos (by omega)]
      · rw [if_neg hk2, if_neg (by omega)]
theorem M_sEnd {w nb m : Nat} {n : Int32} {W H : Int32} {sp : Bool} (hw : w < 16) (hnb : nb ≤ 12) (hm : m ≤ 40) (h41 : I 72 41 = Int32.ofNat nb) (h49 : I 72 49 = Int32.ofNat m) (h73 : I 73 w = W) (h74 : I 74 w = H) (h50 : I 72 50 = bZ sp) : f_X15_sketch_37 1 (ad b 72) (Int32.ofNat w) n 192 (lay b F E I L P nx us) = some (n, lay b F E (u2 I 72 (mE (upd (upd (upd (upd (upd (upd (I 72) 56 1) 52 W) 53 H) 54 (I 72 48)) 57 (I 72 50)) 55 (sm (fun j => sm (fun k => if L 109 k = L 105 j then 1 else 0) 0 m) 0 nb)) 0)) L P nx us) := by
  have ew : iN (Int32.ofNat w) 16 = some w := iN_oN hw (by omega)
  have e' : (192 : Int32) ≤ 192 := Int32.le_refl _
  have hz : bZ sp = 0 ∨ bZ sp = 1 := by cases sp <;> decide
  have hb := M_bars (b := b) (F := F) (E := E) (I := u2 I 72 (upd (upd (upd (upd (upd (I 72) 56 1) 52 W) 53 H) 54 (I 72 48)) 57 (I 72 50))) (L := L) (P := P) (nx := nx) (us := us) hnb hm (by simp (decide := true) only [u2_same, u2_ne, u2_u2, upd_same, upd_ne, mE, u2_dyn, dyn_u2, dyn_hi, u2_hi, u2_hj, u2_dynj, u2_dd, u2_d0, u2_0d]; exact h41) (by simp (decide := true) only [u2_same, u2_ne, u2_u2, upd_same, upd_ne, mE, u2_dyn, dyn_u2, dyn_hi, u2_hi, u2_hj, u2_dynj, u2_dd, u2_d0, u2_0d]; exact h49)
  have hpz : ∀ r : RW, pZ 15 (lay b F E (u2 I 72 r) L P nx us) (ad b 72) 57 (I 72 50) = some (lay b F E (u2 I 72 (upd r 57 (I 72 50))) L P nx us) := fun r => by
    rw [pZ_s (by decide) (by decide) (by rw [h50]; exact hz), u2_u2, u2_same]
  unfold f_X15_sketch_37
  rw [if_pos e']
  simp (decide := true) only [pZ_s (x := 1), ew, h73, h74, hpz, hb, isO_s, gI_s, gA_s, gL_s, pI_s, pL_s, aI_s, aL_s, aN_s, aQ_s, sI_s, sL_s, cr, LNs, Option.map_some, Option.map_none, Option.bind_some, b2, tr, lt, if_true, if_false, ckZ, X_within, M_in, inR_z, X_refuse, X_tell, X_deny, X_grant, M_refused, M_denied, M_done, M_granted, u2_same, u2_ne, u2_u2, upd_same, upd_ne, aW0, ixR_z, ixR_1, M_isWall, M_isPainter, M_isWork, X_has4, X_has10, X_at, or_false, false_or, or_true, true_or, not_true, not_false_iff, Option.isSome_some, isO_d, gI_d, gA_d, pI_d, ne_eq, not_false_eq_true, u2_hi, u2_hj, u2_dyn, u2_dynj, Nat.reduceAdd, mX_r, mX_rD, mX_rDj, mM_r, mX_u, mX_uM, mX_uD, mX_uDj, mM_u, mM_uX, mM_uD, mM_uDj, u2_dd, u2_d0, u2_0d]
theorem call_sketch (p1 p2 : Int32) {nw nk nt nd nb wn a : Nat} {q wd hg ow cd rd : Nat → Nat} (hT : GTI I) (hnw : Cn nw 16 (I 1 1) (I 72 4)) (hnd : Cn nd 12 (I 0 10) (I 72 38)) (hnb : Cn nb 12 (I 0 12) (I 72 41)) (hA : WA nw q wd hg ow E (P 2)) (hW : WALL nw nk nt q wd hg I) (hD : GDr nd cd rd wn E I L P ow) (hBr : GBar nb (L 53) (L 105)) (hSk : GSk (I 58) (I 59) (I 110) (I 72 52) (I 72 53) (I 72 54) (I 72 55) (I 72 56) (I 72 57)) (hO : ∀ c, a ≤ c → ow c = 0) :
    ∃ I2 L2, RunG b F (f_X11_sketch (ad b 0) p1 p2) (f_X15_sketch (ad b 72) p1 p2) E I L P nx us E I2 L2 P nx us ∧ GTI I2 ∧ GSk (I2 58) (I2 59) (I2 110) (I2 72 52) (I2 72 53) (I2 72 54) (I2 72 55) (I2 72 56) (I2 72 57) ∧ FrSk I L I2 L2 := by
  have hrf : GTI (rf I 1) ∧ GSk (rf I 1 58) (rf I 1 59) (rf I 1 110) (rf I 1 72 52) (rf I 1 72 53) (rf I 1 72 54) (rf I 1 72 55) (rf I 1 72 56) (rf I 1 72 57) ∧ FrSk I L (rf I 1) L := by
    refine ⟨rf_GT hT (by decide), by simp (decide := true) only [rf, u2_same, u2_ne, u2_u2, upd_same, upd_ne, mE, u2_dyn, dyn_u2, dyn_hi, u2_hi, u2_hj, u2_dynj, u2_dd, u2_d0, u2_0d]; exact hSk, fun c c1 _ c3 _ _ _ _ => by unfold rf; rw [u2_ne c3, u2_ne c1], fun k hk => by unfold rf; rw [u2_ne (by decide), u2_same, upd_ne hk], fun k hk => ?_, fun _ _ => rfl⟩
    simp at hk
    unfold rf mE
    rw [u2_same, upd_ne (by omega), upd_ne (by omega), upd_ne (by omega)]
  have hdr := fun (J : Nat → Nat → Int32) => X_drAt (b := b) (F := F) (E := E) (I := J) (L := L) (P := P) (nx := nx) (us := us) p1
  have hid := fun (J : Nat → Nat → Int32) => M_isDrw (b := b) (F := F) (E := E) (I := J) (L := L) (P := P) (nx := nx) (us := us) p1
  rcases drCase hnd hD p1 with ⟨d1, d2⟩ | ⟨d, hd, rfl, d1, d2⟩
  · refine ⟨rf I 1, L, ⟨-1, E, u2 I 0 (upd (I 0) 16 1), L, P, nx, us, ?_, ?_⟩, hrf⟩
    · rcases wallCase hnw hA p2 with ⟨h1, h2⟩ | ⟨w, hw, rfl, h1, h2⟩
      · simp (decide := true) only [f_X11_sketch_25, f_X11_sketch, h1, hdr, d1, isO_s, gI_s, gA_s, gL_s, pI_s, pZ_s, pL_s, aI_s, aL_s, aN_s, aQ_s, sI_s, sL_s, cr, LNs, Option.map_some, Option.map_none, Option.bind_some, b2, tr, lt, if_true, if_false, ckZ, X_within, M_in, inR_z, X_refuse, X_tell, X_deny, X_grant, M_refused, M_denied, M_done, M_granted, u2_same, u2_ne, u2_u2, upd_same, upd_ne, aW0, ixR_z, ixR_1, M_isWall, M_isPainter, M_isWork, X_has4, X_has10, X_at, or_false, false_or, or_true, true_or, not_true, not_false_iff, Option.isSome_some, isO_d, gI_d, gA_d, pI_d, ne_eq, not_false_eq_true, u2_hi, u2_hj, u2_dyn, u2_dynj, Nat.reduceAdd, mX_r, mX_rD, mX_rDj, mM_r, mX_u, mX_uM, mX_uD, mX_uDj, mM_u, mM_uX, mM_uD, mM_uDj, u2_dd, u2_d0, u2_0d]
      · simp (decide := true) only [f_X11_sketch_25, f_X11_sketch, h1, hdr, d1, isO_s, gI_s, gA_s, gL_s, pI_s, pZ_s, pL_s, aI_s, aL_s, aN_s, aQ_s, sI_s, sL_s, cr, LNs, Option.map_some, Option.map_none, Option.bind_some, b2, tr, lt, if_true, if_false, ckZ, X_within, M_in, inR_z, X_refuse, X_tell, X_deny, X_grant, M_refused, M_denied, M_done, M_granted, u2_same, u2_ne, u2_u2, upd_same, upd_ne, aW0, ixR_z, ixR_1, M_isWall, M_isPainter, M_isWork, X_has4, X_has10, X_at, or_false, false_or, or_true, true_or, not_true, not_false_iff, Option.isSome_some, isO_d, gI_d, gA_d, pI_d, ne_eq, not_false_eq_true, u2_hi, u2_hj, u2_dyn, u2_dynj, Nat.reduceAdd, mX_r, mX_rD, mX_rDj, mM_r, mX_u, mX_uM, mX_uD, mX_uDj, mM_u, mM_uX, mM_uD, mM_uDj, u2_dd, u2_d0, u2_0d]
    · simp (decide := true) only [f_X15_sketch_21, f_X15_sketch, hid, d2, isO_s, gI_s, gA_s, gL_s, pI_s, pZ_s, pL_s, aI_s, aL_s, aN_s, aQ_s, sI_s, sL_s, cr, LNs, Option.map_some, Option.map_none, Option.bind_some, b2, tr, lt, if_true, if_false, ckZ, X_within, M_in, inR_z, X_refuse, X_tell, X_deny, X_grant, M_refused, M_denied, M_done, M_granted, u2_same, u2_ne, u2_u2, upd_same, upd_ne, aW0, ixR_1, M_isWall, M_isPainter, M_isWork, X_has4, X_has10, X_at, or_false, false_or, or_true, true_or, not_true, not_false_iff, Option.isSome_some, isO_d, gI_d, gA_d, pI_d, ne_eq, not_false_eq_true, u2_hi, u2_hj, u2_dyn, u2_dynj, Nat.reduceAdd, mX_r, mX_rD, mX_rDj, mM_r, mX_u, mX_uM, mX_uD, mX_uDj, mM_u, mM_uX, mM_uD, mM_uDj, u2_dd, u2_d0, u2_0d]
      rfl
  rcases wallCase hnw hA p2 with ⟨h1, h2⟩ | ⟨w, hw, rfl, h1, h2⟩
  · refine ⟨rf I 1, L, ⟨-1, E, u2 I 0 (upd (I 0) 16 1), L, P, nx, us, ?_, ?_⟩, hrf⟩
    · simp (decide := true) only [f_X11_sketch_25, f_X11_sketch, h1, hdr, d1, isO_s, gI_s, gA_s, gL_s, pI_s, pZ_s, pL_s, aI_s, aL_s, aN_s, aQ_s, sI_s, sL_s, cr, LNs, Option.map_some, Option.map_none, Option.bind_some, b2, tr, lt, if_true, if_false, ckZ, X_within, M_in, inR_z, X_refuse, X_tell, X_deny, X_grant, M_refused, M_denied, M_done, M_granted, u2_same, u2_ne, u2_u2, upd_same, upd_ne, aW0, ixR_z, ixR_1, M_isWall, M_isPainter, M_isWork, X_has4, X_has10, X_at, or_false, false_or, or_true, true_or, not_true, not_false_iff, Option.isSome_some, isO_d, gI_d, gA_d, pI_d, ne_eq, not_false_eq_true, u2_hi, u2_hj, u2_dyn, u2_dynj, Nat.reduceAdd, mX_r, mX_rD, mX_rDj, mM_r, mX_u, mX_uM, mX_uD, mX_uDj, mM_u, mM_uX, mM_uD, mM_uDj, u2_dd, u2_d0, u2_0d]
    · simp (decide := true) only [f_X15_sketch_21, f_X15_sketch, hid, d2, h2, isO_s, gI_s, gA_s, gL_s, pI_s, pZ_s, pL_s, aI_s, aL_s, aN_s, aQ_s, sI_s, sL_s, cr, LNs, Option.map_some, Option.map_none, Option.bind_some, b2, tr, lt, if_true, if_false, ckZ, X_within, M_in, inR_z, X_refuse, X_tell, X_deny, X_grant, M_refused, M_denied, M_done, M_granted, u2_same, u2_ne, u2_u2, upd_same, upd_ne, aW0, ixR_1, M_isWall, M_isPainter, M_isWork, X_has4, X_has10, X_at, or_false, false_or, or_true, true_or, not_true, not_false_iff, Option.isSome_some, isO_d, gI_d, gA_d, pI_d, ne_eq, not_false_eq_true, u2_hi, u2_hj, u2_dyn, u2_dynj, Nat.reduceAdd, mX_r, mX_rD, mX_rDj, mM_r, mX_u, mX_uM, mX_uD, mX_uDj, mM_u, mM_uX, mM_uD, mM_uDj, u2_dd, u2_d0, u2_0d]
      rfl
  obtain ⟨hB, hC, hDd, hE, hF, hG, hH, hI, hU⟩ := hW
  obtain ⟨n1, n2, n3⟩ := hnb
  have hw16 : w < 16 := by have := hnw.1; omega
  obtain ⟨-, -, w1, w2, w3, w4, -, -⟩ := hA w hw
  obtain ⟨b0, b1, b2', b3⟩ := hB w hw
  obtain ⟨ho, A', J, y1, y2, y3, y4, y5, y6, y7⟩ := paintW (b := b) (F := F) (E := E) (I := I) (L := L) (P := P) (nx := nx) (us := us) (cv := 58) (Or.inl rfl) hnw.1 hnd.1 hA hB hF hD hw hd n1 hO
  let K : Nat → Nat → Int32 := u2 J 0 (upd (J 0) 16 0)
  have hKJ : ∀ c, c ≠ 0 → K c = J c := fun c h => u2_ne h
  have J0 : J 0 = I 0 := y5 0 (by omega)
  have hrd := GDr_rd hD hd
  obtain ⟨Q, M, m1, m2, m3, m4, m5⟩ := y7 (u2 K 72 (upd (K 72) 0 0)) L (fun c hc _ => ⟨by rw [u2_ne (by omega), hKJ c (by omega), y5 c (by omega)], rfl⟩) (fun j hj => ⟨by rw [u2_ne (by omega), hKJ _ (by omega), y5 _ (by omega)], rfl⟩)
  have hq : ∀ c, c ≠ 72 → c ≠ 106 → c ≠ 107 → c ≠ 108 → Q c = K c := fun c c1 c2 c3 c4 => by rw [m3 c c1 c2 c3 c4, u2_ne c1]
  have hq72 : ∀ k, k ≠ 0 → k ≠ 47 → k ≠ 48 → k ≠ 49 → k ≠ 50 → Q 72 k = I 72 k := fun k k0 k1 k2 k3 k4 => by rw [m4 k k1 k2 k3 k4, u2_same, upd_ne k0, hKJ 72 (by decide), y5 72 (by omega)]
  let Q1 : Nat → Nat → Int32 := u2 Q 110 (fun k => if 0 ≤ k ∧ k < 192 then Q 106 k else Q 110 k)
  have hQ1 : ∀ c, c ≠ 110 → Q1 c = Q c := fun c h => u2_ne h
  obtain ⟨x1, x2, x3, x4, x5, x6, x7, x8, x9, xa⟩ := y4
  obtain ⟨z1, z2, z3, z4, z5, z6, z7⟩ := m2
  obtain ⟨o1, o2, o3, o4, o5, o6⟩ := y1
  have hs37 := M_s37 (b := b) (F := F) (E := E) (L := M) (P := P) (nx := nx) (us := us) (w := Int32.ofNat w) (n := sm (pntF (Q 106)) 0 192) 192 0 Q FU (by omega) (by unfold FU; omega)
  have hend := M_sEnd (b := b) (F := F) (E := E) (I := Q1) (L := M) (P := P) (nx := nx) (us := us) (w := w) (n := sm (pntF (Q 106)) 0 192) (nb := nb) (sp := A'.2.2.2.1) (W := Int32.ofNat (wd w)) (H := Int32.ofNat (hg w)) hw16 n1 o3 (by rw [hQ1 72 (by decide), hq72 41 (by decide) (by decide) (by decide) (by decide) (by decide)]; exact n3) (by rw [hQ1 72 (by decide)]; exact z4) (by rw [hQ1 73 (by decide)]; exact z1.2.2.2.2.2.2.1) (by rw [hQ1 74 (by decide)]; exact z1.2.2.2.2.2.2.2.1) (by rw [hQ1 72 (by decide)]; exact z3)
  rw [hQ1 72 (by decide)] at hend
  have hcnt : sm (pntF (J 59)) 0 192 = sm (pntF (Q 106)) 0 192 := by
    refine sm_congr 192 0 (fun k _ k2 => ?_)
    unfold pntF
    have e1 : J 59 k = A'.2.1 k := x9 k (by omega)
    have e2 : Q 106 k = A'.2.1 k := z6 k (by omega)
    rw [e1, e2]
  let R7 : RW := upd (upd (upd (upd (upd (upd (Q 72) 56 1) 52 (Int32.ofNat (wd w))) 53 (Int32.ofNat (hg w))) 54 (Q 72 48)) 57 (Q 72 50)) 55 (sm (fun j => sm (fun k => if M 109 k = M 105 j then 1 else 0) 0 A'.2.2.2.2.1) 0 nb)
  let I2 : Nat → Nat → Int32 := u2 Q1 72 (mE R7 0)
  have hI2 : ∀ c, c ≠ 72 → c ≠ 110 → I2 c = Q c := fun c c1 c2 => (u2_ne c1).trans (hQ1 c c2)
  have hI72 : I2 72 = mE R7 0 := u2_same _ _ _
  have hI58 : I2 58 = J 58 := by rw [hI2 58 (by decide) (by decide), hq 58 (by decide) (by decide) (by decide) (by decide), hKJ 58 (by decide)]
  have hI59 : I2 59 = J 59 := by rw [hI2 59 (by decide) (by decide), hq 59 (by decide) (by decide) (by decide) (by decide), hKJ 59 (by decide)]
  have hI110 : ∀ k, k < 192 → I2 110 k = Q 106 k := fun k hk => by
    have : I2 110 = fun k => if 0 ≤ k ∧ k < 192 then Q 106 k else Q 110 k := by
      show u2 (u2 Q 110 _) 72 _ 110 = _
      rw [u2_ne (by decide), u2_same]
    rw [this]
    exact if_pos ⟨Nat.zero_le _, hk⟩
  have hI0 : I2 0 = upd (I 0) 16 0 := by
    rw [hI2 0 (by decide) (by decide), hq 0 (by decide) (by decide) (by decide) (by decide), ← J0]
    exact u2_same _ _ _
  refine ⟨I2, M, ⟨sm (pntF (J 59)) 0 192, E, K, L, P, nx, us, ?_, ?_⟩, ?_, ?_, ?_, ?_, ?_, ?_⟩
  · have hptd := X_ptd (b := b) (F := F) (E := E) (I := J) (L := L) (P := P) (nx := nx) (us := us) (cv := 58) (Or.inl rfl)
    simp (decide := true) only [b2_p, f_X11_sketch_25, f_X11_sketch, h1, hdr, d1, n2, y3, hptd, isO_s, gI_s, gA_s, gL_s, pI_s, pZ_s, pL_s, aI_s, aL_s, aN_s, aQ_s, sI_s, sL_s, cr, LNs, Option.map_some, Option.map_none, Option.bind_some, tr, lt, if_true, if_false, ckZ, X_within, M_in, inR_z, X_refuse, X_tell, X_deny, X_grant, M_refused, M_denied, M_done, M_granted, u2_same, u2_ne, u2_u2, upd_same, upd_ne, aW0, ixR_z, ixR_1, M_isWall, M_isPainter, M_isWork, X_has4, X_has10, X_at, or_false, false_or, or_true, true_or, not_true, not_false_iff, Option.isSome_some, isO_d, gI_d, gA_d, pI_d, ne_eq, not_false_eq_true, u2_hi, u2_hj, u2_dyn, u2_dynj, Nat.reduceAdd, mX_r, mX_rD, mX_rDj, mM_r, mX_u, mX_uM, mX_uD, mX_uDj, mM_u, mM_uX, mM_uD, mM_uDj, u2_dd, u2_d0, u2_0d]
    rfl
  · have hw' : ∀ (J : Nat → Nat → Int32), J 72 4 = I 72 4 → f_X15_isWall (ad b 72) (Int32.ofNat w) (lay b F E J L P nx us) = some (1, lay b F E J L P nx us) := fun J hJ => by rw [M_isWall, hJ, h2]
    have hd' : ∀ (J : Nat → Nat → Int32), J 72 38 = I 72 38 → f_X15_isDrawing (ad b 72) (Int32.ofNat d) (lay b F E J L P nx us) = some (1, lay b F E J L P nx us) := fun J hJ => by rw [M_isDrw, hJ, d2]
    have k72 : K 72 = I 72 := by rw [hKJ 72 (by decide), y5 72 (by omega)]
    have n10 : ¬ (1 : Int32) = 0 := by decide
    have hs37' : f_X15_sketch_37 FU (ad b 72) (Int32.ofNat w) (sm (pntF (Q 106)) 0 192) 0 (lay b F E Q M P nx us) = _ := hs37
    unfold f_X15_sketch
    rw [if_pos (isO_s (by decide)), pI_s (by decide) (by decide), Option.bind_some, hd' _ (by rw [u2_same, upd_ne (by decide), k72]), b2_p, if_neg n10, hw' _ (by rw [u2_same, upd_ne (by decide), k72]), b2_p, if_neg n10, m1, b2_p, hs37', hcnt]
    exact hend
  · unfold GTI
    rw [hI0, hI72]
    have e3 : mE R7 0 3 = I 72 3 := by
      simp (decide := true) only [R7, u2_same, u2_ne, u2_u2, upd_same, upd_ne, mE, u2_dyn, dyn_u2, dyn_hi, u2_hi, u2_hj, u2_dynj, u2_dd, u2_d0, u2_0d]
      exact hq72 3 (by decide) (by decide) (by decide) (by decide) (by decide)
    have t1 : mE R7 0 1 = 0 := by simp (decide := true) only [R7, u2_same, u2_ne, u2_u2, upd_same, upd_ne, mE, u2_dyn, dyn_u2, dyn_hi, u2_hi, u2_hj, u2_dynj, u2_dd, u2_d0, u2_0d]
    have t2 : mE R7 0 2 = -1 := by simp (decide := true) only [R7, u2_same, u2_ne, u2_u2, upd_same, upd_ne, mE, u2_dyn, dyn_u2, dyn_hi, u2_hi, u2_hj, u2_dynj, u2_dd, u2_d0, u2_0d]
    rw [t1, t2, e3, upd_same, upd_ne (by decide), upd_ne (by decide)]
    exact GT_end hT (by decide)
  · refine Or.inr ⟨?_, ?_, ?_, ?_, ⟨wd w, w1, w2, ?_⟩, ⟨hg w, w3, w4, ?_⟩, ?_, ?_, ?_, ?_, ?_, ?_, fun c hc => ?_⟩
    · rw [hI72]; simp (decide := true) only [R7, u2_same, u2_ne, u2_u2, upd_same, upd_ne, mE, u2_dyn, dyn_u2, dyn_hi, u2_hi, u2_hj, u2_dynj, u2_dd, u2_d0, u2_0d]
    · rw [hI58]; exact y6
    · rw [hI58, hI72]; simp (decide := true) only [R7, u2_same, u2_ne, u2_u2, upd_same, upd_ne, mE, u2_dyn, dyn_u2, dyn_hi, u2_hi, u2_hj, u2_dynj, u2_dd, u2_d0, u2_0d]; exact x1
    · rw [hI58, hI72]; simp (decide := true) only [R7, u2_same, u2_ne, u2_u2, upd_same, upd_ne, mE, u2_dyn, dyn_u2, dyn_hi, u2_hi, u2_hj, u2_dynj, u2_dd, u2_d0, u2_0d]; exact x2
    · rw [hI72]; simp (decide := true) only [R7, u2_same, u2_ne, u2_u2, upd_same, upd_ne, mE, u2_dyn, dyn_u2, dyn_hi, u2_hi, u2_hj, u2_dynj, u2_dd, u2_d0, u2_0d]
    · rw [hI72]; simp (decide := true) only [R7, u2_same, u2_ne, u2_u2, upd_same, upd_ne, mE, u2_dyn, dyn_u2, dyn_hi, u2_hi, u2_hj, u2_dynj, u2_dd, u2_d0, u2_0d]
    · rw [hI58, hI72]; simp (decide := true) only [R7, u2_same, u2_ne, u2_u2, upd_same, upd_ne, mE, u2_dyn, dyn_u2, dyn_hi, u2_hi, u2_hj, u2_dynj, u2_dd, u2_d0, u2_0d]; exact x5.trans z2.symm
    · rw [hI58, hI72]; simp (decide := true) only [R7, u2_same, u2_ne, u2_u2, upd_same, upd_ne, mE, u2_dyn, dyn_u2, dyn_hi, u2_hi, u2_hj, u2_dynj, u2_dd, u2_d0, u2_0d]; exact x6.trans z3.symm
    · rw [hI72]; simp (decide := true) only [R7, u2_same, u2_ne, u2_u2, upd_same, upd_ne, mE, u2_dyn, dyn_u2, dyn_hi, u2_hi, u2_hj, u2_dynj, u2_dd, u2_d0, u2_0d]; rw [z3]; cases A'.2.2.2.1 <;> decide
    · rw [hI58, hI72]; simp (decide := true) only [R7, u2_same, u2_ne, u2_u2, upd_same, upd_ne, mE, u2_dyn, dyn_u2, dyn_hi, u2_hi, u2_hj, u2_dynj, u2_dd, u2_d0, u2_0d]
      rw [BT_cnt (m := A'.2.2.2.2.1) (sh := A'.2.2.2.2.2) (barm := M 105) n1 o4 (fun k hk => by rw [m5 105 (by decide)]; exact hBr k hk) x7]
      refine sm_congr nb 0 (fun j _ _ => sm_congr _ 0 (fun k _ k2 => ?_))
      rw [z7 k (by omega)]
    · obtain ⟨z, zz, e⟩ := BT_rng n1 x7
      rw [hI58, e]
      exact oN_leL (n := 0) (by omega) (by omega)
    · obtain ⟨z, zz, e⟩ := BT_rng n1 x7
      rw [hI58, e]
      exact (oN_lt (c := 4096) (by omega) (by omega)).mpr zz
    · have e1 : J 59 c = A'.2.1 c := x9 c hc
      have e2 : Q 106 c = A'.2.1 c := z6 c hc
      rw [hI59, hI110 c hc, e1, e2]
      exact ⟨rfl, (o6 c hc).1, (o6 c hc).2.1⟩
  · intro c c1 c2 c3 c4 c5 c6 c7
    rw [hI2 c c3 c7, hq c c3 c4 c5 c6, hKJ c c1, y5 c (by omega)]
  · intro k hk
    rw [hI0, upd_ne hk]
  · intro k hk
    simp at hk
    rw [hI72]
    show upd (upd (upd (upd (upd (upd (upd (upd (Q 72) 56 1) 52 _) 53 _) 54 _) 57 _) 55 _) 1 0) 2 (-1) k = _
    rw [upd_ne (by omega), upd_ne (by omega), upd_ne (by omega), upd_ne (by omega), upd_ne (by omega), upd_ne (by omega), upd_ne (by omega), upd_ne (by omega)]
    exact hq72 k (by omega) (by omega) (by omega) (by omega) (by omega)
  · exact fun c hc => m5 c hc
end SKC
