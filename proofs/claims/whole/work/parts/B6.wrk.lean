/-! ===== work: the pieces of both ===== -/
theorem aW1_b {x : Int32} (h1 : -1 ≤ x) (h2 : x ≤ 7) : aW 1 x = x := by
  have key : ∀ j, j < 9 → aW 1 (Int32.ofNat j - 1) = Int32.ofNat j - 1 := by decide +kernel
  have e0 : (-1 : Int32).toInt = -1 := by decide
  have e7 : (7 : Int32).toInt = 7 := by decide
  have q1 := Int32.le_iff_toInt_le.mp h1
  have q2 := Int32.le_iff_toInt_le.mp h2
  rw [e0] at q1
  rw [e7] at q2
  have hx : x = Int32.ofNat (x.toInt + 1).toNat - 1 := by
    apply Int32.toInt_inj.mp
    have e1 : (1 : Int32).toInt = 1 := by decide
    rw [Int32.toInt_sub, oN_toInt (by omega), e1]
    rw [Int.bmod_eq_of_le (by omega) (by omega)]
    omega
  rw [hx]
  exact key _ (by omega)
section WRK
variable {b : Nat} {F : Nat → Option AE} {D E : Nat → Option KD} {I : Nat → Nat → Int32} {L : Nat → Nat → Int64} {P : Nat → Nat → Option Nat} {nx us : Nat}
theorem X_plan {wl N : Nat} (hN : N ≤ 192) (hwl : 149 ≤ wl) (k0 : kdf E wl = some (.inr (8, true))) (k4 : kdf E (wl + 4) = some (.inl (1, N))) : ∀ (m i : Nat) (I : Nat → Nat → Int32) (fu : Nat), i + m = N → m < fu → (∀ k, k < N → aW 1 (I 66 k) = I 66 k) → f_X8_plan_2 fu (ad b wl) (ad b 66) (Int32.ofNat i) (lay b F E I L P nx us) = some (lay b F E (u2 I (wl + 4) (fun k => if i ≤ k ∧ k < N then I 66 k else I (wl + 4) k)) L P nx us) := by
  have k66 : KT 66 = some (.inl (1, 192)) := by decide
  intro m
  induction m with
  | zero =>
    intro i I fu hi hfu hh
    obtain ⟨fu, rfl⟩ : ∃ z, fu = z + 1 := ⟨fu - 1, by omega⟩
    unfold f_X8_plan_2 f_X8_plan_32
    rw [gA_cr k0 (by decide) (show cr 8 wl 14 = some (wl + 4) from rfl), Option.bind_some, aN_lay k4, Option.bind_some, if_pos (oN_leL (by omega) (by omega))]
    have : (fun k => if i ≤ k ∧ k < N then I 66 k else I (wl + 4) k) = I (wl + 4) := by
      funext k
      rw [if_neg (by omega)]
    rw [this, u2_id]
  | succ m ih =>
    intro i I fu hi hfu hh
    obtain ⟨fu, rfl⟩ : ∃ z, fu = z + 1 := ⟨fu - 1, by omega⟩
    have ei : iN (Int32.ofNat i) N = some i := iN_oN (by omega) (by omega)
    have ei2 : iN (Int32.ofNat i) 192 = some i := iN_oN (by omega) (by omega)
    unfold f_X8_plan_2 f_X8_plan_32
    rw [gA_cr k0 (by decide) (show cr 8 wl 14 = some (wl + 4) from rfl), Option.bind_some, aN_lay k4, Option.bind_some, if_neg (fun q => by have := (oN_le (by omega) (by omega)).mp q; omega), aN_lay (kdf_KT k66), Option.bind_some, if_neg (fun q => by have := (oN_le (by omega) (by omega)).mp q; omega), Option.bind_some, aI_lay (kdf_KT k66) (by decide), ei2, Option.map_some, Option.bind_some, sI_lay k4 (by decide), ei, Option.map_some, Option.bind_some, hh i (by omega), oN_succ]
    have := ih (i + 1) (u2 I (wl + 4) (upd (I (wl + 4)) i (I 66 i))) fu (by omega) (by omega) (fun k hk => by rw [u2_ne (by omega)]; exact hh k hk)
    rw [this, u2_u2, u2_same, u2_ne (show 66 ≠ wl + 4 by omega)]
    congr 3
    funext k
    by_cases hk : k = i
    · subst hk
      rw [if_neg (by omega), upd_same, if_pos (by omega)]
    · rw [upd_ne hk]
      by_cases hk2 : i + 1 ≤ k ∧ k < N
      · rw [if_pos hk2, if_pos (by omega)]
      · rw [if_neg hk2, if_neg (by omega)]
/-- the class's rows behind a work begun -/
def xBw (a nk w : Nat) (pa dr n : Int32) (I : Nat → Nat → Int32) : Nat → Nat → Int32 := u2 (u2 (u2 (u2 (u2 (u2 (u2 (u2 (u2 (u2 I 14 (upd (I 14) nk (Int32.ofNat w))) 15 (upd (I 15) nk pa)) 16 (upd (I 16) nk dr)) 21 (upd (I 21) nk n)) 17 (upd (I 17) nk (3 + mxI 1 ((n + 24 - 1) / 24)))) 18 (upd (I 18) nk 0)) 20 (upd (I 20) nk (-2))) 22 (upd (I 22) nk 0)) (149 + a) (upd (I (149 + a)) 8 (Int32.ofNat nk))) 13 (upd (I 13) 1 (Int32.ofNat (nk + 1)))
theorem X_begin {a nk w : Nat} {pa dr n : Int32} (hwa : wAt (Int32.ofNat w) (I 1 1) (P 2) = some (149 + a)) (k0 : kdf E (149 + a) = some (.inr (8, true))) (h13 : I 13 1 = Int32.ofNat nk) (hnk : nk < 40) : f_X10_begin (ad b 13) (Int32.ofNat w) pa dr n (lay b F E I L P nx us) = some (Int32.ofNat nk, lay b F E (xBw a nk w pa dr n I) L P nx us) := by
  have e40 : (40 ≤ Int32.ofNat nk) = False := eq_false (fun q => by have := (oN_le (a := 40) (by omega) (by omega)).mp q; omega)
  have ek : iN (Int32.ofNat nk) 40 = some nk := iN_oN hnk (by omega)
  unfold xBw
  simp (decide := true) only [f_X10_begin_24, f_X10_begin, hwa, h13, e40, ek, pI_d, k0, oN_succ, oN_pred, isO_s, gI_s, gA_s, gL_s, pI_s, pZ_s, pL_s, aI_s, aL_s, aN_s, aQ_s, sI_s, sL_s, cr, LNs, Option.map_some, Option.map_none, Option.bind_some, b2, tr, lt, if_true, if_false, ckZ, X_within, M_in, inR_z, X_refuse, X_tell, X_deny, X_grant, M_refused, M_denied, M_done, M_granted, u2_same, u2_ne, u2_u2, upd_same, upd_ne, aW0, ixR_z, ixR_1, M_isWall, M_isPainter, M_isWork, X_has4, X_has10, X_at, or_false, false_or, or_true, true_or, not_true, not_false_iff, Option.isSome_some, isO_d, gI_d, gA_d, pI_d, ne_eq, not_false_eq_true, u2_hi, u2_hj, u2_dyn, u2_dynj, Nat.reduceAdd, mX_r, mX_rD, mX_rDj, mM_r, mX_u, mX_uM, mX_uD, mX_uDj, mM_u, mM_uX, mM_uD, mM_uDj, u2_dd, u2_d0, u2_0d]
/-- the reference keeps the colours of a work -/
theorem M_w200 {nk : Nat} {w : Int32} (hnk : nk < 40) : ∀ (m i : Nat) (I : Nat → Nat → Int32) (fu : Nat), i + m = 192 → m < fu → f_X15_work_200 fu (ad b 72) w (Int32.ofNat nk) (Int32.ofNat i) (lay b F E I L P nx us) = f_X15_work_200 1 (ad b 72) w (Int32.ofNat nk) 192 (lay b F E (u2 I 132 (fun k => if 192 * nk + i ≤ k ∧ k < 192 * nk + 192 then I 106 (k - 192 * nk) else I 132 k)) L P nx us) := by
  intro m
  induction m with
  | zero =>
    intro i I fu hi hfu
    obtain ⟨fu, rfl⟩ : ∃ z, fu = z + 1 := ⟨fu - 1, by omega⟩
    have : (fun k => if 192 * nk + i ≤ k ∧ k < 192 * nk + 192 then I 106 (k - 192 * nk) else I 132 k) = I 132 := by
      funext k
      rw [if_neg (by omega)]
    have hi5 : i = 192 := by omega
    subst hi5
    rw [this, u2_id]
    have e : (192 : Int32) ≤ Int32.ofNat 192 := Int32.le_refl _
    have e' : (192 : Int32) ≤ 192 := Int32.le_refl _
    conv => lhs; unfold f_X15_work_200
    conv => rhs; unfold f_X15_work_200
    rw [if_pos e, if_pos e']
  | succ m ih =>
    intro i I fu hi hfu
    obtain ⟨fu, rfl⟩ : ∃ z, fu = z + 1 := ⟨fu - 1, by omega⟩
    have e : ¬ (192 : Int32) ≤ Int32.ofNat i := fun q => by have := (oN_le (a := 192) (by omega) (by omega)).mp q; omega
    have ei : iN (Int32.ofNat i) 192 = some i := iN_oN (by omega) (by omega)
    have ej : iN (Int32.ofNat (192 * nk + i)) 7680 = some (192 * nk + i) := iN_oN (by omega) (by omega)
    have em : 192 * Int32.ofNat nk + Int32.ofNat i = Int32.ofNat (192 * nk + i) := by rw [show (192 : Int32) = Int32.ofNat 192 from rfl, oN_mul, oN_add]
    have g43 : gA 15 (lay b F E I L P nx us) (ad b 72) 43 = some (ad b 106) := by simp (decide := true) only [isO_s, gI_s, gA_s, gL_s, pI_s, pZ_s, pL_s, aI_s, aL_s, aN_s, aQ_s, sI_s, sL_s, cr, LNs, Option.map_some, Option.map_none, Option.bind_some, b2, tr, lt, if_true, if_false, ckZ, X_within, M_in, inR_z, X_refuse, X_tell, X_deny, X_grant, M_refused, M_denied, M_done, M_granted, u2_same, u2_ne, u2_u2, upd_same, upd_ne, aW0, ixR_z, ixR_1, M_isWall, M_isPainter, M_isWork, X_has4, X_has10, X_at, or_false, false_or, or_true, true_or, not_true, not_false_iff, Option.isSome_some, isO_d, gI_d, gA_d, pI_d, ne_eq, not_false_eq_true, u2_hi, u2_hj, u2_dyn, u2_dynj, Nat.reduceAdd, mX_r, mX_rD, mX_rDj, mM_r, mX_u, mX_uM, mX_uD, mX_uDj, mM_u, mM_uX, mM_uD, mM_uDj, u2_dd, u2_d0, u2_0d]
    have g88 : gA 15 (lay b F E I L P nx us) (ad b 72) 88 = some (ad b 132) := by simp (decide := true) only [isO_s, gI_s, gA_s, gL_s, pI_s, pZ_s, pL_s, aI_s, aL_s, aN_s, aQ_s, sI_s, sL_s, cr, LNs, Option.map_some, Option.map_none, Option.bind_some, b2, tr, lt, if_true, if_false, ckZ, X_within, M_in, inR_z, X_refuse, X_tell, X_deny, X_grant, M_refused, M_denied, M_done, M_granted, u2_same, u2_ne, u2_u2, upd_same, upd_ne, aW0, ixR_z, ixR_1, M_isWall, M_isPainter, M_isWork, X_has4, X_has10, X_at, or_false, false_or, or_true, true_or, not_true, not_false_iff, Option.isSome_some, isO_d, gI_d, gA_d, pI_d, ne_eq, not_false_eq_true, u2_hi, u2_hj, u2_dyn, u2_dynj, Nat.reduceAdd, mX_r, mX_rD, mX_rDj, mM_r, mX_u, mX_uM, mX_uD, mX_uDj, mM_u, mM_uX, mM_uD, mM_uDj, u2_dd, u2_d0, u2_0d]
    have a6 : aI 0 (lay b F E I L P nx us) (ad b 106) (Int32.ofNat i) = some (I 106 i) := by simp (decide := true) only [ei, isO_s, gI_s, gA_s, gL_s, pI_s, pZ_s, pL_s, aI_s, aL_s, aN_s, aQ_s, sI_s, sL_s, cr, LNs, Option.map_some, Option.map_none, Option.bind_some, b2, tr, lt, if_true, if_false, ckZ, X_within, M_in, inR_z, X_refuse, X_tell, X_deny, X_grant, M_refused, M_denied, M_done, M_granted, u2_same, u2_ne, u2_u2, upd_same, upd_ne, aW0, ixR_z, ixR_1, M_isWall, M_isPainter, M_isWork, X_has4, X_has10, X_at, or_false, false_or, or_true, true_or, not_true, not_false_iff, Option.isSome_some, isO_d, gI_d, gA_d, pI_d, ne_eq, not_false_eq_true, u2_hi, u2_hj, u2_dyn, u2_dynj, Nat.reduceAdd, mX_r, mX_rD, mX_rDj, mM_r, mX_u, mX_uM, mX_uD, mX_uDj, mM_u, mM_uX, mM_uD, mM_uDj, u2_dd, u2_d0, u2_0d]
    have s7 : sI 0 (lay b F E I L P nx us) (ad b 132) (Int32.ofNat (192 * nk + i)) (I 106 i) = some (lay b F E (u2 I 132 (upd (I 132) (192 * nk + i) (I 106 i))) L P nx us) := by simp (decide := true) only [ej, isO_s, gI_s, gA_s, gL_s, pI_s, pZ_s, pL_s, aI_s, aL_s, aN_s, aQ_s, sI_s, sL_s, cr, LNs, Option.map_some, Option.map_none, Option.bind_some, b2, tr, lt, if_true, if_false, ckZ, X_within, M_in, inR_z, X_refuse, X_tell, X_deny, X_grant, M_refused, M_denied, M_done, M_granted, u2_same, u2_ne, u2_u2, upd_same, upd_ne, aW0, ixR_z, ixR_1, M_isWall, M_isPainter, M_isWork, X_has4, X_has10, X_at, or_false, false_or, or_true, true_or, not_true, not_false_iff, Option.isSome_some, isO_d, gI_d, gA_d, pI_d, ne_eq, not_false_eq_true, u2_hi, u2_hj, u2_dyn, u2_dynj, Nat.reduceAdd, mX_r, mX_rD, mX_rDj, mM_r, mX_u, mX_uM, mX_uD, mX_uDj, mM_u, mM_uX, mM_uD, mM_uDj, u2_dd, u2_d0, u2_0d]
    conv => lhs; unfold f_X15_work_200
    rw [if_neg e, g88, Option.bind_some, g43, Option.bind_some, a6, Option.bind_some, em, s7, Option.bind_some, oN_succ, ih (i + 1) _ fu (by omega) (by omega), u2_u2, u2_same, u2_ne (show (106 : Nat) ≠ 132 by decide)]
    congr 3
    funext k
    by_cases hk : k = 192 * nk + i
    · subst hk
      rw [if_neg (by omega), upd_same, if_pos (by omega), show 192 * nk + i - 192 * nk = i by omega]
    · rw [upd_ne hk]
      by_cases hk2 : 192 * nk + (i + 1) ≤ k ∧ k < 192 * nk + 192
      · rw [if_pos hk2, if_pos (by omega)]
      · rw [if_neg hk2, if_neg (by omega)]
theorem M_wEnd {w nk : Nat} (hw : w < 16) : f_X15_work_200 1 (ad b 72) (Int32.ofNat w) (Int32.ofNat nk) 192 (lay b F E I L P nx us) = some (Int32.ofNat nk, lay b F E (u2 (u2 (u2 I 80 (upd (I 80) w (Int32.ofNat nk))) 82 (upd (I 82) w (Int32.ofNat nk))) 72 (mE (I 72) 0)) L P nx us) := by
  have ew : iN (Int32.ofNat w) 16 = some w := iN_oN hw (by omega)
  have e' : (192 : Int32) ≤ 192 := Int32.le_refl _
  unfold f_X15_work_200
  rw [if_pos e']
  simp (decide := true) only [ew, isO_s, gI_s, gA_s, gL_s, pI_s, pZ_s, pL_s, aI_s, aL_s, aN_s, aQ_s, sI_s, sL_s, cr, LNs, Option.map_some, Option.map_none, Option.bind_some, b2, tr, lt, if_true, if_false, ckZ, X_within, M_in, inR_z, X_refuse, X_tell, X_deny, X_grant, M_refused, M_denied, M_done, M_granted, u2_same, u2_ne, u2_u2, upd_same, upd_ne, aW0, ixR_z, ixR_1, M_isWall, M_isPainter, M_isWork, X_has4, X_has10, X_at, or_false, false_or, or_true, true_or, not_true, not_false_iff, Option.isSome_some, isO_d, gI_d, gA_d, pI_d, ne_eq, not_false_eq_true, u2_hi, u2_hj, u2_dyn, u2_dynj, Nat.reduceAdd, mX_r, mX_rD, mX_rDj, mM_r, mX_u, mX_uM, mX_uD, mX_uDj, mM_u, mM_uX, mM_uD, mM_uDj, u2_dd, u2_d0, u2_0d]
/-- the reference's rows behind a work begun, before its colours -/
def mBw (nk w : Nat) (pa dr n : Int32) (I : Nat → Nat → Int32) : Nat → Nat → Int32 := u2 (u2 (u2 (u2 (u2 (u2 (u2 (u2 (u2 (u2 I 72 (upd (I 72) 76 (Int32.ofNat (nk + 1)))) 123 (upd (I 123) nk (Int32.ofNat w))) 124 (upd (I 124) nk pa)) 125 (upd (I 125) nk dr)) 126 (upd (I 126) nk 0)) 127 (upd (I 127) nk 1)) 128 (upd (I 128) nk (mxI 1 ((n + 23) / 24)))) 129 (upd (I 129) nk (-2))) 130 (upd (I 130) nk n)) 131 (upd (I 131) nk 0)
/-- the reference's end -/
def mWt (b : Nat) (p1 p2 p3 x12 : Int32) (h15 : AH) : Option (Int32 × AH) := (gI 15 h15 (ad b 72) 76).bind fun x17 => (gI 15 h15 (ad b 72) 76).bind fun x18 => (pI 15 h15 (ad b 72) 76 (x18 + 1)).bind fun h19 => (gA 15 h19 (ad b 72) 79).bind fun a20 => (sI 0 h19 a20 x17 p1).bind fun h21 => (gA 15 h21 (ad b 72) 80).bind fun a22 => (sI 0 h21 a22 x17 p2).bind fun h23 => (gA 15 h23 (ad b 72) 81).bind fun a24 => (sI 0 h23 a24 x17 p3).bind fun h25 => (gA 15 h25 (ad b 72) 82).bind fun a26 => (sI 0 h25 a26 x17 0).bind fun h27 => (gA 15 h27 (ad b 72) 83).bind fun a28 => (sI 0 h27 a28 x17 1).bind fun h29 => (gA 15 h29 (ad b 72) 84).bind fun a30 => (sI 0 h29 a30 x17 (mxI 1 ((x12 + 23) / 24))).bind fun h31 => (gA 15 h31 (ad b 72) 85).bind fun a32 => (sI 0 h31 a32 x17 (-2)).bind fun h33 => (gA 15 h33 (ad b 72) 86).bind fun a34 => (sI 0 h33 a34 x17 x12).bind fun h35 => (gA 15 h35 (ad b 72) 87).bind fun a36 => (sI 0 h35 a36 x17 0).bind fun h37 => f_X15_work_200 FU (ad b 72) p1 x17 0 h37
theorem M_wTl {nk w : Nat} {pa dr n : Int32} (hnk : nk < 40) (h76 : I 72 76 = Int32.ofNat nk) : mWt b (Int32.ofNat w) pa dr n (lay b F E I L P nx us) = f_X15_work_200 FU (ad b 72) (Int32.ofNat w) (Int32.ofNat nk) 0 (lay b F E (mBw nk w pa dr n I) L P nx us) := by
  have ek : iN (Int32.ofNat nk) 40 = some nk := iN_oN hnk (by omega)
  unfold mWt mBw
  simp (decide := true) only [h76, ek, oN_succ, isO_s, gI_s, gA_s, gL_s, pI_s, pZ_s, pL_s, aI_s, aL_s, aN_s, aQ_s, sI_s, sL_s, cr, LNs, Option.map_some, Option.map_none, Option.bind_some, b2, tr, lt, if_true, if_false, ckZ, X_within, M_in, inR_z, X_refuse, X_tell, X_deny, X_grant, M_refused, M_denied, M_done, M_granted, u2_same, u2_ne, u2_u2, upd_same, upd_ne, aW0, ixR_z, ixR_1, M_isWall, M_isPainter, M_isWork, X_has4, X_has10, X_at, or_false, false_or, or_true, true_or, not_true, not_false_iff, Option.isSome_some, isO_d, gI_d, gA_d, pI_d, ne_eq, not_false_eq_true, u2_hi, u2_hj, u2_dyn, u2_dynj, Nat.reduceAdd, mX_r, mX_rD, mX_rDj, mM_r, mX_u, mX_uM, mX_uD, mX_uDj, mM_u, mM_uX, mM_uD, mM_uDj, u2_dd, u2_d0, u2_0d]
end WRK
