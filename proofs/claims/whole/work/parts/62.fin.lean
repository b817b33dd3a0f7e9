/-! ===== a work is finished, on both sides ===== -/
theorem u2_dd {α : Type} {I : Nat → α} {a i j : Nat} {f : α} (h : j ≠ i) : u2 I (149 + a + i) f (149 + a + j) = I (149 + a + j) := u2_ne (by omega)
theorem u2_d0 {α : Type} {I : Nat → α} {a i : Nat} {f : α} (h : 0 < i) : u2 I (149 + a + i) f (149 + a) = I (149 + a) := u2_ne (by omega)
theorem u2_0d {α : Type} {I : Nat → α} {a i : Nat} {f : α} (h : 0 < i) : u2 I (149 + a) f (149 + a + i) = I (149 + a + i) := u2_ne (by omega)
theorem by_t : ∀ t, t < 128 → (Int32.ofNat t).toInt8.toInt32 = Int32.ofNat t ∧ aW 1 (Int32.ofNat t) = Int32.ofNat t := by decide +kernel
theorem by_m1 : (-1 : Int32).toInt8.toInt32 = -1 ∧ aW 1 (-1) = -1 := by decide
theorem by_m2 : (-2 : Int32).toInt8.toInt32 = -2 ∧ aW 1 (-2) = -2 := by decide
/-- a colour, or none -/
theorem colC {v : Int32} (h1 : -1 ≤ v) (h2 : v ≤ 7) : v = -1 ∨ ∃ c, c ≤ 7 ∧ v = Int32.ofNat c := by
  by_cases h : v < 0
  · left; grind
  · right
    obtain ⟨c, hc, rfl⟩ := nn_oN h
    exact ⟨c, (oN_le hc (by decide : 7 < 2147483648)).mp h2, rfl⟩
theorem col_by {v : Int32} (h1 : -1 ≤ v) (h2 : v ≤ 7) : v.toInt8.toInt32 = v ∧ aW 1 v = v := by
  rcases colC h1 h2 with rfl | ⟨c, hc, rfl⟩
  · exact by_m1
  · exact by_t c (by omega)
section FIN
variable {b : Nat} {F : Nat → Option AE} {D E : Nat → Option KD} {I : Nat → Nat → Int32} {L : Nat → Nat → Int64} {P : Nat → Nat → Option Nat} {nx us : Nat}
theorem X_useTin {nt : Nat} (v : Int32) (h60 : nt ≤ 60) (hn : I 13 15 = Int32.ofNat nt) : f_X10_useTin (ad b 13) v (lay b F E I L P nx us) = (if fnd (fun t => I 24 t = v ∧ ¬ I 25 t ≤ 0) 0 nt < nt then some (Int32.ofNat (fnd (fun t => I 24 t = v ∧ ¬ I 25 t ≤ 0) 0 nt), lay b F E (u2 I 25 (upd (I 25) (fnd (fun t => I 24 t = v ∧ ¬ I 25 t ≤ 0) 0 nt) (I 25 (fnd (fun t => I 24 t = v ∧ ¬ I 25 t ≤ 0) 0 nt) - 1))) L P nx us) else some (-2, (lay b F E I L P nx us))) := by
  simp (decide := true) only [f_X10_useTin_41, f_X10_useTin, isO_s, gI_s, gA_s, gL_s, pI_s, pZ_s, pL_s, aI_s, aL_s, aN_s, aQ_s, sI_s, sL_s, cr, LNs, Option.map_some, Option.map_none, Option.bind_some, b2, tr, lt, if_true, if_false, ckZ, X_within, M_in, inR_z, X_refuse, X_tell, X_deny, X_grant, M_refused, M_denied, M_done, M_granted, u2_same, u2_ne, u2_u2, upd_same, upd_ne, aW0, ixR_z, ixR_1, M_isWall, M_isPainter, M_isWork, X_has4, X_has10, X_at, or_false, false_or, or_true, true_or, not_true, not_false_iff, Option.isSome_some, isO_d, gI_d, gA_d, pI_d, ne_eq, not_false_eq_true, u2_hi, u2_hj, u2_dyn, u2_dynj, Nat.reduceAdd, mX_r, mX_rD, mX_rDj, mM_r, mX_u, mX_uM, mX_uD, mX_uDj, mM_u, mM_uX, mM_uD, mM_uDj, u2_dd, u2_d0, u2_0d]
  refine lp_find (T := fun n k => f_X10_useTin_2 n (ad b 13) v k (lay b F E I L P nx us)) (R := fun k => if k < nt then some (Int32.ofNat k, lay b F E (u2 I 25 (upd (I 25) k (I 25 k - 1))) L P nx us) else some (-2, (lay b F E I L P nx us))) (p := fun t => I 24 t = v ∧ ¬ I 25 t ≤ 0) (N := nt) ?_ ?_ nt 0 FU (by omega) (by unfold FU; omega)
  · intro n'
    rw [if_neg (Nat.lt_irrefl _)]
    simp (decide := true) only [f_X10_useTin_2, hn, Int32.le_refl, isO_s, gI_s, gA_s, gL_s, pI_s, pZ_s, pL_s, aI_s, aL_s, aN_s, aQ_s, sI_s, sL_s, cr, LNs, Option.map_some, Option.map_none, Option.bind_some, b2, tr, lt, if_true, if_false, ckZ, X_within, M_in, inR_z, X_refuse, X_tell, X_deny, X_grant, M_refused, M_denied, M_done, M_granted, u2_same, u2_ne, u2_u2, upd_same, upd_ne, aW0, ixR_z, ixR_1, M_isWall, M_isPainter, M_isWork, X_has4, X_has10, X_at, or_false, false_or, or_true, true_or, not_true, not_false_iff, Option.isSome_some, isO_d, gI_d, gA_d, pI_d, ne_eq, not_false_eq_true, u2_hi, u2_hj, u2_dyn, u2_dynj, Nat.reduceAdd, mX_r, mX_rD, mX_rDj, mM_r, mX_u, mX_uM, mX_uD, mX_uDj, mM_u, mM_uX, mM_uD, mM_uDj, u2_dd, u2_d0, u2_0d]
  · intro n' k hk
    rw [if_pos hk]
    have e2 := oN_leF hk (by omega)
    have e3 : iN (Int32.ofNat k) 60 = some k := iN_oN (by omega) (by omega)
    show f_X10_useTin_2 (n' + 1) (ad b 13) v (Int32.ofNat k) (lay b F E I L P nx us) = _
    simp (decide := true) only [f_X10_useTin_2, f_X10_useTin_41, hn, e2, e3, oN_succ, isO_s, gI_s, gA_s, gL_s, pI_s, pZ_s, pL_s, aI_s, aL_s, aN_s, aQ_s, sI_s, sL_s, cr, LNs, Option.map_some, Option.map_none, Option.bind_some, b2, tr, lt, if_true, if_false, ckZ, X_within, M_in, inR_z, X_refuse, X_tell, X_deny, X_grant, M_refused, M_denied, M_done, M_granted, u2_same, u2_ne, u2_u2, upd_same, upd_ne, aW0, ixR_z, ixR_1, M_isWall, M_isPainter, M_isWork, X_has4, X_has10, X_at, or_false, false_or, or_true, true_or, not_true, not_false_iff, Option.isSome_some, isO_d, gI_d, gA_d, pI_d, ne_eq, not_false_eq_true, u2_hi, u2_hj, u2_dyn, u2_dynj, Nat.reduceAdd, mX_r, mX_rD, mX_rDj, mM_r, mX_u, mX_uM, mX_uD, mX_uDj, mM_u, mM_uX, mM_uD, mM_uDj, u2_dd, u2_d0, u2_0d]
    by_cases c1 : I 24 k = v
    · by_cases c2 : I 25 k ≤ 0
      · simp only [c1, c2, not_true, and_false, if_true, if_false]
      · simp only [c1, c2, not_false_eq_true, and_self, if_true, if_false]
    · simp only [c1, false_and, if_false]
theorem M_useTin {nt : Nat} {k34 : Nat → Int32 → Int32 → Int32 → AH → Option AH} {i1 i2 i3 v i5 : Int32} (h60 : nt ≤ 60) (hn : I 72 77 = Int32.ofNat nt) : f_X15_isOver_103 k34 FU (ad b 72) i1 i2 i3 v i5 0 (lay b F E I L P nx us) = f_X15_isOver_140 k34 (ad b 72) i1 i2 i3 i5 (Int32.ofNat (fnd (fun t => I 135 t = v ∧ ¬ I 136 t = 0) 0 nt)) (lay b F E I L P nx us) := by
  refine lp_find (T := fun n k => f_X15_isOver_103 k34 n (ad b 72) i1 i2 i3 v i5 k (lay b F E I L P nx us)) (R := fun k => f_X15_isOver_140 k34 (ad b 72) i1 i2 i3 i5 (Int32.ofNat k) (lay b F E I L P nx us)) (p := fun t => I 135 t = v ∧ ¬ I 136 t = 0) (N := nt) ?_ ?_ nt 0 FU (by omega) (by unfold FU; omega)
  · intro n'
    simp (decide := true) only [f_X15_isOver_103, hn, Int32.le_refl, isO_s, gI_s, gA_s, gL_s, pI_s, pZ_s, pL_s, aI_s, aL_s, aN_s, aQ_s, sI_s, sL_s, cr, LNs, Option.map_some, Option.map_none, Option.bind_some, b2, tr, lt, if_true, if_false, ckZ, X_within, M_in, inR_z, X_refuse, X_tell, X_deny, X_grant, M_refused, M_denied, M_done, M_granted, u2_same, u2_ne, u2_u2, upd_same, upd_ne, aW0, ixR_z, ixR_1, M_isWall, M_isPainter, M_isWork, X_has4, X_has10, X_at, or_false, false_or, or_true, true_or, not_true, not_false_iff, Option.isSome_some, isO_d, gI_d, gA_d, pI_d, ne_eq, not_false_eq_true, u2_hi, u2_hj, u2_dyn, u2_dynj, Nat.reduceAdd, mX_r, mX_rD, mX_rDj, mM_r, mX_u, mX_uM, mX_uD, mX_uDj, mM_u, mM_uX, mM_uD, mM_uDj, u2_dd, u2_d0, u2_0d]
  · intro n' k hk
    have e2 := oN_leF hk (by omega)
    have e3 : iN (Int32.ofNat k) 60 = some k := iN_oN (by omega) (by omega)
    show f_X15_isOver_103 k34 (n' + 1) (ad b 72) i1 i2 i3 v i5 (Int32.ofNat k) (lay b F E I L P nx us) = _
    simp (decide := true) only [f_X15_isOver_103, f_X15_isOver_134, hn, e2, e3, oN_succ, isO_s, gI_s, gA_s, gL_s, pI_s, pZ_s, pL_s, aI_s, aL_s, aN_s, aQ_s, sI_s, sL_s, cr, LNs, Option.map_some, Option.map_none, Option.bind_some, b2, tr, lt, if_true, if_false, ckZ, X_within, M_in, inR_z, X_refuse, X_tell, X_deny, X_grant, M_refused, M_denied, M_done, M_granted, u2_same, u2_ne, u2_u2, upd_same, upd_ne, aW0, ixR_z, ixR_1, M_isWall, M_isPainter, M_isWork, X_has4, X_has10, X_at, or_false, false_or, or_true, true_or, not_true, not_false_iff, Option.isSome_some, isO_d, gI_d, gA_d, pI_d, ne_eq, not_false_eq_true, u2_hi, u2_hj, u2_dyn, u2_dynj, Nat.reduceAdd, mX_r, mX_rD, mX_rDj, mM_r, mX_u, mX_uM, mX_uD, mX_uDj, mM_u, mM_uX, mM_uD, mM_uDj, u2_dd, u2_d0, u2_0d]
    by_cases c1 : I 135 k = v
    · by_cases c2 : I 136 k = 0
      · simp only [c1, c2, not_true, and_false, if_true, if_false]
      · simp only [c1, c2, not_false_eq_true, and_self, if_true, if_false]
    · simp only [c1, false_and, if_false]
/-- what the cells' loop needs -/
def CH (nt w k a wd hg : Nat) (I : Nat → Nat → Int32) : Prop := Cn nt 60 (I 13 15) (I 72 77) ∧ GTin nt (I 24) (I 25) (I 135) (I 136) ∧ I 22 k = I 131 k ∧ I 73 w = Int32.ofNat wd ∧ I 74 w = Int32.ofNat hg ∧ ∀ c, c < wd * hg → I (149 + a + 4) c = I 132 (192 * k + c) ∧ -1 ≤ I 132 (192 * k + c) ∧ I 132 (192 * k + c) ≤ 7
/-- the cells that it writes -/
def CF (w k a wd hg i : Nat) (I I2 : Nat → Nat → Int32) : Prop := (∀ c, c ≠ 149 + a + 2 → c ≠ 149 + a + 3 → c ≠ 22 → c ≠ 25 → c ≠ 86 → c ≠ 87 → c ≠ 88 → c ≠ 131 → c ≠ 136 → I2 c = I c) ∧ (∀ j, j ≠ k → I2 22 j = I 22 j ∧ I2 131 j = I 131 j) ∧ (∀ c, c < i → I2 (149 + a + 2) c = I (149 + a + 2) c ∧ I2 (149 + a + 3) c = I (149 + a + 3) c) ∧ ∀ x, (x < 192 * w + i ∨ 192 * w + wd * hg ≤ x) → I2 86 x = I 86 x ∧ I2 87 x = I 87 x ∧ I2 88 x = I 88 x
/-- what is on the wall behind it -/
def CW (nt w k a wd hg i : Nat) (I2 : Nat → Nat → Int32) : Prop := ∀ c, i ≤ c → c < wd * hg → I2 (149 + a + 2) c = I2 132 (192 * k + c) ∧ I2 86 (192 * w + c) = I2 132 (192 * k + c) ∧ (I2 132 (192 * k + c) = -1 → I2 (149 + a + 3) c = -2) ∧ (I2 132 (192 * k + c) ≠ -1 → I2 (149 + a + 3) c = I2 88 (192 * w + c) ∧ I2 87 (192 * w + c) = Int32.ofNat k ∧ (I2 88 (192 * w + c) = -2 ∨ ∃ t, t < nt ∧ I2 88 (192 * w + c) = Int32.ofNat t))
/-- the state behind one painted cell -/
def NI (a w k i : Nat) (v x : Int32) (tl la la' tl' : RW) (I : Nat → Nat → Int32) : Nat → Nat → Int32 := u2 (u2 (u2 (u2 (u2 (u2 (u2 (u2 (u2 I 25 tl) (149 + a + 2) (upd (I (149 + a + 2)) i v)) (149 + a + 3) (upd (I (149 + a + 3)) i x)) 22 la) 86 (upd (I 86) (192 * w + i) v)) 87 (upd (I 87) (192 * w + i) (Int32.ofNat k))) 88 (upd (I 88) (192 * w + i) x)) 131 la') 136 tl'
theorem cells {nt w k a wd hg : Nat} (hw : w < 16) (hk : k < 40) (hn : wd * hg ≤ 192) (hK : WK E a (wd * hg)) : ∀ (m i : Nat), i + m = wd * hg → ∀ I, CH nt w k a wd hg I → ∃ I2 : Nat → Nat → Int32, CH nt w k a wd hg I2 ∧ CF w k a wd hg i I I2 ∧ CW nt w k a wd hg i I2 ∧
    (∀ (J : Nat → Nat → Int32) (fu : Nat), m < fu → f_X10_finish_31 fu (ad b 13) (Int32.ofNat k) (ad b (149 + a)) (Int32.ofNat i) (lay b F E (mX J I) L P nx us) = some (lay b F E (mX J (u2 I2 (149 + a) (upd (upd (upd (I (149 + a)) 8 (-2)) 9 (Int32.ofNat k)) 10 (I 13 14)))) L P nx us))
    ∧ (∀ (J : Nat → Nat → Int32) (fu : Nat), m < fu → f_X15_isOver_34 fu (ad b 72) (Int32.ofNat k) (Int32.ofNat w) (Int32.ofNat i) (lay b F E (mM J I) L P nx us) = some (lay b F E (mM J I2) L P nx us)) := by
  obtain ⟨k0, k1, k2, k3, k4⟩ := WKk hK
  have e0 : iN (Int32.ofNat w) 16 = some w := iN_oN hw (by omega)
  have ek : iN (Int32.ofNat k) 40 = some k := iN_oN hk (by omega)
  intro m
  induction m with
  | zero =>
    intro i hi I hC
    obtain ⟨h1, h2, h3, h4, h5, h6⟩ := hC
    have : i = wd * hg := by omega
    subst this
    refine ⟨I, ⟨h1, h2, h3, h4, h5, h6⟩, ⟨fun _ _ _ _ _ _ _ _ _ _ => rfl, fun _ _ => ⟨rfl, rfl⟩, fun _ _ => ⟨rfl, rfl⟩, fun _ _ => ⟨rfl, rfl, rfl⟩⟩, fun c h7 h8 => by omega, ?_, ?_⟩
    · intro J fu hfu
      obtain ⟨fu, rfl⟩ : ∃ z, fu = z + 1 := ⟨fu - 1, by omega⟩
      simp (decide := true) only [f_X10_finish_31, k0, aN_d k2, Int32.le_refl, isO_s, gI_s, gA_s, gL_s, pI_s, pZ_s, pL_s, aI_s, aL_s, aN_s, aQ_s, sI_s, sL_s, cr, LNs, Option.map_some, Option.map_none, Option.bind_some, b2, tr, lt, if_true, if_false, ckZ, X_within, M_in, inR_z, X_refuse, X_tell, X_deny, X_grant, M_refused, M_denied, M_done, M_granted, u2_same, u2_ne, u2_u2, upd_same, upd_ne, aW0, ixR_z, ixR_1, M_isWall, M_isPainter, M_isWork, X_has4, X_has10, X_at, or_false, false_or, or_true, true_or, not_true, not_false_iff, Option.isSome_some, isO_d, gI_d, gA_d, pI_d, ne_eq, not_false_eq_true, u2_hi, u2_hj, u2_dyn, u2_dynj, Nat.reduceAdd, mX_r, mX_rD, mX_rDj, mM_r, mX_u, mX_uM, mX_uD, mX_uDj, mM_u, mM_uX, mM_uD, mM_uDj, u2_dd, u2_d0, u2_0d]
    · intro J fu hfu
      obtain ⟨fu, rfl⟩ : ∃ z, fu = z + 1 := ⟨fu - 1, by omega⟩
      simp (decide := true) only [f_X15_isOver_34, e0, h4, h5, oN_mul, Int32.le_refl, isO_s, gI_s, gA_s, gL_s, pI_s, pZ_s, pL_s, aI_s, aL_s, aN_s, aQ_s, sI_s, sL_s, cr, LNs, Option.map_some, Option.map_none, Option.bind_some, b2, tr, lt, if_true, if_false, ckZ, X_within, M_in, inR_z, X_refuse, X_tell, X_deny, X_grant, M_refused, M_denied, M_done, M_granted, u2_same, u2_ne, u2_u2, upd_same, upd_ne, aW0, ixR_z, ixR_1, M_isWall, M_isPainter, M_isWork, X_has4, X_has10, X_at, or_false, false_or, or_true, true_or, not_true, not_false_iff, Option.isSome_some, isO_d, gI_d, gA_d, pI_d, ne_eq, not_false_eq_true, u2_hi, u2_hj, u2_dyn, u2_dynj, Nat.reduceAdd, mX_r, mX_rD, mX_rDj, mM_r, mX_u, mX_uM, mX_uD, mX_uDj, mM_u, mM_uX, mM_uD, mM_uDj, u2_dd, u2_d0, u2_0d]
  | succ m ih =>
    intro i hi I hC
    have hC' := hC
    obtain ⟨⟨h1, h1', h1''⟩, h2, h3, h4, h5, h6⟩ := hC
    have hin : i < wd * hg := by omega
    have e2 := oN_leF hin (by omega)
    have e3 : iN (Int32.ofNat i) (wd * hg) = some i := iN_oN hin (by omega)
    have e4 : iN (Int32.ofNat (192 * w + i)) 3072 = some (192 * w + i) := iN_oN (by omega) (by omega)
    have e5 : iN (Int32.ofNat (192 * k + i)) 7680 = some (192 * k + i) := iN_oN (by omega) (by omega)
    obtain ⟨v1, v2, v3⟩ := h6 i hin
    obtain ⟨bv1, bv2⟩ := col_by v2 v3
    by_cases hv : I 132 (192 * k + i) = -1
    · -- a bare cell
      have hv' : I (149 + a + 4) i = -1 := by rw [v1]; exact hv
      let I1 : Nat → Nat → Int32 := u2 (u2 (u2 I (149 + a + 2) (upd (I (149 + a + 2)) i (-1))) (149 + a + 3) (upd (I (149 + a + 3)) i (-2))) 86 (upd (I 86) (192 * w + i) (-1))
      have hC1 : CH nt w k a wd hg I1 := by
        unfold CH
        simp (decide := true) only [I1, u2_same, u2_ne, u2_u2, upd_same, upd_ne, mE, u2_dyn, dyn_u2, dyn_hi, u2_hi, u2_hj, u2_dynj, u2_dd, u2_d0, u2_0d]
        exact hC'
      obtain ⟨I2, z1, z2, z3, z4, z5⟩ := ih (i + 1) (by omega) I1 hC1
      obtain ⟨f1, f2, f3, f4⟩ := z2
      have r132 : I2 132 = I 132 := by
        have := f1 132 (by omega) (by omega) (by decide) (by decide) (by decide) (by decide) (by decide) (by decide) (by decide)
        rw [this]; simp (decide := true) only [I1, u2_same, u2_ne, u2_u2, upd_same, upd_ne, mE, u2_dyn, dyn_u2, dyn_hi, u2_hi, u2_hj, u2_dynj, u2_dd, u2_d0, u2_0d]
      refine ⟨I2, z1, ⟨?_, ?_, ?_, ?_⟩, ?_, ?_, ?_⟩
      · intro c c1 c2 c3 c4 c5 c6 c7 c8 c9
        rw [f1 c c1 c2 c3 c4 c5 c6 c7 c8 c9]
        show u2 (u2 (u2 I (149 + a + 2) _) (149 + a + 3) _) 86 _ c = _
        rw [u2_ne c5, u2_ne c2, u2_ne c1]
      · intro j hj
        have := f2 j hj
        simp (decide := true) only [I1, u2_ne, u2_hj, ne_eq] at this
        exact this
      · intro c hc
        have := f3 c (by omega)
        simp (decide := true) only [I1, u2_same, u2_dd, u2_dynj, ne_eq] at this
        rw [upd_ne (show c ≠ i by omega), upd_ne (show c ≠ i by omega)] at this
        exact this
      · intro x hx
        have := f4 x (by omega)
        simp (decide := true) only [I1, u2_same, u2_ne, u2_hj, ne_eq] at this
        rw [upd_ne (show x ≠ 192 * w + i by omega)] at this
        exact this
      · intro c c1 c2
        by_cases hz : c = i
        · subst hz
          have g3 := f3 c (by omega)
          have g4 := f4 (192 * w + c) (by omega)
          simp (decide := true) only [I1, u2_same, u2_dd, u2_dynj, ne_eq, upd_same] at g3
          simp (decide := true) only [I1, u2_same, upd_same] at g4
          rw [r132, hv]
          exact ⟨g3.1, g4.1, fun _ => g3.2, fun q => absurd rfl q⟩
        · exact z3 c (by omega) c2
      · intro J fu hfu
        obtain ⟨fu, rfl⟩ : ∃ z, fu = z + 1 := ⟨fu - 1, by omega⟩
        have z4 := z4 J fu (by omega)
        simp (decide := true) only [I1, u2_dynj, u2_d0, u2_dyn, u2_hi, u2_hj, u2_ne, ne_eq] at z4
        simp (decide := true) only [f_X10_finish_31, f_X10_finish_65, f_X10_finish_108, k0, aN_d k2, aI_d k4 (by decide), sI_d k2 (by decide), sI_d k3 (by decide), e2, e3, hv', by_m1.1, by_m1.2, by_m2.1, by_m2.2, oN_succ, isO_s, gI_s, gA_s, gL_s, pI_s, pZ_s, pL_s, aI_s, aL_s, aN_s, aQ_s, sI_s, sL_s, cr, LNs, Option.map_some, Option.map_none, Option.bind_some, b2, tr, lt, if_true, if_false, ckZ, X_within, M_in, inR_z, X_refuse, X_tell, X_deny, X_grant, M_refused, M_denied, M_done, M_granted, u2_same, u2_ne, u2_u2, upd_same, upd_ne, aW0, ixR_z, ixR_1, M_isWall, M_isPainter, M_isWork, X_has4, X_has10, X_at, or_false, false_or, or_true, true_or, not_true, not_false_iff, Option.isSome_some, isO_d, gI_d, gA_d, pI_d, ne_eq, not_false_eq_true, u2_hi, u2_hj, u2_dyn, u2_dynj, Nat.reduceAdd, mX_r, mX_rD, mX_rDj, mM_r, mX_u, mX_uM, mX_uD, mX_uDj, mM_u, mM_uX, mM_uD, mM_uDj, u2_dd, u2_d0, u2_0d]
        simp (decide := true) only [I1, mX_r, mX_rD, mX_rDj, mX_u, mX_uM, mX_uD, mX_uDj, u2_dynj, u2_dd, u2_d0, u2_ne, u2_hj, ne_eq] at z4 ⊢
        exact z4
      · intro J fu hfu
        obtain ⟨fu, rfl⟩ : ∃ z, fu = z + 1 := ⟨fu - 1, by omega⟩
        have z5 := z5 J fu (by omega)
        simp (decide := true) only [f_X15_isOver_34, f_X15_isOver_196, e0, h4, h5, oN_mul, ix192, e2, e4, e5, hv, oN_succ, isO_s, gI_s, gA_s, gL_s, pI_s, pZ_s, pL_s, aI_s, aL_s, aN_s, aQ_s, sI_s, sL_s, cr, LNs, Option.map_some, Option.map_none, Option.bind_some, b2, tr, lt, if_true, if_false, ckZ, X_within, M_in, inR_z, X_refuse, X_tell, X_deny, X_grant, M_refused, M_denied, M_done, M_granted, u2_same, u2_ne, u2_u2, upd_same, upd_ne, aW0, ixR_z, ixR_1, M_isWall, M_isPainter, M_isWork, X_has4, X_has10, X_at, or_false, false_or, or_true, true_or, not_true, not_false_iff, Option.isSome_some, isO_d, gI_d, gA_d, pI_d, ne_eq, not_false_eq_true, u2_hi, u2_hj, u2_dyn, u2_dynj, Nat.reduceAdd, mX_r, mX_rD, mX_rDj, mM_r, mX_u, mX_uM, mX_uD, mX_uDj, mM_u, mM_uX, mM_uD, mM_uDj, u2_dd, u2_d0, u2_0d]
        simp (decide := true) only [I1, mM_r, mM_u, mM_uX, mM_uD, mM_uDj] at z5 ⊢
        exact z5
    · -- a painted cell
      have hv' : ¬ I (149 + a + 4) i = -1 := by rw [v1]; exact hv
      have hfe : fnd (fun t => I 135 t = I 132 (192 * k + i) ∧ ¬ I 136 t = 0) 0 nt = fnd (fun t => I 24 t = I 132 (192 * k + i) ∧ ¬ I 25 t ≤ 0) 0 nt := by
        refine fnd_congr nt 0 ?_
        intro t _ ht
        obtain ⟨q1, q2, -, -, q5⟩ := h2 t (by omega)
        rw [← q1, ← q2]
        constructor
        · rintro ⟨r1, r2⟩; refine ⟨r1, fun r3 => r2 ?_⟩; grind
        · rintro ⟨r1, r2⟩; refine ⟨r1, fun r3 => r2 ?_⟩; rw [r3]; exact Int32.le_refl _
      obtain ⟨s1, s2, s3, -⟩ := fnd_spec (p := fun t => I 24 t = I 132 (192 * k + i) ∧ ¬ I 25 t ≤ 0) nt 0
      have key : ∃ (x : Int32) (tl la la' tl' : RW), GTin nt (I 24) tl (I 135) tl' ∧ la k = la' k ∧ (∀ j, j ≠ k → la j = I 22 j ∧ la' j = I 131 j) ∧ (x = -2 ∨ ∃ t, t < nt ∧ x = Int32.ofNat t) ∧
          (∀ (J : Nat → Nat → Int32) (fu : Nat), f_X10_finish_31 (fu + 1) (ad b 13) (Int32.ofNat k) (ad b (149 + a)) (Int32.ofNat i) (lay b F E (mX J I) L P nx us) = f_X10_finish_31 fu (ad b 13) (Int32.ofNat k) (ad b (149 + a)) (Int32.ofNat (i + 1)) (lay b F E (mX J (NI a w k i (I 132 (192 * k + i)) x tl la la' tl' I)) L P nx us))
          ∧ (∀ (J : Nat → Nat → Int32) (fu : Nat), f_X15_isOver_34 (fu + 1) (ad b 72) (Int32.ofNat k) (Int32.ofNat w) (Int32.ofNat i) (lay b F E (mM J I) L P nx us) = f_X15_isOver_34 fu (ad b 72) (Int32.ofNat k) (Int32.ofNat w) (Int32.ofNat (i + 1)) (lay b F E (mM J (NI a w k i (I 132 (192 * k + i)) x tl la la' tl' I)) L P nx us)) := by
        have hux := fun J => X_useTin (b := b) (F := F) (E := E) (L := L) (P := P) (nx := nx) (us := us) (I := mX J I) (I 132 (192 * k + i)) h1 (by rw [mX_r (by decide)]; exact h1')
        have hum := fun (J : Nat → Nat → Int32) (k34 : Nat → Int32 → Int32 → Int32 → AH → Option AH) (i1 i2 i3 i5 : Int32) (A B : RW) => M_useTin (b := b) (F := F) (E := E) (L := L) (P := P) (nx := nx) (us := us) (I := u2 (u2 (mM J I) 86 A) 87 B) (k34 := k34) (i1 := i1) (i2 := i2) (i3 := i3) (v := I 132 (192 * k + i)) (i5 := i5) h1 (by simp (decide := true) only [isO_s, gI_s, gA_s, gL_s, pI_s, pZ_s, pL_s, aI_s, aL_s, aN_s, aQ_s, sI_s, sL_s, cr, LNs, Option.map_some, Option.map_none, Option.bind_some, b2, tr, lt, if_true, if_false, ckZ, X_within, M_in, inR_z, X_refuse, X_tell, X_deny, X_grant, M_refused, M_denied, M_done, M_granted, u2_same, u2_ne, u2_u2, upd_same, upd_ne, aW0, ixR_z, ixR_1, M_isWall, M_isPainter, M_isWork, X_has4, X_has10, X_at, or_false, false_or, or_true, true_or, not_true, not_false_iff, Option.isSome_some, isO_d, gI_d, gA_d, pI_d, ne_eq, not_false_eq_true, u2_hi, u2_hj, u2_dyn, u2_dynj, Nat.reduceAdd, mX_r, mX_rD, mX_rDj, mM_r, mX_u, mX_uM, mX_uD, mX_uDj, mM_u, mM_uX, mM_uD, mM_uDj, u2_dd, u2_d0, u2_0d]; exact h1'')
        simp (decide := true) only [mX_r, mM_r, u2_ne, ne_eq, hfe] at hux hum
        generalize fnd (fun t => I 24 t = I 132 (192 * k + i) ∧ ¬ I 25 t ≤ 0) 0 nt = T at hux hum s1 s2 s3
        by_cases hT : T < nt
        · obtain ⟨q1, q2, q3, q4, q5⟩ := h2 T hT
          have s3 := s3 (by omega)
          have eT : iN (Int32.ofNat T) 60 = some T := iN_oN (by omega) (by omega)
          have eT2 := oN_leF hT (by omega)
          have eT3 := oN_m2 (k := T) (by omega)
          obtain ⟨bt1, bt2⟩ := by_t T (by omega)
          refine ⟨Int32.ofNat T, upd (I 25) T (I 25 T - 1), I 22, I 131, upd (I 136) T (I 136 T - 1), ?_, h3, fun j _ => ⟨rfl, rfl⟩, Or.inr ⟨T, hT, rfl⟩, ?_, ?_⟩
          · intro t ht
            by_cases hz : t = T
            · subst hz
              rw [upd_same, upd_same, q2]
              refine ⟨q1, rfl, q3, q4, ?_⟩
              have := s3.2
              rw [q2] at this
              grind
            · rw [upd_ne hz, upd_ne hz]
              exact h2 t ht
          · intro J fu
            have hux := hux J
            rw [if_pos hT] at hux
            simp (decide := true) only [f_X10_finish_31, f_X10_finish_65, f_X10_finish_108, k0, aN_d k2, aI_d k4 (by decide), sI_d k2 (by decide), sI_d k3 (by decide), e2, e3, v1, hv, hux, bv1, bv2, bt1, bt2, eT3, oN_succ, NI, isO_s, gI_s, gA_s, gL_s, pI_s, pZ_s, pL_s, aI_s, aL_s, aN_s, aQ_s, sI_s, sL_s, cr, LNs, Option.map_some, Option.map_none, Option.bind_some, b2, tr, lt, if_true, if_false, ckZ, X_within, M_in, inR_z, X_refuse, X_tell, X_deny, X_grant, M_refused, M_denied, M_done, M_granted, u2_same, u2_ne, u2_u2, upd_same, upd_ne, aW0, ixR_z, ixR_1, M_isWall, M_isPainter, M_isWork, X_has4, X_has10, X_at, or_false, false_or, or_true, true_or, not_true, not_false_iff, Option.isSome_some, isO_d, gI_d, gA_d, pI_d, ne_eq, not_false_eq_true, u2_hi, u2_hj, u2_dyn, u2_dynj, Nat.reduceAdd, mX_r, mX_rD, mX_rDj, mM_r, mX_u, mX_uM, mX_uD, mX_uDj, mM_u, mM_uX, mM_uD, mM_uDj, u2_dd, u2_d0, u2_0d]
            rw [u2_id' (c := 22) (by simp (decide := true) only [isO_s, gI_s, gA_s, gL_s, pI_s, pZ_s, pL_s, aI_s, aL_s, aN_s, aQ_s, sI_s, sL_s, cr, LNs, Option.map_some, Option.map_none, Option.bind_some, b2, tr, lt, if_true, if_false, ckZ, X_within, M_in, inR_z, X_refuse, X_tell, X_deny, X_grant, M_refused, M_denied, M_done, M_granted, u2_same, u2_ne, u2_u2, upd_same, upd_ne, aW0, ixR_z, ixR_1, M_isWall, M_isPainter, M_isWork, X_has4, X_has10, X_at, or_false, false_or, or_true, true_or, not_true, not_false_iff, Option.isSome_some, isO_d, gI_d, gA_d, pI_d, ne_eq, not_false_eq_true, u2_hi, u2_hj, u2_dyn, u2_dynj, Nat.reduceAdd, mX_r, mX_rD, mX_rDj, mM_r, mX_u, mX_uM, mX_uD, mX_uDj, mM_u, mM_uX, mM_uD, mM_uDj, u2_dd, u2_d0, u2_0d])]
          · intro J fu
            simp (decide := true) only [f_X15_isOver_34, f_X15_isOver_140, f_X15_isOver_162, f_X15_isOver_196, e0, h4, h5, oN_mul, ix192, e2, e4, e5, hv, hum, h1'', eT, eT2, oN_succ, NI, isO_s, gI_s, gA_s, gL_s, pI_s, pZ_s, pL_s, aI_s, aL_s, aN_s, aQ_s, sI_s, sL_s, cr, LNs, Option.map_some, Option.map_none, Option.bind_some, b2, tr, lt, if_true, if_false, ckZ, X_within, M_in, inR_z, X_refuse, X_tell, X_deny, X_grant, M_refused, M_denied, M_done, M_granted, u2_same, u2_ne, u2_u2, upd_same, upd_ne, aW0, ixR_z, ixR_1, M_isWall, M_isPainter, M_isWork, X_has4, X_has10, X_at, or_false, false_or, or_true, true_or, not_true, not_false_iff, Option.isSome_some, isO_d, gI_d, gA_d, pI_d, ne_eq, not_false_eq_true, u2_hi, u2_hj, u2_dyn, u2_dynj, Nat.reduceAdd, mX_r, mX_rD, mX_rDj, mM_r, mX_u, mX_uM, mX_uD, mX_uDj, mM_u, mM_uX, mM_uD, mM_uDj, u2_dd, u2_d0, u2_0d]
            rw [u2_id' (c := 131) (by simp (decide := true) only [isO_s, gI_s, gA_s, gL_s, pI_s, pZ_s, pL_s, aI_s, aL_s, aN_s, aQ_s, sI_s, sL_s, cr, LNs, Option.map_some, Option.map_none, Option.bind_some, b2, tr, lt, if_true, if_false, ckZ, X_within, M_in, inR_z, X_refuse, X_tell, X_deny, X_grant, M_refused, M_denied, M_done, M_granted, u2_same, u2_ne, u2_u2, upd_same, upd_ne, aW0, ixR_z, ixR_1, M_isWall, M_isPainter, M_isWork, X_has4, X_has10, X_at, or_false, false_or, or_true, true_or, not_true, not_false_iff, Option.isSome_some, isO_d, gI_d, gA_d, pI_d, ne_eq, not_false_eq_true, u2_hi, u2_hj, u2_dyn, u2_dynj, Nat.reduceAdd, mX_r, mX_rD, mX_rDj, mM_r, mX_u, mX_uM, mX_uD, mX_uDj, mM_u, mM_uX, mM_uD, mM_uDj, u2_dd, u2_d0, u2_0d])]
        · have hTn : T = nt := by omega
          subst hTn
          refine ⟨-2, I 25, upd (I 22) k (I 22 k + 1), upd (I 131) k (I 131 k + 1), I 136, h2, by rw [upd_same, upd_same, h3], fun j hj => ⟨upd_ne hj, upd_ne hj⟩, Or.inl rfl, ?_, ?_⟩
          · intro J fu
            have hux := hux J
            rw [if_neg hT] at hux
            simp (decide := true) only [f_X10_finish_31, f_X10_finish_65, f_X10_finish_108, k0, aN_d k2, aI_d k4 (by decide), sI_d k2 (by decide), sI_d k3 (by decide), e2, e3, ek, v1, hv, hux, bv1, bv2, by_m2.1, by_m2.2, oN_succ, NI, isO_s, gI_s, gA_s, gL_s, pI_s, pZ_s, pL_s, aI_s, aL_s, aN_s, aQ_s, sI_s, sL_s, cr, LNs, Option.map_some, Option.map_none, Option.bind_some, b2, tr, lt, if_true, if_false, ckZ, X_within, M_in, inR_z, X_refuse, X_tell, X_deny, X_grant, M_refused, M_denied, M_done, M_granted, u2_same, u2_ne, u2_u2, upd_same, upd_ne, aW0, ixR_z, ixR_1, M_isWall, M_isPainter, M_isWork, X_has4, X_has10, X_at, or_false, false_or, or_true, true_or, not_true, not_false_iff, Option.isSome_some, isO_d, gI_d, gA_d, pI_d, ne_eq, not_false_eq_true, u2_hi, u2_hj, u2_dyn, u2_dynj, Nat.reduceAdd, mX_r, mX_rD, mX_rDj, mM_r, mX_u, mX_uM, mX_uD, mX_uDj, mM_u, mM_uX, mM_uD, mM_uDj, u2_dd, u2_d0, u2_0d]
            rw [u2_id' (I := mX J I) (c := 25) (by simp (decide := true) only [isO_s, gI_s, gA_s, gL_s, pI_s, pZ_s, pL_s, aI_s, aL_s, aN_s, aQ_s, sI_s, sL_s, cr, LNs, Option.map_some, Option.map_none, Option.bind_some, b2, tr, lt, if_true, if_false, ckZ, X_within, M_in, inR_z, X_refuse, X_tell, X_deny, X_grant, M_refused, M_denied, M_done, M_granted, u2_same, u2_ne, u2_u2, upd_same, upd_ne, aW0, ixR_z, ixR_1, M_isWall, M_isPainter, M_isWork, X_has4, X_has10, X_at, or_false, false_or, or_true, true_or, not_true, not_false_iff, Option.isSome_some, isO_d, gI_d, gA_d, pI_d, ne_eq, not_false_eq_true, u2_hi, u2_hj, u2_dyn, u2_dynj, Nat.reduceAdd, mX_r, mX_rD, mX_rDj, mM_r, mX_u, mX_uM, mX_uD, mX_uDj, mM_u, mM_uX, mM_uD, mM_uDj, u2_dd, u2_d0, u2_0d])]
          · intro J fu
            simp (decide := true) only [f_X15_isOver_34, f_X15_isOver_140, f_X15_isOver_162, f_X15_isOver_196, e0, ek, h4, h5, oN_mul, ix192, e2, e4, e5, hv, hum, h1'', Int32.le_refl, oN_succ, NI, isO_s, gI_s, gA_s, gL_s, pI_s, pZ_s, pL_s, aI_s, aL_s, aN_s, aQ_s, sI_s, sL_s, cr, LNs, Option.map_some, Option.map_none, Option.bind_some, b2, tr, lt, if_true, if_false, ckZ, X_within, M_in, inR_z, X_refuse, X_tell, X_deny, X_grant, M_refused, M_denied, M_done, M_granted, u2_same, u2_ne, u2_u2, upd_same, upd_ne, aW0, ixR_z, ixR_1, M_isWall, M_isPainter, M_isWork, X_has4, X_has10, X_at, or_false, false_or, or_true, true_or, not_true, not_false_iff, Option.isSome_some, isO_d, gI_d, gA_d, pI_d, ne_eq, not_false_eq_true, u2_hi, u2_hj, u2_dyn, u2_dynj, Nat.reduceAdd, mX_r, mX_rD, mX_rDj, mM_r, mX_u, mX_uM, mX_uD, mX_uDj, mM_u, mM_uX, mM_uD, mM_uDj, u2_dd, u2_d0, u2_0d]
            rw [u2_id' (c := 136) (by simp (decide := true) only [isO_s, gI_s, gA_s, gL_s, pI_s, pZ_s, pL_s, aI_s, aL_s, aN_s, aQ_s, sI_s, sL_s, cr, LNs, Option.map_some, Option.map_none, Option.bind_some, b2, tr, lt, if_true, if_false, ckZ, X_within, M_in, inR_z, X_refuse, X_tell, X_deny, X_grant, M_refused, M_denied, M_done, M_granted, u2_same, u2_ne, u2_u2, upd_same, upd_ne, aW0, ixR_z, ixR_1, M_isWall, M_isPainter, M_isWork, X_has4, X_has10, X_at, or_false, false_or, or_true, true_or, not_true, not_false_iff, Option.isSome_some, isO_d, gI_d, gA_d, pI_d, ne_eq, not_false_eq_true, u2_hi, u2_hj, u2_dyn, u2_dynj, Nat.reduceAdd, mX_r, mX_rD, mX_rDj, mM_r, mX_u, mX_uM, mX_uD, mX_uDj, mM_u, mM_uX, mM_uD, mM_uDj, u2_dd, u2_d0, u2_0d])]
      obtain ⟨x, tl, la, la', tl', p1, p2, p3, p4, p5, p6⟩ := key
      have hC1 : CH nt w k a wd hg (NI a w k i (I 132 (192 * k + i)) x tl la la' tl' I) := by
        unfold CH
        simp (decide := true) only [NI, u2_same, u2_ne, u2_u2, upd_same, upd_ne, mE, u2_dyn, dyn_u2, dyn_hi, u2_hi, u2_hj, u2_dynj, u2_dd, u2_d0, u2_0d]
        exact ⟨⟨h1, h1', h1''⟩, p1, p2, h4, h5, h6⟩
      obtain ⟨I2, z1, z2, z3, z4, z5⟩ := ih (i + 1) (by omega) _ hC1
      obtain ⟨f1, f2, f3, f4⟩ := z2
      have r132 : I2 132 = I 132 := by
        have := f1 132 (by omega) (by omega) (by decide) (by decide) (by decide) (by decide) (by decide) (by decide) (by decide)
        rw [this]; simp (decide := true) only [NI, u2_same, u2_ne, u2_u2, upd_same, upd_ne, mE, u2_dyn, dyn_u2, dyn_hi, u2_hi, u2_hj, u2_dynj, u2_dd, u2_d0, u2_0d]
      refine ⟨I2, z1, ⟨?_, ?_, ?_, ?_⟩, ?_, ?_, ?_⟩
      · intro c c1 c2 c3 c4 c5 c6 c7 c8 c9
        rw [f1 c c1 c2 c3 c4 c5 c6 c7 c8 c9]
        unfold NI
        rw [u2_ne c9, u2_ne c8, u2_ne c7, u2_ne c6, u2_ne c5, u2_ne c3, u2_ne c2, u2_ne c1, u2_ne c4]
      · intro j hj
        have := f2 j hj
        simp (decide := true) only [NI, u2_same, u2_ne, u2_hj, ne_eq] at this
        rw [(p3 j hj).1, (p3 j hj).2] at this
        exact this
      · intro c hc
        have := f3 c (by omega)
        simp (decide := true) only [NI, u2_same, u2_dd, u2_dynj, ne_eq] at this
        rw [upd_ne (show c ≠ i by omega), upd_ne (show c ≠ i by omega)] at this
        exact this
      · intro y hy
        have := f4 y (by omega)
        simp (decide := true) only [NI, u2_same, u2_ne, u2_hj, ne_eq] at this
        rw [upd_ne (show y ≠ 192 * w + i by omega), upd_ne (show y ≠ 192 * w + i by omega), upd_ne (show y ≠ 192 * w + i by omega)] at this
        exact this
      · intro c c1 c2
        by_cases hz : c = i
        · subst hz
          have g3 := f3 c (by omega)
          have g4 := f4 (192 * w + c) (by omega)
          simp (decide := true) only [NI, u2_same, u2_dd, u2_dynj, ne_eq, upd_same] at g3
          simp (decide := true) only [NI, u2_same, u2_ne, ne_eq, upd_same] at g4
          rw [r132, g3.1, g3.2, g4.1, g4.2.1, g4.2.2]
          exact ⟨rfl, rfl, fun q => absurd q hv, fun _ => ⟨rfl, rfl, p4⟩⟩
        · exact z3 c (by omega) c2
      · intro J fu hfu
        obtain ⟨fu, rfl⟩ : ∃ z, fu = z + 1 := ⟨fu - 1, by omega⟩
        rw [p5 J fu, z4 J fu (by omega)]
        simp (decide := true) only [NI, isO_s, gI_s, gA_s, gL_s, pI_s, pZ_s, pL_s, aI_s, aL_s, aN_s, aQ_s, sI_s, sL_s, cr, LNs, Option.map_some, Option.map_none, Option.bind_some, b2, tr, lt, if_true, if_false, ckZ, X_within, M_in, inR_z, X_refuse, X_tell, X_deny, X_grant, M_refused, M_denied, M_done, M_granted, u2_same, u2_ne, u2_u2, upd_same, upd_ne, aW0, ixR_z, ixR_1, M_isWall, M_isPainter, M_isWork, X_has4, X_has10, X_at, or_false, false_or, or_true, true_or, not_true, not_false_iff, Option.isSome_some, isO_d, gI_d, gA_d, pI_d, ne_eq, not_false_eq_true, u2_hi, u2_hj, u2_dyn, u2_dynj, Nat.reduceAdd, mX_r, mX_rD, mX_rDj, mM_r, mX_u, mX_uM, mX_uD, mX_uDj, mM_u, mM_uX, mM_uD, mM_uDj, u2_dd, u2_d0, u2_0d]
      · intro J fu hfu
        obtain ⟨fu, rfl⟩ : ∃ z, fu = z + 1 := ⟨fu - 1, by omega⟩
        rw [p6 J fu]
        exact z5 J fu (by omega)
end FIN
