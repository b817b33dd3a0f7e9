/-! ===== hole: loops and call ===== -/
theorem mix_m {I I2 : Nat → Nat → Int32} {f g : RW} : mM (u2 (mX I I2) 0 f) (u2 I 72 g) = u2 (u2 (mX I I2) 0 f) 72 g := by
  funext c
  unfold mM mX u2
  by_cases h1 : c = 72
  · subst h1; simp (decide := true) only [if_true]
  · by_cases h2 : 72 ≤ c ∧ c < 148
    · have h3 : ¬ c = 0 := by omega
      simp only [h1, h2, h3, and_self, if_true, if_false]
    · simp only [h1, h2, if_false]
theorem mix_2 {I I2 : Nat → Nat → Int32} {f : RW} : mM (u2 (mX I I2) 0 f) I2 = u2 I2 0 f := by
  funext c
  unfold mM mX u2
  by_cases h1 : c = 0
  · subst h1; simp (decide := true) only [if_true, if_false]
  · by_cases h2 : 72 ≤ c ∧ c < 148
    · simp only [h1, h2, and_self, if_true, if_false]
    · simp only [h1, h2, if_false]
section HOLE2
variable {b : Nat} {F : Nat → Option AE} {D E : Nat → Option KD} {I : Nat → Nat → Int32} {L : Nat → Nat → Int64} {P : Nat → Nat → Option Nat} {nx us : Nat}
theorem holeRow {nw nk nt w j x ww : Nat} {q wd hg ow : Nat → Nat} (hA : WA nw q wd hg ow E (P 2)) (h16 : nw ≤ 16) (hw : w < nw) (hj : j < hg w) (hx : x + ww ≤ wd w) : ∀ (m i : Nat), i + m = x + ww → ∀ I, WALL nw nk nt q wd hg I → I 80 w = -2 →
    ∃ (v : Int32) (I2 : Nat → Nat → Int32), WALL nw nk nt q wd hg I2 ∧ HF w (q w) (wd w * hg w) I I2 ∧
    (∀ (J : Nat → Nat → Int32) (fu : Nat) (k20 : Nat → Int32 → Int32 → Int32 → Int32 → Int32 → Int32 → AH → Option (Int32 × AH)) (y hh n : Int32), m < fu → f_X8_cut_32 k20 fu (ad b (149 + q w)) (Int32.ofNat x) y (Int32.ofNat ww) hh n (Int32.ofNat j) (Int32.ofNat i) (lay b F E (mX J I) L P nx us) = k20 (ad b (149 + q w)) (Int32.ofNat x) y (Int32.ofNat ww) hh (n + v) (Int32.ofNat (j + 1)) (lay b F E (mX J I2) L P nx us)) ∧
    (∀ (J : Nat → Nat → Int32) (fu : Nat) (k114 : Nat → Int32 → Int32 → Int32 → Int32 → Int32 → Int32 → Int32 → AH → Option (Int32 × AH)) (y hh n : Int32), m < fu → f_X15_hole_126 k114 fu (ad b 72) (Int32.ofNat w) (Int32.ofNat x) y (Int32.ofNat ww) hh n (Int32.ofNat j) (Int32.ofNat i) (lay b F E (mM J I) L P nx us) = k114 (ad b 72) (Int32.ofNat w) (Int32.ofNat x) y (Int32.ofNat ww) hh (n + v) (Int32.ofNat (j + 1)) (lay b F E (mM J I2) L P nx us)) := by
  have hwd := (hA w hw).2.2.2.1
  intro m
  induction m with
  | zero =>
    intro i hi I hW h80
    refine ⟨0, I, hW, HF.refl I, ?_, ?_⟩
    · intro J fu k20 y hh n hfu
      obtain ⟨fu, rfl⟩ : ∃ z, fu = z + 1 := ⟨fu - 1, by omega⟩
      have e : Int32.ofNat (x + ww) ≤ Int32.ofNat i := oN_leL (by omega) (by omega)
      simp (decide := true) only [f_X8_cut_32, oN_add, e, oN_succ, Int32.add_zero, isO_s, gI_s, gA_s, gL_s, pI_s, pZ_s, pL_s, aI_s, aL_s, aN_s, aQ_s, sI_s, sL_s, cr, LNs, Option.map_some, Option.map_none, Option.bind_some, b2, tr, lt, if_true, if_false, ckZ, X_within, M_in, inR_z, X_refuse, X_tell, X_deny, X_grant, M_refused, M_denied, M_done, M_granted, u2_same, u2_ne, u2_u2, upd_same, upd_ne, aW0, ixR_z, ixR_1, M_isWall, M_isPainter, M_isWork, X_has4, X_has10, X_at, or_false, false_or, or_true, true_or, not_true, not_false_iff, Option.isSome_some, isO_d, gI_d, gA_d, pI_d, ne_eq, not_false_eq_true, u2_hi, u2_hj, u2_dyn, u2_dynj, Nat.reduceAdd, mX_r, mX_rD, mX_rDj, mM_r, mX_u, mX_uM, mX_uD, mX_uDj, mM_u, mM_uX, mM_uD, mM_uDj, u2_dd, u2_d0, u2_0d]
    · intro J fu k114 y hh n hfu
      obtain ⟨fu, rfl⟩ : ∃ z, fu = z + 1 := ⟨fu - 1, by omega⟩
      have e : Int32.ofNat (x + ww) ≤ Int32.ofNat i := oN_leL (by omega) (by omega)
      simp (decide := true) only [f_X15_hole_126, oN_add, e, oN_succ, Int32.add_zero, isO_s, gI_s, gA_s, gL_s, pI_s, pZ_s, pL_s, aI_s, aL_s, aN_s, aQ_s, sI_s, sL_s, cr, LNs, Option.map_some, Option.map_none, Option.bind_some, b2, tr, lt, if_true, if_false, ckZ, X_within, M_in, inR_z, X_refuse, X_tell, X_deny, X_grant, M_refused, M_denied, M_done, M_granted, u2_same, u2_ne, u2_u2, upd_same, upd_ne, aW0, ixR_z, ixR_1, M_isWall, M_isPainter, M_isWork, X_has4, X_has10, X_at, or_false, false_or, or_true, true_or, not_true, not_false_iff, Option.isSome_some, isO_d, gI_d, gA_d, pI_d, ne_eq, not_false_eq_true, u2_hi, u2_hj, u2_dyn, u2_dynj, Nat.reduceAdd, mX_r, mX_rD, mX_rDj, mM_r, mX_u, mX_uM, mX_uD, mX_uDj, mM_u, mM_uX, mM_uD, mM_uDj, u2_dd, u2_d0, u2_0d]
  | succ m ih =>
    intro i hi I hW h80
    obtain ⟨v1, I1, p1, p2, p3, p4⟩ := hole1 (b := b) (F := F) (E := E) (L := L) (P := P) (nx := nx) (us := us) (i := i) (j := j) hA h16 hw (by omega) hj hW h80
    obtain ⟨v2, I2, z1, z2, z3, z4⟩ := ih (i + 1) (by omega) I1 p1 (by rw [p2 80 (by omega) (by omega) (by omega) (by decide) (by decide)]; exact h80)
    have e : ¬ Int32.ofNat x + Int32.ofNat ww ≤ Int32.ofNat i := by
      rw [oN_add, oN_leF (show i < x + ww by omega) (by omega)]; exact fun q => q
    refine ⟨v1 + v2, I2, z1, p2.trans z2, ?_, ?_⟩
    · intro J fu k20 y hh n hfu
      obtain ⟨fu, rfl⟩ : ∃ z, fu = z + 1 := ⟨fu - 1, by omega⟩
      rw [p3 J fu k20 _ y _ hh n e, z3 J fu k20 y hh _ (by omega), Int32.add_assoc]
    · intro J fu k114 y hh n hfu
      obtain ⟨fu, rfl⟩ : ∃ z, fu = z + 1 := ⟨fu - 1, by omega⟩
      rw [p4 J fu k114 _ y _ hh n e, z4 J fu k114 y hh _ (by omega), Int32.add_assoc]
theorem holeAll {nw nk nt w x y ww hh : Nat} {q wd hg ow : Nat → Nat} (hA : WA nw q wd hg ow E (P 2)) (h16 : nw ≤ 16) (hw : w < nw) (hx : x + ww ≤ wd w) (hy : y + hh ≤ hg w) : ∀ (m j : Nat), j + m = y + hh → ∀ I, WALL nw nk nt q wd hg I → I 80 w = -2 →
    ∃ (v : Int32) (I2 : Nat → Nat → Int32), WALL nw nk nt q wd hg I2 ∧ HF w (q w) (wd w * hg w) I I2 ∧
    (∀ (J : Nat → Nat → Int32) (fu : Nat) (n : Int32), m < fu → f_X8_cut_20 fu (ad b (149 + q w)) (Int32.ofNat x) (Int32.ofNat y) (Int32.ofNat ww) (Int32.ofNat hh) n (Int32.ofNat j) (lay b F E (mX J I) L P nx us) = some (n + v, lay b F E (mX J I2) L P nx us)) ∧
    (∀ (J : Nat → Nat → Int32) (fu : Nat) (n : Int32), m < fu → f_X15_hole_114 fu (ad b 72) (Int32.ofNat w) (Int32.ofNat x) (Int32.ofNat y) (Int32.ofNat ww) (Int32.ofNat hh) n (Int32.ofNat j) (lay b F E (mM J I) L P nx us) = b2 (f_X15_done (ad b 72) (n + v) (lay b F E (mM J I2) L P nx us)) fun x1 h2 => some (x1, h2)) := by
  have hwd := (hA w hw).2.2.2.1
  have hhg := (hA w hw).2.2.2.2.2.1
  intro m
  induction m with
  | zero =>
    intro j hj I hW h80
    refine ⟨0, I, hW, HF.refl I, ?_, ?_⟩
    · intro J fu n hfu
      obtain ⟨fu, rfl⟩ : ∃ z, fu = z + 1 := ⟨fu - 1, by omega⟩
      have e : Int32.ofNat (y + hh) ≤ Int32.ofNat j := oN_leL (by omega) (by omega)
      simp (decide := true) only [f_X8_cut_20, oN_add, e, Int32.add_zero, isO_s, gI_s, gA_s, gL_s, pI_s, pZ_s, pL_s, aI_s, aL_s, aN_s, aQ_s, sI_s, sL_s, cr, LNs, Option.map_some, Option.map_none, Option.bind_some, b2, tr, lt, if_true, if_false, ckZ, X_within, M_in, inR_z, X_refuse, X_tell, X_deny, X_grant, M_refused, M_denied, M_done, M_granted, u2_same, u2_ne, u2_u2, upd_same, upd_ne, aW0, ixR_z, ixR_1, M_isWall, M_isPainter, M_isWork, X_has4, X_has10, X_at, or_false, false_or, or_true, true_or, not_true, not_false_iff, Option.isSome_some, isO_d, gI_d, gA_d, pI_d, ne_eq, not_false_eq_true, u2_hi, u2_hj, u2_dyn, u2_dynj, Nat.reduceAdd, mX_r, mX_rD, mX_rDj, mM_r, mX_u, mX_uM, mX_uD, mX_uDj, mM_u, mM_uX, mM_uD, mM_uDj, u2_dd, u2_d0, u2_0d]
    · intro J fu n hfu
      obtain ⟨fu, rfl⟩ : ∃ z, fu = z + 1 := ⟨fu - 1, by omega⟩
      have e : Int32.ofNat (y + hh) ≤ Int32.ofNat j := oN_leL (by omega) (by omega)
      simp (decide := true) only [f_X15_hole_114, oN_add, e, Int32.add_zero, isO_s, gI_s, gA_s, gL_s, pI_s, pZ_s, pL_s, aI_s, aL_s, aN_s, aQ_s, sI_s, sL_s, cr, LNs, Option.map_some, Option.map_none, Option.bind_some, b2, tr, lt, if_true, if_false, ckZ, X_within, M_in, inR_z, X_refuse, X_tell, X_deny, X_grant, M_refused, M_denied, M_granted, u2_same, u2_ne, u2_u2, upd_same, upd_ne, aW0, ixR_z, ixR_1, M_isWall, M_isPainter, M_isWork, X_has4, X_has10, X_at, or_false, false_or, or_true, true_or, not_true, not_false_iff, Option.isSome_some, isO_d, gI_d, gA_d, pI_d, ne_eq, not_false_eq_true, u2_hi, u2_hj, u2_dyn, u2_dynj, Nat.reduceAdd, mX_r, mX_rD, mX_rDj, mM_r, mX_u, mX_uM, mX_uD, mX_uDj, mM_u, mM_uX, mM_uD, mM_uDj, u2_dd, u2_d0, u2_0d]
  | succ m ih =>
    intro j hj I hW h80
    obtain ⟨v1, I1, p1, p2, p3, p4⟩ := holeRow (b := b) (F := F) (E := E) (L := L) (P := P) (nx := nx) (us := us) (j := j) (x := x) (ww := ww) hA h16 hw (by omega) hx ww x (by omega) I hW h80
    obtain ⟨v2, I2, z1, z2, z3, z4⟩ := ih (j + 1) (by omega) I1 p1 (by rw [p2 80 (by omega) (by omega) (by omega) (by decide) (by decide)]; exact h80)
    have e := oN_leF (show j < y + hh by omega) (by omega)
    refine ⟨v1 + v2, I2, z1, p2.trans z2, ?_, ?_⟩
    · intro J fu n hfu
      obtain ⟨fu, rfl⟩ : ∃ z, fu = z + 1 := ⟨fu - 1, by omega⟩
      have p3 := p3 J FU (f_X8_cut_20 fu) (Int32.ofNat y) (Int32.ofNat hh) n (by unfold FU; omega)
      simp (decide := true) only [f_X8_cut_20, oN_add, e, isO_s, gI_s, gA_s, gL_s, pI_s, pZ_s, pL_s, aI_s, aL_s, aN_s, aQ_s, sI_s, sL_s, cr, LNs, Option.map_some, Option.map_none, Option.bind_some, b2, tr, lt, if_true, if_false, ckZ, X_within, M_in, inR_z, X_refuse, X_tell, X_deny, X_grant, M_refused, M_denied, M_done, M_granted, u2_same, u2_ne, u2_u2, upd_same, upd_ne, aW0, ixR_z, ixR_1, M_isWall, M_isPainter, M_isWork, X_has4, X_has10, X_at, or_false, false_or, or_true, true_or, not_true, not_false_iff, Option.isSome_some, isO_d, gI_d, gA_d, pI_d, ne_eq, not_false_eq_true, u2_hi, u2_hj, u2_dyn, u2_dynj, Nat.reduceAdd, mX_r, mX_rD, mX_rDj, mM_r, mX_u, mX_uM, mX_uD, mX_uDj, mM_u, mM_uX, mM_uD, mM_uDj, u2_dd, u2_d0, u2_0d]
      rw [p3, z3 J fu _ (by omega), Int32.add_assoc]
    · intro J fu n hfu
      obtain ⟨fu, rfl⟩ : ∃ z, fu = z + 1 := ⟨fu - 1, by omega⟩
      have p4 := p4 J FU (f_X15_hole_114 fu) (Int32.ofNat y) (Int32.ofNat hh) n (by unfold FU; omega)
      simp (decide := true) only [f_X15_hole_114, oN_add, e, isO_s, gI_s, gA_s, gL_s, pI_s, pZ_s, pL_s, aI_s, aL_s, aN_s, aQ_s, sI_s, sL_s, cr, LNs, Option.map_some, Option.map_none, Option.bind_some, b2, tr, lt, if_true, if_false, ckZ, X_within, M_in, inR_z, X_refuse, X_tell, X_deny, X_grant, M_refused, M_denied, M_done, M_granted, u2_same, u2_ne, u2_u2, upd_same, upd_ne, aW0, ixR_z, ixR_1, M_isWall, M_isPainter, M_isWork, X_has4, X_has10, X_at, or_false, false_or, or_true, true_or, not_true, not_false_iff, Option.isSome_some, isO_d, gI_d, gA_d, pI_d, ne_eq, not_false_eq_true, u2_hi, u2_hj, u2_dyn, u2_dynj, Nat.reduceAdd, mX_r, mX_rD, mX_rDj, mM_r, mX_u, mX_uM, mX_uD, mX_uDj, mM_u, mM_uX, mM_uD, mM_uDj, u2_dd, u2_d0, u2_0d]
      rw [p4, z4 J fu _ (by omega), Int32.add_assoc]
      simp (decide := true) only [isO_s, gI_s, gA_s, gL_s, pI_s, pZ_s, pL_s, aI_s, aL_s, aN_s, aQ_s, sI_s, sL_s, cr, LNs, Option.map_some, Option.map_none, Option.bind_some, b2, tr, lt, if_true, if_false, ckZ, X_within, M_in, inR_z, X_refuse, X_tell, X_deny, X_grant, M_refused, M_denied, M_done, M_granted, u2_same, u2_ne, u2_u2, upd_same, upd_ne, aW0, ixR_z, ixR_1, M_isWall, M_isPainter, M_isWork, X_has4, X_has10, X_at, or_false, false_or, or_true, true_or, not_true, not_false_iff, Option.isSome_some, isO_d, gI_d, gA_d, pI_d, ne_eq, not_false_eq_true, u2_hi, u2_hj, u2_dyn, u2_dynj, Nat.reduceAdd, mX_r, mX_rD, mX_rDj, mM_r, mX_u, mX_uM, mX_uD, mX_uDj, mM_u, mM_uX, mM_uD, mM_uDj, u2_dd, u2_d0, u2_0d]
theorem X_holdsG {a wd hg : Nat} (x y u v : Int32) (k0 : kdf E (149 + a) = some (.inr (8, true))) (h1 : I (149 + a) 0 = Int32.ofNat wd) (h2 : I (149 + a) 1 = Int32.ofNat hg) : f_X8_holds (ad b (149 + a)) x y u v (lay b F E I L P nx us) = some (if onR x y (Int32.ofNat wd) (Int32.ofNat hg) = 0 ∨ (u < 1 ∨ Int32.ofNat wd - x < u) ∨ (v < 1 ∨ Int32.ofNat hg - y < v) then 0 else 1, (lay b F E I L P nx us)) := by
  simp (decide := true) only [f_X8_holds, f_X8_holds_61, f_X8_holds_60, isO_d, gI_d, k0, if_true, Option.bind_some, ckZ, h1, h2]
  unfold onR
  by_cases c1 : x < 0
  · simp only [c1, if_true, true_or]
  · simp only [c1, if_false]
    by_cases c2 : Int32.ofNat wd ≤ x
    · simp only [c2, if_true, true_or]
    · simp only [c2, if_false]
      by_cases c3 : y < 0
      · simp only [c3, if_true, true_or]
      · simp only [c3, if_false]
        by_cases c4 : Int32.ofNat hg ≤ y
        · simp only [c4, if_true, true_or]
        · simp (decide := true) only [c4, if_false, false_or]
          by_cases c5 : u < 1
          · simp only [c5, if_true, true_or]
          · simp only [c5, if_false, false_or]
            by_cases c6 : Int32.ofNat wd - x < u
            · simp only [c6, if_true, true_or]
            · simp only [c6, if_false, false_or]
              by_cases c7 : v < 1
              · simp only [c7, if_true, true_or]
              · simp only [c7, if_false, false_or]
                by_cases c8 : Int32.ofNat hg - y < v
                · simp only [c8, if_true]
                · simp only [c8, if_false]
theorem call_hole (p x y u v : Int32) {nw nk nt : Nat} {q wd hg ow : Nat → Nat} (hT : GTI I) (hnw : Cn nw 16 (I 1 1) (I 72 4)) (hA : WA nw q wd hg ow E (P 2)) (hW : WALL nw nk nt q wd hg I) : RunS b F E L P nx us (f_X11_hole (ad b 0) p x y u v) (f_X15_hole (ad b 72) p x y u v) I (fun I2 => WALL nw nk nt q wd hg I2 ∧ FrW ow I I2 [(0, 16), (72, 0), (72, 1), (72, 2)] [84, 86]) := by
  rcases wallCase hnw hA p with ⟨h1, h2⟩ | ⟨w, hw, rfl, h1, h2⟩
  · exact Or.inl ⟨1, by decide, -1, u2 I 0 (upd (I 0) 16 1), by (simp (decide := true) only [f_X11_hole, h1, isO_s, gI_s, gA_s, gL_s, pI_s, pZ_s, pL_s, aI_s, aL_s, aN_s, aQ_s, sI_s, sL_s, cr, LNs, Option.map_some, Option.map_none, Option.bind_some, b2, tr, lt, if_true, if_false, ckZ, X_within, M_in, inR_z, X_refuse, X_tell, X_deny, X_grant, M_refused, M_denied, M_done, M_granted, u2_same, u2_ne, u2_u2, upd_same, upd_ne, aW0, ixR_z, ixR_1, M_isWall, M_isPainter, M_isWork, X_has4, X_has10, X_at, or_false, false_or, or_true, true_or, not_true, not_false_iff, Option.isSome_some, isO_d, gI_d, gA_d, pI_d, ne_eq, not_false_eq_true, u2_hi, u2_hj, u2_dyn, u2_dynj, Nat.reduceAdd, mX_r, mX_rD, mX_rDj, mM_r, mX_u, mX_uM, mX_uD, mX_uDj, mM_u, mM_uX, mM_uD, mM_uDj, u2_dd, u2_d0, u2_0d]; try exact rfl), by (simp (decide := true) only [f_X15_hole_163, f_X15_hole_85, f_X15_hole, h2, isO_s, gI_s, gA_s, gL_s, pI_s, pZ_s, pL_s, aI_s, aL_s, aN_s, aQ_s, sI_s, sL_s, cr, LNs, Option.map_some, Option.map_none, Option.bind_some, b2, tr, lt, if_true, if_false, ckZ, X_within, M_in, inR_z, X_refuse, X_tell, X_deny, X_grant, M_refused, M_denied, M_done, M_granted, u2_same, u2_ne, u2_u2, upd_same, upd_ne, aW0, ixR_1, M_isWall, M_isPainter, M_isWork, X_has4, X_has10, X_at, or_false, false_or, or_true, true_or, not_true, not_false_iff, Option.isSome_some, isO_d, gI_d, gA_d, pI_d, ne_eq, not_false_eq_true, u2_hi, u2_hj, u2_dyn, u2_dynj, Nat.reduceAdd, mX_r, mX_rD, mX_rDj, mM_r, mX_u, mX_uM, mX_uD, mX_uDj, mM_u, mM_uX, mM_uD, mM_uDj, u2_dd, u2_d0, u2_0d]; try exact rfl)⟩
  have hW0 := hW
  obtain ⟨hB, hC, hD, hE, hF, hG, hH, hI, hU⟩ := hW
  obtain ⟨-, hK, a1, a2, a3, a4, a5, a6⟩ := hA w hw
  obtain ⟨k0, k1, k2, k3, k4⟩ := WKk hK
  obtain ⟨b1, b2', b3, b4⟩ := hB w hw
  have e3 : iN (Int32.ofNat w) 16 = some w := iN_oN (by have := hnw.1; omega) (by have := hnw.1; omega)
  have hx1 := inR_m (x := x) a1 a2
  have hy1 := inR_m (x := y) a3 (by omega)
  have hX := X_holdsG (b := b) (F := F) (L := L) (P := P) (nx := nx) (us := us) (I := I) x y u v k0 b1 b2'
  have f8 : I (149 + q w) 8 = I 80 w := (hE.1 w hw).1
  rcases onCase x y a2 a4 with h5 | ⟨i, j, hi, hj, rfl, rfl, h5⟩
  · refine Or.inl ⟨2, by decide, -1, u2 I 0 (upd (I 0) 16 2), by (simp (decide := true) only [f_X11_hole, h1, hX, h5, isO_s, gI_s, gA_s, gL_s, pI_s, pZ_s, pL_s, aI_s, aL_s, aN_s, aQ_s, sI_s, sL_s, cr, LNs, Option.map_some, Option.map_none, Option.bind_some, b2, tr, lt, if_true, if_false, ckZ, X_within, M_in, inR_z, X_refuse, X_tell, X_deny, X_grant, M_refused, M_denied, M_done, M_granted, u2_same, u2_ne, u2_u2, upd_same, upd_ne, aW0, ixR_z, ixR_1, M_isWall, M_isPainter, M_isWork, X_has4, X_has10, X_at, or_false, false_or, or_true, true_or, not_true, not_false_iff, Option.isSome_some, isO_d, gI_d, gA_d, pI_d, ne_eq, not_false_eq_true, u2_hi, u2_hj, u2_dyn, u2_dynj, Nat.reduceAdd, mX_r, mX_rD, mX_rDj, mM_r, mX_u, mX_uM, mX_uD, mX_uDj, mM_u, mM_uX, mM_uD, mM_uDj, u2_dd, u2_d0, u2_0d]; try exact rfl), ?_⟩
    by_cases c1 : (x < 0 ∨ Int32.ofNat (wd w) ≤ x)
    · (simp (decide := true) only [f_X15_hole_163, f_X15_hole_85, f_X15_hole, h2, e3, b3, hx1, c1, isO_s, gI_s, gA_s, gL_s, pI_s, pZ_s, pL_s, aI_s, aL_s, aN_s, aQ_s, sI_s, sL_s, cr, LNs, Option.map_some, Option.map_none, Option.bind_some, b2, tr, lt, if_true, if_false, ckZ, X_within, M_in, inR_z, X_refuse, X_tell, X_deny, X_grant, M_refused, M_denied, M_done, M_granted, u2_same, u2_ne, u2_u2, upd_same, upd_ne, aW0, ixR_1, M_isWall, M_isPainter, M_isWork, X_has4, X_has10, X_at, or_false, false_or, or_true, true_or, not_true, not_false_iff, Option.isSome_some, isO_d, gI_d, gA_d, pI_d, ne_eq, not_false_eq_true, u2_hi, u2_hj, u2_dyn, u2_dynj, Nat.reduceAdd, mX_r, mX_rD, mX_rDj, mM_r, mX_u, mX_uM, mX_uD, mX_uDj, mM_u, mM_uX, mM_uD, mM_uDj, u2_dd, u2_d0, u2_0d]; try exact rfl)
    · have c2 : (y < 0 ∨ Int32.ofNat (hg w) ≤ y) := by
        unfold onR at h5
        rw [if_neg (fun q => c1 (Or.inl q)), if_neg (fun q => c1 (Or.inr q))] at h5
        by_cases hya : y < 0
        · exact Or.inl hya
        · rw [if_neg hya] at h5
          by_cases hyb : Int32.ofNat (hg w) ≤ y
          · exact Or.inr hyb
          · rw [if_neg hyb] at h5; cases h5
      (simp (decide := true) only [f_X15_hole_163, f_X15_hole_85, f_X15_hole, h2, e3, b3, b4, hx1, c1, hy1, c2, isO_s, gI_s, gA_s, gL_s, pI_s, pZ_s, pL_s, aI_s, aL_s, aN_s, aQ_s, sI_s, sL_s, cr, LNs, Option.map_some, Option.map_none, Option.bind_some, b2, tr, lt, if_true, if_false, ckZ, X_within, M_in, inR_z, X_refuse, X_tell, X_deny, X_grant, M_refused, M_denied, M_done, M_granted, u2_same, u2_ne, u2_u2, upd_same, upd_ne, aW0, ixR_1, M_isWall, M_isPainter, M_isWork, X_has4, X_has10, X_at, or_false, false_or, or_true, true_or, not_true, not_false_iff, Option.isSome_some, isO_d, gI_d, gA_d, pI_d, ne_eq, not_false_eq_true, u2_hi, u2_hj, u2_dyn, u2_dynj, Nat.reduceAdd, mX_r, mX_rD, mX_rDj, mM_r, mX_u, mX_uM, mX_uD, mX_uDj, mM_u, mM_uX, mM_uD, mM_uDj, u2_dd, u2_d0, u2_0d]; try exact rfl)
  have n1 : ¬ (Int32.ofNat i < 0 ∨ Int32.ofNat (wd w) - 1 < Int32.ofNat i) := by
    rw [hx1, oN_neg (by omega), oN_leF hi (by omega)]; simp
  have n2 : ¬ (Int32.ofNat j < 0 ∨ Int32.ofNat (hg w) - 1 < Int32.ofNat j) := by
    rw [hy1, oN_neg (by omega), oN_leF hj (by omega)]; simp
  by_cases c3 : (u < 1 ∨ Int32.ofNat (wd w) - Int32.ofNat i < u)
  · exact Or.inl ⟨2, by decide, -1, u2 I 0 (upd (I 0) 16 2), by (simp (decide := true) only [f_X11_hole, h1, hX, h5, c3, isO_s, gI_s, gA_s, gL_s, pI_s, pZ_s, pL_s, aI_s, aL_s, aN_s, aQ_s, sI_s, sL_s, cr, LNs, Option.map_some, Option.map_none, Option.bind_some, b2, tr, lt, if_true, if_false, ckZ, X_within, M_in, inR_z, X_refuse, X_tell, X_deny, X_grant, M_refused, M_denied, M_done, M_granted, u2_same, u2_ne, u2_u2, upd_same, upd_ne, aW0, ixR_z, ixR_1, M_isWall, M_isPainter, M_isWork, X_has4, X_has10, X_at, or_false, false_or, or_true, true_or, not_true, not_false_iff, Option.isSome_some, isO_d, gI_d, gA_d, pI_d, ne_eq, not_false_eq_true, u2_hi, u2_hj, u2_dyn, u2_dynj, Nat.reduceAdd, mX_r, mX_rD, mX_rDj, mM_r, mX_u, mX_uM, mX_uD, mX_uDj, mM_u, mM_uX, mM_uD, mM_uDj, u2_dd, u2_d0, u2_0d]; try exact rfl), by (simp (decide := true) only [f_X15_hole_163, f_X15_hole_85, f_X15_hole, h2, e3, b3, b4, n1, n2, c3, isO_s, gI_s, gA_s, gL_s, pI_s, pZ_s, pL_s, aI_s, aL_s, aN_s, aQ_s, sI_s, sL_s, cr, LNs, Option.map_some, Option.map_none, Option.bind_some, b2, tr, lt, if_true, if_false, ckZ, X_within, M_in, inR_z, X_refuse, X_tell, X_deny, X_grant, M_refused, M_denied, M_done, M_granted, u2_same, u2_ne, u2_u2, upd_same, upd_ne, aW0, ixR_1, M_isWall, M_isPainter, M_isWork, X_has4, X_has10, X_at, or_false, false_or, or_true, true_or, not_true, not_false_iff, Option.isSome_some, isO_d, gI_d, gA_d, pI_d, ne_eq, not_false_eq_true, u2_hi, u2_hj, u2_dyn, u2_dynj, Nat.reduceAdd, mX_r, mX_rD, mX_rDj, mM_r, mX_u, mX_uM, mX_uD, mX_uDj, mM_u, mM_uX, mM_uD, mM_uDj, u2_dd, u2_d0, u2_0d]; try exact rfl)⟩
  by_cases c4 : (v < 1 ∨ Int32.ofNat (hg w) - Int32.ofNat j < v)
  · exact Or.inl ⟨2, by decide, -1, u2 I 0 (upd (I 0) 16 2), by (simp (decide := true) only [f_X11_hole, h1, hX, h5, c3, c4, isO_s, gI_s, gA_s, gL_s, pI_s, pZ_s, pL_s, aI_s, aL_s, aN_s, aQ_s, sI_s, sL_s, cr, LNs, Option.map_some, Option.map_none, Option.bind_some, b2, tr, lt, if_true, if_false, ckZ, X_within, M_in, inR_z, X_refuse, X_tell, X_deny, X_grant, M_refused, M_denied, M_done, M_granted, u2_same, u2_ne, u2_u2, upd_same, upd_ne, aW0, ixR_z, ixR_1, M_isWall, M_isPainter, M_isWork, X_has4, X_has10, X_at, or_false, false_or, or_true, true_or, not_true, not_false_iff, Option.isSome_some, isO_d, gI_d, gA_d, pI_d, ne_eq, not_false_eq_true, u2_hi, u2_hj, u2_dyn, u2_dynj, Nat.reduceAdd, mX_r, mX_rD, mX_rDj, mM_r, mX_u, mX_uM, mX_uD, mX_uDj, mM_u, mM_uX, mM_uD, mM_uDj, u2_dd, u2_d0, u2_0d]; try exact rfl), by (simp (decide := true) only [f_X15_hole_163, f_X15_hole_85, f_X15_hole, h2, e3, b3, b4, n1, n2, c3, c4, isO_s, gI_s, gA_s, gL_s, pI_s, pZ_s, pL_s, aI_s, aL_s, aN_s, aQ_s, sI_s, sL_s, cr, LNs, Option.map_some, Option.map_none, Option.bind_some, b2, tr, lt, if_true, if_false, ckZ, X_within, M_in, inR_z, X_refuse, X_tell, X_deny, X_grant, M_refused, M_denied, M_done, M_granted, u2_same, u2_ne, u2_u2, upd_same, upd_ne, aW0, ixR_1, M_isWall, M_isPainter, M_isWork, X_has4, X_has10, X_at, or_false, false_or, or_true, true_or, not_true, not_false_iff, Option.isSome_some, isO_d, gI_d, gA_d, pI_d, ne_eq, not_false_eq_true, u2_hi, u2_hj, u2_dyn, u2_dynj, Nat.reduceAdd, mX_r, mX_rD, mX_rDj, mM_r, mX_u, mX_uM, mX_uD, mX_uDj, mM_u, mM_uX, mM_uD, mM_uDj, u2_dd, u2_d0, u2_0d]; try exact rfl)⟩
  by_cases c5 : I 80 w = -2
  · have c3' := c3
    have c4' := c4
    rw [oN_sub (by omega)] at c3' c4'
    obtain ⟨ww, w1, w2, rfl⟩ := lo_1 c3' (by omega)
    obtain ⟨hh, y1, y2, rfl⟩ := lo_1 c4' (by omega)
    let I0 : Nat → Nat → Int32 := u2 I 72 (upd (I 72) 0 0)
    obtain ⟨n, I2, z1, z2, z3, z4⟩ := holeAll (b := b) (F := F) (E := E) (L := L) (P := P) (nx := nx) (us := us) (x := i) (y := j) (ww := ww) (hh := hh) hA hnw.1 hw (by omega) (by omega) hh j (by omega) I0 (by unfold WALL; simp (decide := true) only [I0, u2_same, u2_ne, u2_u2, upd_same, upd_ne, mE, u2_dyn, dyn_u2, dyn_hi, u2_hi, u2_hj, u2_dynj, u2_dd, u2_d0, u2_0d]; exact hW0) (by simp (decide := true) only [I0, u2_same, u2_ne, u2_u2, upd_same, upd_ne, mE, u2_dyn, dyn_u2, dyn_hi, u2_hi, u2_hj, u2_dynj, u2_dd, u2_d0, u2_0d]; exact c5)
    have z3 := z3 I FU 0 (by unfold FU; omega)
    have z4 := z4 (u2 (mX I I2) 0 (upd (I2 0) 16 0)) FU 0 (by unfold FU; omega)
    rw [Int32.zero_add] at z3 z4
    have r0 : I2 0 = I 0 := by rw [z2 0 (by omega) (by omega) (by omega) (by decide) (by decide)]; simp (decide := true) only [I0, u2_same, u2_ne, u2_u2, upd_same, upd_ne, mE, u2_dyn, dyn_u2, dyn_hi, u2_hi, u2_hj, u2_dynj, u2_dd, u2_d0, u2_0d]
    have r72 : I2 72 = upd (I 72) 0 0 := by rw [z2 72 (by omega) (by omega) (by omega) (by decide) (by decide)]; simp (decide := true) only [I0, u2_same, u2_ne, u2_u2, upd_same, upd_ne, mE, u2_dyn, dyn_u2, dyn_hi, u2_hi, u2_hj, u2_dynj, u2_dd, u2_d0, u2_0d]
    have hx : mX I I0 = I := by
      show mX I (u2 I 72 _) = I
      rw [mX_uM (by decide), mX_id]
    have hm : mM (u2 (mX I I2) 0 (upd (I2 0) 16 0)) I0 = u2 (u2 (mX I I2) 0 (upd (I2 0) 16 0)) 72 (upd (I 72) 0 0) := mix_m
    have hm2 : mM (u2 (mX I I2) 0 (upd (I2 0) 16 0)) I2 = u2 I2 0 (upd (I2 0) 16 0) := mix_2
    rw [hx] at z3
    rw [hm, hm2] at z4
    have hmx : mX I I2 72 = I 72 := if_pos (by decide)
    have hm73 : mX I I2 73 = I 73 := if_pos (by decide)
    have hm74 : mX I I2 74 = I 74 := if_pos (by decide)
    have hm80 : mX I I2 80 = I 80 := if_pos (by decide)
    refine Or.inr ⟨u2 (u2 I2 0 (upd (I2 0) 16 0)) 72 (mE (I2 72) 0), ⟨n, u2 (mX I I2) 0 (upd (I2 0) 16 0), ?_, ?_⟩, ?_, ?_, ?_⟩
    · simp (decide := true) only [f_X11_hole, f_X8_cut_88, f_X8_cut, h1, hX, h5, c3, c4, k0, f8, c5, z3, isO_s, gI_s, gA_s, gL_s, pI_s, pZ_s, pL_s, aI_s, aL_s, aN_s, aQ_s, sI_s, sL_s, cr, LNs, Option.map_some, Option.map_none, Option.bind_some, b2, tr, lt, if_true, if_false, ckZ, X_within, M_in, inR_z, X_refuse, X_tell, X_deny, X_grant, M_refused, M_denied, M_done, M_granted, u2_same, u2_ne, u2_u2, upd_same, upd_ne, aW0, ixR_z, ixR_1, M_isWall, M_isPainter, M_isWork, X_has4, X_has10, X_at, or_false, false_or, or_true, true_or, not_true, not_false_iff, Option.isSome_some, isO_d, gI_d, gA_d, pI_d, ne_eq, not_false_eq_true, u2_hi, u2_hj, u2_dyn, u2_dynj, Nat.reduceAdd, mX_r, mX_rD, mX_rDj, mM_r, mX_u, mX_uM, mX_uD, mX_uDj, mM_u, mM_uX, mM_uD, mM_uDj, u2_dd, u2_d0, u2_0d]
    · simp (decide := true) only [f_X15_hole_163, f_X15_hole_85, f_X15_hole, hmx, hm73, hm74, hm80, h2, e3, b3, b4, n1, n2, c3, c4, c5, z4, isO_s, gI_s, gA_s, gL_s, pI_s, pZ_s, pL_s, aI_s, aL_s, aN_s, aQ_s, sI_s, sL_s, cr, LNs, Option.map_some, Option.map_none, Option.bind_some, b2, tr, lt, if_true, if_false, ckZ, X_within, M_in, inR_z, X_refuse, X_tell, X_deny, X_grant, M_refused, M_denied, M_done, M_granted, u2_same, u2_ne, u2_u2, upd_same, upd_ne, aW0, ixR_1, M_isWall, M_isPainter, M_isWork, X_has4, X_has10, X_at, or_false, false_or, or_true, true_or, not_true, not_false_iff, Option.isSome_some, isO_d, gI_d, gA_d, pI_d, ne_eq, not_false_eq_true, u2_hi, u2_hj, u2_dyn, u2_dynj, Nat.reduceAdd, mX_r, mX_rD, mX_rDj, mM_r, mX_u, mX_uM, mX_uD, mX_uDj, mM_u, mM_uX, mM_uD, mM_uDj, u2_dd, u2_d0, u2_0d]
    · simp (decide := true) only [GTI, u2_same, u2_ne, u2_u2, upd_same, upd_ne, mE, u2_dyn, dyn_u2, dyn_hi, u2_hi, u2_hj, u2_dynj, u2_dd, u2_d0, u2_0d]
      rw [r0, r72]
      simp (decide := true) only [u2_same, u2_ne, u2_u2, upd_same, upd_ne, mE, u2_dyn, dyn_u2, dyn_hi, u2_hi, u2_hj, u2_dynj, u2_dd, u2_d0, u2_0d]
      exact GT_end hT (by decide)
    · unfold WALL
      simp (decide := true) only [u2_same, u2_ne, u2_u2, upd_same, upd_ne, mE, u2_dyn, dyn_u2, dyn_hi, u2_hi, u2_hj, u2_dynj, u2_dd, u2_d0, u2_0d]
      exact z1
    · refine ⟨?_, ?_⟩
      · intro c k h0 k1 k2
        simp at k1 k2
        by_cases q0 : c = 0
        · subst q0
          simp (decide := true) only [u2_same, u2_ne, u2_u2, upd_same, upd_ne, mE, u2_dyn, dyn_u2, dyn_hi, u2_hi, u2_hj, u2_dynj, u2_dd, u2_d0, u2_0d]
          rw [r0]
          exact upd_ne (by omega)
        · by_cases q1 : c = 72
          · subst q1
            simp (decide := true) only [u2_same, u2_ne, u2_u2, upd_same, upd_ne, mE, u2_dyn, dyn_u2, dyn_hi, u2_hi, u2_hj, u2_dynj, u2_dd, u2_d0, u2_0d]
            rw [r72]
            unfold upd
            rw [if_neg (by omega), if_neg (by omega), if_neg (by omega)]
          · rw [u2_ne q1, u2_ne q0, z2 c (by omega) (by omega) (by omega) (by omega) (by omega)]
            show u2 I 72 _ c k = _
            rw [u2_ne q1]
      · intro c hc
        have g1 : c ≠ q w + 1 := fun e => hc (e ▸ a6 1 (by omega))
        have g2 : c ≠ q w + 2 := fun e => hc (e ▸ a6 2 (by omega))
        have g3 : c ≠ q w + 3 := fun e => hc (e ▸ a6 3 (by omega))
        show u2 (u2 I2 0 _) 72 _ (149 + c) = I (149 + c)
        rw [u2_ne (by omega), u2_ne (by omega), z2 (149 + c) (by omega) (by omega) (by omega) (by omega) (by omega)]
        show u2 I 72 _ (149 + c) = _
        rw [u2_ne (by omega)]
  · exact Or.inl ⟨5, by decide, -1, u2 I 0 (upd (I 0) 16 5), by (simp (decide := true) only [f_X11_hole, h1, hX, h5, c3, c4, k0, f8, c5, isO_s, gI_s, gA_s, gL_s, pI_s, pZ_s, pL_s, aI_s, aL_s, aN_s, aQ_s, sI_s, sL_s, cr, LNs, Option.map_some, Option.map_none, Option.bind_some, b2, tr, lt, if_true, if_false, ckZ, X_within, M_in, inR_z, X_refuse, X_tell, X_deny, X_grant, M_refused, M_denied, M_done, M_granted, u2_same, u2_ne, u2_u2, upd_same, upd_ne, aW0, ixR_z, ixR_1, M_isWall, M_isPainter, M_isWork, X_has4, X_has10, X_at, or_false, false_or, or_true, true_or, not_true, not_false_iff, Option.isSome_some, isO_d, gI_d, gA_d, pI_d, ne_eq, not_false_eq_true, u2_hi, u2_hj, u2_dyn, u2_dynj, Nat.reduceAdd, mX_r, mX_rD, mX_rDj, mM_r, mX_u, mX_uM, mX_uD, mX_uDj, mM_u, mM_uX, mM_uD, mM_uDj, u2_dd, u2_d0, u2_0d]; try exact rfl), by (simp (decide := true) only [f_X15_hole_163, f_X15_hole_85, f_X15_hole, h2, e3, b3, b4, n1, n2, c3, c4, c5, isO_s, gI_s, gA_s, gL_s, pI_s, pZ_s, pL_s, aI_s, aL_s, aN_s, aQ_s, sI_s, sL_s, cr, LNs, Option.map_some, Option.map_none, Option.bind_some, b2, tr, lt, if_true, if_false, ckZ, X_within, M_in, inR_z, X_refuse, X_tell, X_deny, X_grant, M_refused, M_denied, M_done, M_granted, u2_same, u2_ne, u2_u2, upd_same, upd_ne, aW0, ixR_1, M_isWall, M_isPainter, M_isWork, X_has4, X_has10, X_at, or_false, false_or, or_true, true_or, not_true, not_false_iff, Option.isSome_some, isO_d, gI_d, gA_d, pI_d, ne_eq, not_false_eq_true, u2_hi, u2_hj, u2_dyn, u2_dynj, Nat.reduceAdd, mX_r, mX_rD, mX_rDj, mM_r, mX_u, mX_uM, mX_uD, mX_uDj, mM_u, mM_uX, mM_uD, mM_uDj, u2_dd, u2_d0, u2_0d]; try exact rfl)⟩
end HOLE2
