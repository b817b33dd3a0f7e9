/-! ===== painting: each ===== -/
theorem BV_i {v : Int32} (h : BV v) : -9999 ≤ v.toInt ∧ v.toInt ≤ 9999 := by
  have h1 := Int32.le_iff_toInt_le.mp h.1
  have h2 := Int32.le_iff_toInt_le.mp h.2
  have e1 : (-9999 : Int32).toInt = -9999 := by decide
  have e2 : (9999 : Int32).toInt = 9999 := by decide
  rw [e1] at h1
  rw [e2] at h2
  exact ⟨h1, h2⟩
theorem BV_s {v : Int32} (h : BV v) : (v + 1).toInt = v.toInt + 1 := by
  have hi := BV_i h
  have e1 : (1 : Int32).toInt = 1 := by decide
  rw [Int32.toInt_add, e1]
  apply Int.bmod_eq_of_le
  · omega
  · omega
theorem BV_of {v : Int32} (h1 : -9999 ≤ v.toInt) (h2 : v.toInt ≤ 9999) : BV v := by
  have e1 : (-9999 : Int32).toInt = -9999 := by decide
  have e2 : (9999 : Int32).toInt = 9999 := by decide
  exact ⟨Int32.le_iff_toInt_le.mpr (by rw [e1]; exact h1), Int32.le_iff_toInt_le.mpr (by rw [e2]; exact h2)⟩
section EAC
variable {b : Nat} {F : Nat → Option AE} {D E : Nat → Option KD} {I : Nat → Nat → Int32} {L : Nat → Nat → Int64} {P : Nat → Nat → Option Nat} {nx us : Nat}
theorem X_beg0 {cv c dl wc d : Nat} {dd dv dt : RW} (hcv : CV cv) (hc : CDr E c dl wc dd dv dt I) (hd : d < dl) (h12 : I cv 12 = Int32.ofNat 2) (hlt : I (cv + 4) 1 < I (cv + 4) 0) : f_X0_beginEach (ad b cv) (ad b c) (Int32.ofNat d) (lay b F E I L P nx us) = some (dt d, lay b F E (u2 I cv (upd (I cv) 12 (Int32.ofNat 0))) L P nx us) := by
  have hcr := CV_r hcv
  have e3 := X_rel (b := b) (F := F) (E := E) (I := I) (L := L) (P := P) (nx := nx) (us := us) (k := 1) hcv (by decide) h12
  have e4 := X_rel (b := b) (F := F) (E := E) (I := u2 I cv (upd (I cv) 12 (Int32.ofNat 1))) (L := L) (P := P) (nx := nx) (us := us) (k := 0) hcv (by decide) (by rw [u2_same, upd_same])
  rw [u2_same, u2_u2, upd_upd, u2_ne (show cv + 4 ≠ cv by omega)] at e4
  have hc2 : CDr E c dl wc dd dv dt (u2 I cv (upd (I cv) 12 (Int32.ofNat 0))) := hc.fr (fun q hq => u2_ne (by omega))
  obtain ⟨c0, c1, c2, c3, c4, c5, c6, c7, c8, c9, ca, cb, cc⟩ := hc2
  have eo : iN (Int32.ofNat d) dl = some d := iN_oN hd (by omega)
  unfold f_X0_beginEach f_X0_beginEach_29
  rw [if_pos (isO_s (CV_k hcv)), e3, b2_p, e4, b2_p, if_pos hlt, gA_cr c0 (by decide) (show cr 1 c 2 = some (c + 3) from rfl), Option.bind_some, aI_lay c3 (by decide), eo, c9]
  rfl
/-- a round begun -/
def xB1 (cv ec x : Nat) (from_ to_ : Int32) (I : Nat → Nat → Int32) : Nat → Nat → Int32 := u2 (u2 (u2 (u2 (u2 I cv (upd (I cv) 12 (Int32.ofNat 0))) (cv + 5) (upd (I (cv + 5)) ec from_)) (cv + 6) (upd (I (cv + 6)) ec to_)) cv (upd (upd (I cv) 12 (Int32.ofNat 0)) 15 (Int32.ofNat (ec + 1)))) (cv + 3) (upd (I (cv + 3)) x from_)
theorem X_setv {cv x : Nat} {v : Int32} (hcv : CV cv) (hx : x < 5) : f_X0_setVar (ad b cv) (Int32.ofNat x) v (lay b F E I L P nx us) = some (lay b F E (u2 I (cv + 3) (upd (I (cv + 3)) x v)) L P nx us) := by
  have e1 : (Int32.ofNat x < 0) = False := oN_neg (by omega)
  have e2 : (Int32.ofNat 5 ≤ Int32.ofNat x) = False := oN_leF hx (by omega)
  have e3 : iN (Int32.ofNat x) 5 = some x := iN_oN hx (by omega)
  rcases hcv with rfl | rfl
  · simp (decide := true) only [f_X0_setVar_20, f_X0_setVar, e1, e2, e3, isO_s, gI_s, gA_s, gL_s, pI_s, pZ_s, pL_s, aI_s, aL_s, aN_s, aQ_s, sI_s, sL_s, cr, LNs, Option.map_some, Option.map_none, Option.bind_some, b2, tr, lt, if_true, if_false, ckZ, X_within, M_in, inR_z, X_refuse, X_tell, X_deny, X_grant, M_refused, M_denied, M_done, M_granted, u2_same, u2_ne, u2_u2, upd_same, upd_ne, aW0, ixR_z, ixR_1, M_isWall, M_isPainter, M_isWork, X_has4, X_has10, X_at, or_false, false_or, or_true, true_or, not_true, not_false_iff, Option.isSome_some, isO_d, gI_d, gA_d, pI_d, ne_eq, not_false_eq_true, u2_hi, u2_hj, u2_dyn, u2_dynj, Nat.reduceAdd, mX_r, mX_rD, mX_rDj, mM_r, mX_u, mX_uM, mX_uD, mX_uDj, mM_u, mM_uX, mM_uD, mM_uDj, u2_dd, u2_d0, u2_0d]
  · simp (decide := true) only [f_X0_setVar_20, f_X0_setVar, e1, e2, e3, isO_s, gI_s, gA_s, gL_s, pI_s, pZ_s, pL_s, aI_s, aL_s, aN_s, aQ_s, sI_s, sL_s, cr, LNs, Option.map_some, Option.map_none, Option.bind_some, b2, tr, lt, if_true, if_false, ckZ, X_within, M_in, inR_z, X_refuse, X_tell, X_deny, X_grant, M_refused, M_denied, M_done, M_granted, u2_same, u2_ne, u2_u2, upd_same, upd_ne, aW0, ixR_z, ixR_1, M_isWall, M_isPainter, M_isWork, X_has4, X_has10, X_at, or_false, false_or, or_true, true_or, not_true, not_false_iff, Option.isSome_some, isO_d, gI_d, gA_d, pI_d, ne_eq, not_false_eq_true, u2_hi, u2_hj, u2_dyn, u2_dynj, Nat.reduceAdd, mX_r, mX_rD, mX_rDj, mM_r, mX_u, mX_uM, mX_uD, mX_uDj, mM_u, mM_uX, mM_uD, mM_uDj, u2_dd, u2_d0, u2_0d]
theorem X_beg1 {cv c dl wc d ec x : Nat} {dd dv dt : RW} (hcv : CV cv) (hc : CDr E c dl wc dd dv dt I) (hd : d < dl) (h12 : I cv 12 = Int32.ofNat 2) (h15 : I cv 15 = Int32.ofNat ec) (hec : ec < 6) (hx : x < 5) (hdv : dv d = Int32.ofNat x) (hlt : ¬ I (cv + 4) 1 < I (cv + 4) 0) : f_X0_beginEach (ad b cv) (ad b c) (Int32.ofNat d) (lay b F E I L P nx us) = some (Int32.ofNat (d + 1), lay b F E (xB1 cv ec x (I (cv + 4) 0) (I (cv + 4) 1) I) L P nx us) := by
  have hcr := CV_r hcv
  have e3 := X_rel (b := b) (F := F) (E := E) (I := I) (L := L) (P := P) (nx := nx) (us := us) (k := 1) hcv (by decide) h12
  have e4 := X_rel (b := b) (F := F) (E := E) (I := u2 I cv (upd (I cv) 12 (Int32.ofNat 1))) (L := L) (P := P) (nx := nx) (us := us) (k := 0) hcv (by decide) (by rw [u2_same, upd_same])
  rw [u2_same, u2_u2, upd_upd, u2_ne (show cv + 4 ≠ cv by omega)] at e4
  have k5 : KT (cv + 5) = some (.inl (0, 6)) := by rcases hcv with rfl | rfl <;> decide
  have k6 : KT (cv + 6) = some (.inl (0, 6)) := by rcases hcv with rfl | rfl <;> decide
  have g13 : ∀ J : Nat → Nat → Int32, gA 0 (lay b F E J L P nx us) (ad b cv) 13 = some (ad b (cv + 5)) := fun J => gA_cr (kdf_KT (CV_k hcv)) (by decide) (show cr 0 cv 13 = some (cv + 5) from rfl)
  have g14 : ∀ J : Nat → Nat → Int32, gA 0 (lay b F E J L P nx us) (ad b cv) 14 = some (ad b (cv + 6)) := fun J => gA_cr (kdf_KT (CV_k hcv)) (by decide) (show cr 0 cv 14 = some (cv + 6) from rfl)
  have ei : iN (Int32.ofNat ec) 6 = some ec := iN_oN hec (by omega)
  have hdl : dl < 360 := hc.2.2.2.2.2.2.2.2.2.2.2.1
  have eo : iN (Int32.ofNat d) dl = some d := iN_oN hd (by omega)
  have hcJ : ∀ J : Nat → Nat → Int32, (∀ q, 149 ≤ q → J q = I q) → ((gA 1 (lay b F E J L P nx us) (ad b c) 1).bind fun a => aI 3 (lay b F E J L P nx us) a (Int32.ofNat d)) = some (dv d) := by
    intro J hJ
    obtain ⟨c0, c1, c2, c3, c4, c5, c6, c7, c8, c9, ca, cb, cc⟩ := hc.fr hJ
    rw [gA_cr c0 (by decide) (show cr 1 c 1 = some (c + 2) from rfl), Option.bind_some, aI_lay c2 (by decide), eo, c8]
    rfl
  have c0 := hc.1
  unfold f_X0_beginEach
  rw [if_pos (isO_s (CV_k hcv)), e3, b2_p, e4, b2_p, if_neg hlt, gI_s (CV_k hcv) (by decide), Option.bind_some, u2_same, upd_ne (by decide), h15, g13, Option.bind_some, aN_lay (kdf_KT k5), Option.bind_some, if_pos ((oN_lt (by omega) (by omega)).mpr hec), Option.bind_some, Option.bind_some, sI_lay (kdf_KT k5) (by decide), ei, Option.map_some, Option.bind_some, g14, Option.bind_some, gI_s (CV_k hcv) (by decide), Option.bind_some, u2_ne (show cv ≠ cv + 5 by omega), u2_same, upd_ne (by decide), h15, sI_lay (kdf_KT k6) (by decide), ei, Option.map_some, Option.bind_some, gI_s (CV_k hcv) (by decide), Option.bind_some, u2_ne (show cv ≠ cv + 6 by omega), u2_ne (show cv ≠ cv + 5 by omega), u2_same, upd_ne (by decide), h15, pI_s (CV_k hcv) (by decide), Option.bind_some]
  have hJ := hcJ (u2 (u2 (u2 (u2 I cv (upd (I cv) 12 (Int32.ofNat 0))) (cv + 5) (upd (u2 I cv (upd (I cv) 12 (Int32.ofNat 0)) (cv + 5)) ec (aW 0 (I (cv + 4) 0)))) (cv + 6) (upd (u2 (u2 I cv (upd (I cv) 12 (Int32.ofNat 0))) (cv + 5) (upd (u2 I cv (upd (I cv) 12 (Int32.ofNat 0)) (cv + 5)) ec (aW 0 (I (cv + 4) 0))) (cv + 6)) ec (aW 0 (I (cv + 4) 1)))) cv (upd (u2 (u2 (u2 I cv (upd (I cv) 12 (Int32.ofNat 0))) (cv + 5) (upd (u2 I cv (upd (I cv) 12 (Int32.ofNat 0)) (cv + 5)) ec (aW 0 (I (cv + 4) 0)))) (cv + 6) (upd (u2 (u2 I cv (upd (I cv) 12 (Int32.ofNat 0))) (cv + 5) (upd (u2 I cv (upd (I cv) 12 (Int32.ofNat 0)) (cv + 5)) ec (aW 0 (I (cv + 4) 0))) (cv + 6)) ec (aW 0 (I (cv + 4) 1))) cv) 15 (Int32.ofNat ec + 1))) (fun q hq => by rw [u2_ne (by omega), u2_ne (by omega), u2_ne (by omega), u2_ne (by omega)])
  rw [gA_cr c0 (by decide) (show cr 1 c 1 = some (c + 2) from rfl), Option.bind_some] at hJ
  rw [gA_cr c0 (by decide) (show cr 1 c 1 = some (c + 2) from rfl), Option.bind_some, hJ, Option.bind_some, hdv, X_setv hcv hx, Option.bind_some, oN_succ, oN_succ]
  unfold xB1
  congr 2
  refine congrArg (fun z => lay b F E z L P nx us) ?_
  funext q
  by_cases q3 : q = cv + 3
  · subst q3
    rw [u2_same, u2_same, u2_ne (by omega), u2_ne (by omega), u2_ne (by omega), u2_ne (by omega)]
  · rw [u2_ne q3, u2_ne q3]
    by_cases q0 : q = cv
    · subst q0
      rw [u2_same, u2_same, u2_ne (by omega), u2_ne (by omega), u2_same]
    · rw [u2_ne q0, u2_ne q0]
      by_cases q6 : q = cv + 6
      · subst q6
        rw [u2_same, u2_same, u2_ne (by omega), u2_ne (by omega)]
        rfl
      · rw [u2_ne q6, u2_ne q6]
        by_cases q5 : q = cv + 5
        · subst q5
          rw [u2_same, u2_same, u2_ne (by omega)]
          rfl
        · rw [u2_ne q5, u2_ne q5]
/-- a round goes on -/
def xG1 (cv ec x : Nat) (v : Int32) (I : Nat → Nat → Int32) : Nat → Nat → Int32 := u2 (u2 I (cv + 5) (upd (I (cv + 5)) ec (v + 1))) (cv + 3) (upd (I (cv + 3)) x (v + 1))
theorem X_goOn {cv c dl wc d c' ec x : Nat} {dd dv dt : RW} (hcv : CV cv) (hc : CDr E c dl wc dd dv dt I) (hd : d < dl) (hc' : c' < dl) (h15 : I cv 15 = Int32.ofNat (ec + 1)) (hec : ec < 6) (hx : x < 5) (hdv : dv d = Int32.ofNat x) (hdt : dt c' = Int32.ofNat d) : f_X0_goOn (ad b cv) (ad b c) (Int32.ofNat c') (lay b F E I L P nx us) = if I (cv + 5) ec < I (cv + 6) ec then some (Int32.ofNat (d + 1), lay b F E (xG1 cv ec x (I (cv + 5) ec) I) L P nx us) else some (Int32.ofNat (c' + 1), lay b F E (u2 I cv (upd (I cv) 15 (Int32.ofNat ec))) L P nx us) := by
  have hcr := CV_r hcv
  have k5 : KT (cv + 5) = some (.inl (0, 6)) := by rcases hcv with rfl | rfl <;> decide
  have k6 : KT (cv + 6) = some (.inl (0, 6)) := by rcases hcv with rfl | rfl <;> decide
  have g13 : ∀ J : Nat → Nat → Int32, gA 0 (lay b F E J L P nx us) (ad b cv) 13 = some (ad b (cv + 5)) := fun J => gA_cr (kdf_KT (CV_k hcv)) (by decide) (show cr 0 cv 13 = some (cv + 5) from rfl)
  have g14 : ∀ J : Nat → Nat → Int32, gA 0 (lay b F E J L P nx us) (ad b cv) 14 = some (ad b (cv + 6)) := fun J => gA_cr (kdf_KT (CV_k hcv)) (by decide) (show cr 0 cv 14 = some (cv + 6) from rfl)
  have ei : iN (Int32.ofNat ec) 6 = some ec := iN_oN hec (by omega)
  have hc2 := hc
  obtain ⟨c0, c1, c2, c3, c4, c5, c6, c7, c8, c9, ca, cb, cc⟩ := hc2
  have eo : iN (Int32.ofNat d) dl = some d := iN_oN hd (by omega)
  have eo' : iN (Int32.ofNat c') dl = some c' := iN_oN hc' (by omega)
  have hJ : aI 3 (lay b F E (u2 I (cv + 5) (upd (I (cv + 5)) ec (I (cv + 5) ec + 1))) L P nx us) (ad b (c + 2)) (Int32.ofNat d) = some (Int32.ofNat x) := by
    rw [aI_lay c2 (by decide), eo, u2_ne (by omega), c8, ← hdv]
    rfl
  have e15 : Int32.ofNat (ec + 1) - 1 = Int32.ofNat ec := oN_pred ec
  have s5 : sI 0 (lay b F E I L P nx us) (ad b (cv + 5)) (Int32.ofNat ec) (I (cv + 5) ec + 1) = some (lay b F E (u2 I (cv + 5) (upd (I (cv + 5)) ec (I (cv + 5) ec + 1))) L P nx us) := by
    rw [sI_lay (kdf_KT k5) (by decide), ei]
    rfl
  have a5 : ∀ J : Nat → Nat → Int32, aI 0 (lay b F E J L P nx us) (ad b (cv + 5)) (Int32.ofNat ec) = some (J (cv + 5) ec) := fun J => by rw [aI_lay (kdf_KT k5) (by decide), ei]; rfl
  have a6 : ∀ J : Nat → Nat → Int32, aI 0 (lay b F E J L P nx us) (ad b (cv + 6)) (Int32.ofNat ec) = some (J (cv + 6) ec) := fun J => by rw [aI_lay (kdf_KT k6) (by decide), ei]; rfl
  have a3' : aI 3 (lay b F E I L P nx us) (ad b (c + 3)) (Int32.ofNat c') = some (Int32.ofNat d) := by
    rw [aI_lay c3 (by decide), eo', c9, ← hdt]
    rfl
  unfold f_X0_goOn
  rw [if_pos (isO_s (CV_k hcv)), gA_cr c0 (by decide) (show cr 1 c 2 = some (c + 3) from rfl), Option.bind_some, a3', Option.bind_some, gI_s (CV_k hcv) (by decide), Option.bind_some, h15, if_neg (fun q => by have := (oN_le (c := 0) (by omega) (by omega)).mp q; omega), if_neg (fun q => by have := (oN_lt (c := 0) (by omega) (by omega)).mp q; omega), gI_lay c0 (by decide), Option.bind_some, c5, if_pos ((oN_lt (by omega) (by omega)).mpr hd), Option.bind_some, e15, g13, Option.bind_some, a5, Option.bind_some, g14, Option.bind_some, a6, Option.bind_some]
  by_cases hlt : I (cv + 5) ec < I (cv + 6) ec
  · rw [if_pos hlt, if_pos hlt, Option.bind_some, a5, Option.bind_some, s5, Option.bind_some, gA_cr c0 (by decide) (show cr 1 c 1 = some (c + 2) from rfl), Option.bind_some, hJ, Option.bind_some, g13, Option.bind_some, a5, Option.bind_some, u2_same, upd_same, X_setv hcv hx, Option.bind_some, oN_succ, u2_ne (show cv + 3 ≠ cv + 5 by omega)]
    rfl
  · rw [if_neg hlt, if_neg hlt, pI_s (CV_k hcv) (by decide), Option.bind_some, oN_succ]
end EAC
