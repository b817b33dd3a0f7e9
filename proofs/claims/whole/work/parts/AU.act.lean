/-! ===== painting: the class's deeds ===== -/
/-- the class at deed o, in turn t -/
def pX (b cv c t o : Nat) (h : AH) : Option AH := f_X0_paint_133 (FU - t) (ad b cv) (ad b c) (Int32.ofNat o) (Int32.ofNat t) h
/-- the class's drawing at c -/
def CDr (E : Nat → Option KD) (c dl wc : Nat) (dd dv dt : RW) (I : Nat → Nat → Int32) : Prop := kdf E c = some (.inr (1, true)) ∧ kdf E (c + 1) = some (.inl (1, dl)) ∧ kdf E (c + 2) = some (.inl (3, dl)) ∧ kdf E (c + 3) = some (.inl (3, dl)) ∧ kdf E (c + 4) = some (.inl (4, wc)) ∧ I c 4 = Int32.ofNat dl ∧ I c 5 = Int32.ofNat wc ∧ I (c + 1) = dd ∧ I (c + 2) = dv ∧ I (c + 3) = dt ∧ 149 ≤ c ∧ dl < 360 ∧ wc ≤ 40
theorem CDr.fr {E : Nat → Option KD} {c dl wc : Nat} {dd dv dt : RW} {I J : Nat → Nat → Int32} (h : CDr E c dl wc dd dv dt I) (hJ : ∀ q, 149 ≤ q → J q = I q) : CDr E c dl wc dd dv dt J := by
  obtain ⟨a0, a1, a2, a3, a4, a5, a6, a7, a8, a9, aa, ab⟩ := h
  exact ⟨a0, a1, a2, a3, a4, by rw [hJ c aa]; exact a5, by rw [hJ c aa]; exact a6, by rw [hJ _ (by omega)]; exact a7, by rw [hJ _ (by omega)]; exact a8, by rw [hJ _ (by omega)]; exact a9, aa, ab⟩
/-- a pile laid -/
def hP (cv : Nat) (I : Nat → Nat → Int32) (row : RW) (n : Nat) : Nat → Nat → Int32 := u2 (u2 I (cv + 4) row) cv (upd (I cv) 12 (Int32.ofNat n))
theorem hP_cv {cv n : Nat} {I : Nat → Nat → Int32} {row : RW} : hP cv I row n cv = upd (I cv) 12 (Int32.ofNat n) := u2_same _ _ _
theorem hP_4 {cv n : Nat} {I : Nat → Nat → Int32} {row : RW} : hP cv I row n (cv + 4) = row := by unfold hP; rw [u2_ne (by omega), u2_same]
theorem hP_ne {cv n q : Nat} {I : Nat → Nat → Int32} {row : RW} (h1 : q ≠ cv) (h2 : q ≠ cv + 4) : hP cv I row n q = I q := by unfold hP; rw [u2_ne h1, u2_ne h2]
theorem hP_hP {cv n n' : Nat} {I : Nat → Nat → Int32} {row row' : RW} : hP cv (hP cv I row n) row' n' = hP cv I row' n' := by
  funext q
  by_cases h1 : q = cv
  · subst h1
    rw [hP_cv, hP_cv, hP_cv, upd_upd]
  · by_cases h2 : q = cv + 4
    · subst h2
      rw [hP_4, hP_4]
    · rw [hP_ne h1 h2, hP_ne h1 h2, hP_ne h1 h2]
theorem CV_r {cv : Nat} (h : CV cv) : cv + 7 ≤ 72 := by rcases h with rfl | rfl <;> omega
section ACT
variable {b : Nat} {F : Nat → Option AE} {D E : Nat → Option KD} {I : Nat → Nat → Int32} {L : Nat → Nat → Int64} {P : Nat → Nat → Option Nat} {nx us : Nat}
theorem pX_step {cv c dl wc t o o' : Nat} {dd dv dt : RW} {H : AH} (hcv : CV cv) (hc : CDr E c dl wc dd dv dt I) (ht : t < 1000000) (ho : o < dl) (h5 : I cv 5 = 0) (ha : f_X0_act (ad b cv) (ad b c) (Int32.ofNat o) (lay b F E I L P nx us) = some (Int32.ofNat o', H)) : pX b cv c t o (lay b F E I L P nx us) = pX b cv c (t + 1) o' H := by
  obtain ⟨a0, a1, a2, a3, a4, a5, a6, a7, a8, a9, aa, ab, ac⟩ := hc
  unfold pX
  rw [show FU - t = (FU - (t + 1)) + 1 by unfold FU; omega]
  generalize FU - (t + 1) = fu
  conv => lhs; unfold f_X0_paint_133
  rw [if_neg (fun q => by have := (oN_le (a := 1000000) (by omega) (by omega)).mp q; omega), gI_s (CV_k hcv) (by decide), Option.bind_some, h5, if_pos rfl, if_neg (fun q => by have := (oN_lt (c := 0) (by omega) (by omega)).mp q; omega), gI_lay a0 (by decide), Option.bind_some, a5, if_neg (fun q => by have := (oN_le (by omega) (by omega)).mp q; omega), ha, b2_p, oN_succ]
/-- what stands at deed o -/
theorem X_act {cv c dl wc o : Nat} {dd dv dt : RW} (hcv : CV cv) (hc : CDr E c dl wc dd dv dt I) (ho : o < dl) : f_X0_act (ad b cv) (ad b c) (Int32.ofNat o) (lay b F E I L P nx us) = (if dd o = 0 then (f_X0_come (ad b cv) (lay b F E I L P nx us)).bind fun h18 => some (Int32.ofNat (o + 1), h18) else if dd o = 1 then (f_X0_hold (ad b cv) (dv o) (lay b F E I L P nx us)).bind fun h19 => some (Int32.ofNat (o + 1), h19) else if dd o = 2 then (if dv o < 0 then (f_X0_hold (ad b cv) 0 (lay b F E I L P nx us)).bind fun h => some (Int32.ofNat (o + 1), h) else if 5 ≤ dv o then (f_X0_hold (ad b cv) 0 (lay b F E I L P nx us)).bind fun h => some (Int32.ofNat (o + 1), h) else ((iN (dv o) 5).map (I (cv + 3))).bind fun x23 => (f_X0_hold (ad b cv) x23 (lay b F E I L P nx us)).bind fun h => some (Int32.ofNat (o + 1), h)) else if dd o = 3 then (f_X0_hold (ad b cv) (I cv 1) (lay b F E I L P nx us)).bind fun h27 => some (Int32.ofNat (o + 1), h27) else if dd o = 4 then (f_X0_hold (ad b cv) (I cv 2) (lay b F E I L P nx us)).bind fun h29 => some (Int32.ofNat (o + 1), h29) else if dd o = 5 then (f_X0_reckon (ad b cv) (dv o) (lay b F E I L P nx us)).bind fun h30 => some (Int32.ofNat (o + 1), h30) else if dd o = 6 then (f_X0_rect (ad b cv) (dv o) (lay b F E I L P nx us)).bind fun h31 => some (Int32.ofNat (o + 1), h31) else if dd o = 7 then (f_X0_disc (ad b cv) (dv o) (lay b F E I L P nx us)).bind fun h32 => some (Int32.ofNat (o + 1), h32) else if dd o = 8 then (f_X0_say (ad b cv) (ad b c) (dv o) (dt o) (lay b F E I L P nx us)).bind fun h35 => some (Int32.ofNat (o + 1), h35) else if dd o = 9 then b2 (f_X0_beginEach (ad b cv) (ad b c) (Int32.ofNat o) (lay b F E I L P nx us)) fun x36 h37 => some (x36, h37) else if dd o = 10 then b2 (f_X0_goOn (ad b cv) (ad b c) (Int32.ofNat o) (lay b F E I L P nx us)) fun x38 h39 => some (x38, h39) else if dd o = 11 then b2 (f_X0_compare (ad b cv) (dv o) (lay b F E I L P nx us)) fun x40 h41 => if x40 = 0 then (gA 1 h41 (ad b c) 2).bind fun a42 => (aI 3 h41 a42 (Int32.ofNat o)).bind fun x43 => some (x43, h41) else some (Int32.ofNat o + 1, h41) else some (Int32.ofNat (o + 1), (lay b F E I L P nx us))) := by
  obtain ⟨a0, a1, a2, a3, a4, a5, a6, a7, a8, a9, aa, ab, ac⟩ := hc
  have eo : iN (Int32.ofNat o) dl = some o := iN_oN ho (by omega)
  have r1 : ((gA 1 (lay b F E I L P nx us) (ad b c) 1).bind fun a2 => aI 3 (lay b F E I L P nx us) a2 (Int32.ofNat o)) = some (dv o) := by
    rw [gA_cr a0 (by decide) (show cr 1 c 1 = some (c + 2) from rfl), Option.bind_some, aI_lay a2 (by decide), eo, a8]
    rfl
  have r0 : ((gA 1 (lay b F E I L P nx us) (ad b c) 0).bind fun a2 => aI 1 (lay b F E I L P nx us) a2 (Int32.ofNat o)) = some (dd o) := by
    rw [gA_cr a0 (by decide) (show cr 1 c 0 = some (c + 1) from rfl), Option.bind_some, aI_lay a1 (by decide), eo, a7]
    rfl
  have r2 : ((gA 1 (lay b F E I L P nx us) (ad b c) 2).bind fun a2 => aI 3 (lay b F E I L P nx us) a2 (Int32.ofNat o)) = some (dt o) := by
    rw [gA_cr a0 (by decide) (show cr 1 c 2 = some (c + 3) from rfl), Option.bind_some, aI_lay a3 (by decide), eo, a9]
    rfl
  rw [gA_cr a0 (by decide) (show cr 1 c 1 = some (c + 2) from rfl), Option.bind_some] at r1
  rw [gA_cr a0 (by decide) (show cr 1 c 0 = some (c + 1) from rfl), Option.bind_some] at r0
  rw [gA_cr a0 (by decide) (show cr 1 c 2 = some (c + 3) from rfl), Option.bind_some] at r2
  have g10 : gA 0 (lay b F E I L P nx us) (ad b cv) 10 = some (ad b (cv + 3)) := gA_cr (kdf_KT (CV_k hcv)) (by decide) (show cr 0 cv 10 = some (cv + 3) from rfl)
  have k3 : KT (cv + 3) = some (.inl (0, 5)) := by rcases hcv with rfl | rfl <;> decide
  unfold f_X0_act
  rw [if_pos (isO_s (CV_k hcv)), if_neg (fun q => by have := (oN_lt (c := 0) (by omega) (by omega)).mp q; omega), gI_lay a0 (by decide), Option.bind_some, a5, if_pos ((oN_lt (by omega) (by omega)).mpr ho), gA_cr a0 (by decide) (show cr 1 c 1 = some (c + 2) from rfl), Option.bind_some, r1, Option.bind_some, gA_cr a0 (by decide) (show cr 1 c 0 = some (c + 1) from rfl), Option.bind_some, r0, Option.bind_some, g10, Option.bind_some, Option.bind_some, aN_lay (kdf_KT k3), Option.bind_some, aI_lay (kdf_KT k3) (by decide), gI_s (CV_k hcv) (by decide), gI_s (CV_k hcv) (by decide), Option.bind_some, Option.bind_some, gA_cr a0 (by decide) (show cr 1 c 2 = some (c + 3) from rfl), Option.bind_some, r2, Option.bind_some]
  unfold f_X0_act_229 f_X0_act_126 f_X0_act_127 f_X0_act_228 f_X0_act_229
  rw [oN_succ]
  rfl
end ACT
