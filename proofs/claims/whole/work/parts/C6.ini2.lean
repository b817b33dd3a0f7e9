/-! ===== the reference's constructor ===== -/
section INJ
variable {b : Nat} {F : Nat → Option AE} {I : Nat → Nat → Int32} {m : List (Nat × Nat × Nat)} {n n' us us' : Nat} {α : Type} {z : ZX}
theorem hS_self {h : AH} {a : Nat} {e : AE} (hM' : hM h a = some e) : hS h a e = h := by
  obtain ⟨h1, h2, h3, f⟩ := h
  unfold hS
  refine congrArg (fun g => ((h1, h2, h3, g) : AH)) (funext fun q => ?_)
  by_cases hq : q = a
  · subst hq
    rw [if_pos rfl]
    exact hM'.symm
  · rw [if_neg hq]
theorem pQ_hS {h : AH} {a k ci : Nat} {f : Nat → Value} {x : Option Nat} (hb : h.1 ≤ a) : pQ ci (hS h a (.inr (ci, f))) a k x = some (hS h a (.inr (ci, updV f k (va_rf x)))) := by
  have e : hM (hS h a (.inr (ci, f))) a = some (.inr (ci, f)) := if_pos rfl
  have e1 : (hS h a (.inr (ci, f))).1 = h.1 := rfl
  unfold pQ pV
  rw [e]
  simp only [e1, hb, and_self, if_true]
  congr 1
  unfold hS
  refine congrArg (fun g => ((h.1, h.2.1, h.2.2.1, g) : AH)) (funext fun q => ?_)
  by_cases hq : q = a
  · rw [if_pos hq, if_pos hq]
  · simp only [hq, if_false]
theorem z_X14 (hP : plk m 90 = fun _ => none) (hI : I 90 = fun _ => 0) : f_X14_init z (ad b 90) (Sz b F 92 I m us) = some (Sz b F 92 I m us) := by
  have e0 : hM (Sz b F 92 I m us) (ad b 90) = some (.inr (14, dv 14)) := by
    unfold Sz
    rw [hM_lay]
    unfold cA
    rw [show Dn 92 90 = some (.inr (14, false)) from rfl, hP, hI]
    refine congrArg (fun f => (some (.inr (14, f)) : Option AE)) (funext fun k => ?_)
    unfold dv
    simp only [Bool.false_eq_true, if_false, Option.map_none]
    rfl
  have hb : (Sz b F 92 I m us).1 ≤ ad b 90 := by show b ≤ ad b 90; unfold ad; omega
  have e1 := hS_self e0
  generalize Sz b F 92 I m us = h at e0 e1 hb ⊢
  have fin : ∀ x0 x1 x2 : Value, hS h (ad b 90) (.inr (14, updV (updV (updV (updV (updV (updV (updV (dv 14) 0 x0) 1 x1) 2 x2) 1 (va_rf none)) 3 (va_rf none)) 0 (va_rf none)) 2 (va_rf none))) = h := by
    intro x0 x1 x2
    have e : updV (updV (updV (updV (updV (updV (updV (dv 14) 0 x0) 1 x1) 2 x2) 1 (va_rf none)) 3 (va_rf none)) 0 (va_rf none)) 2 (va_rf none) = dv 14 := by
      funext k
      unfold updV
      by_cases k2 : k = 2
      · subst k2; rfl
      rw [if_neg k2]
      by_cases k0 : k = 0
      · subst k0; rfl
      rw [if_neg k0]
      by_cases k3 : k = 3
      · subst k3; rfl
      rw [if_neg k3]
      by_cases k1 : k = 1
      · subst k1; rfl
      rw [if_neg k1, if_neg k2, if_neg k1, if_neg k0]
    rw [e]
    exact e1
  conv => lhs; rw [← e1]
  unfold f_X14_init f_E1 f_E2 f_E3
  cases h1 : z.2.2 1 <;> cases h2 : z.2.2 2 <;>
  simp only [tr, pQ_hS hb, Option.bind_some, if_true, f_E3_41, f_E3_60, fin]
theorem z_l614 (hn : n = 149) (hy : plk m 72 51 = some 110) : ∀ (q i : Nat), i + q = 192 → ∀ (I : Nat → Nat → Int32) (fu : Nat), q < fu → f_X15_init_614 z fu (ad b 72) (Int32.ofNat i) (Sz b F n I m us) = some (Sz b F n (u2 I 110 (fun k => if i ≤ k ∧ k < 192 then (-1) else I 110 k)) m us) := by
  intro q
  induction q with
  | zero =>
    intro i hi I fu hfu
    obtain ⟨fu, rfl⟩ : ∃ z, fu = z + 1 := ⟨fu - 1, by omega⟩
    have : i = 192 := by omega
    subst this
    have e : (fun k => if 192 ≤ k ∧ k < 192 then (-1) else I 110 k) = I 110 := by funext k; rw [if_neg (by omega)]
    rw [e, u2_id, f_X15_init_614, if_pos (by decide)]
  | succ q ih =>
    intro i hi I fu hfu
    obtain ⟨fu, rfl⟩ : ∃ z, fu = z + 1 := ⟨fu - 1, by omega⟩
    have e1 : ((192 : Int32) ≤ Int32.ofNat i) = False := oN_leF (show i < 192 by omega) (by decide)
    have e3 : iN (Int32.ofNat i) 192 = some i := iN_oN (by omega) (by omega)
    rw [f_X15_init_614, if_neg (by rw [e1]; exact id), zG (ci := 15) (c := 72) (f := 51) (y := 110) (by rw [hn]; decide) rfl rfl hy]
    unfold Sz
    rw [sI_lay (t := 0) (n := 192) ((Dn_at (by rw [hn]; decide)).trans rfl) (by decide), e3, Option.map_some, Option.bind_some, oN_succ]
    have := ih (i + 1) (by omega) (u2 I 110 (upd (I 110) i (aW 0 (-1)))) fu (by omega)
    unfold Sz at this
    rw [this, u2_u2, u2_same]
    congr 3
    funext k
    by_cases hz : k = i
    · subst hz; rw [if_neg (by omega), if_pos (by omega), upd_same]; rfl
    · rw [upd_ne hz]
      by_cases hk : i + 1 ≤ k ∧ k < 192
      · rw [if_pos hk, if_pos (by omega)]
      · rw [if_neg hk, if_neg (by omega)]
theorem z_l591 (hn : n = 149) (hy : plk m 72 89 = some 133) : ∀ (q i : Nat), i + q = 3650 → ∀ (I : Nat → Nat → Int32) (fu : Nat), q < fu → f_X15_init_591 z fu (ad b 72) (Int32.ofNat i) (Sz b F n I m us) = f_X15_init_614 z FU (ad b 72) 0 (Sz b F n (u2 I 133 (fun k => if i ≤ k ∧ k < 3650 then 1000000 else I 133 k)) m us) := by
  intro q
  induction q with
  | zero =>
    intro i hi I fu hfu
    obtain ⟨fu, rfl⟩ : ∃ z, fu = z + 1 := ⟨fu - 1, by omega⟩
    have : i = 3650 := by omega
    subst this
    have e : (fun k => if 3650 ≤ k ∧ k < 3650 then 1000000 else I 133 k) = I 133 := by funext k; rw [if_neg (by omega)]
    rw [e, u2_id, f_X15_init_591, if_pos (by decide)]
  | succ q ih =>
    intro i hi I fu hfu
    obtain ⟨fu, rfl⟩ : ∃ z, fu = z + 1 := ⟨fu - 1, by omega⟩
    have e1 : ((3650 : Int32) ≤ Int32.ofNat i) = False := oN_leF (show i < 3650 by omega) (by decide)
    have e3 : iN (Int32.ofNat i) 3650 = some i := iN_oN (by omega) (by omega)
    rw [f_X15_init_591, if_neg (by rw [e1]; exact id), zG (ci := 15) (c := 72) (f := 89) (y := 133) (by rw [hn]; decide) rfl rfl hy]
    unfold Sz
    rw [sI_lay (t := 0) (n := 3650) ((Dn_at (by rw [hn]; decide)).trans rfl) (by decide), e3, Option.map_some, Option.bind_some, oN_succ]
    have := ih (i + 1) (by omega) (u2 I 133 (upd (I 133) i (aW 0 1000000))) fu (by omega)
    unfold Sz at this
    rw [this, u2_u2, u2_same]
    congr 3
    funext k
    by_cases hz : k = i
    · subst hz; rw [if_neg (by omega), if_pos (by omega), upd_same]; rfl
    · rw [upd_ne hz]
      by_cases hk : i + 1 ≤ k ∧ k < 3650
      · rw [if_pos hk, if_pos (by omega)]
      · rw [if_neg hk, if_neg (by omega)]
theorem z_l568 (hn : n = 149) (hy : plk m 72 22 = some 89) : ∀ (q i : Nat), i + q = 256 → ∀ (I : Nat → Nat → Int32) (fu : Nat), q < fu → f_X15_init_568 z fu (ad b 72) (Int32.ofNat i) (Sz b F n I m us) = f_X15_init_591 z FU (ad b 72) 0 (Sz b F n (u2 I 89 (fun k => if i ≤ k ∧ k < 256 then 60 else I 89 k)) m us) := by
  intro q
  induction q with
  | zero =>
    intro i hi I fu hfu
    obtain ⟨fu, rfl⟩ : ∃ z, fu = z + 1 := ⟨fu - 1, by omega⟩
    have : i = 256 := by omega
    subst this
    have e : (fun k => if 256 ≤ k ∧ k < 256 then 60 else I 89 k) = I 89 := by funext k; rw [if_neg (by omega)]
    rw [e, u2_id, f_X15_init_568, if_pos (by decide)]
  | succ q ih =>
    intro i hi I fu hfu
    obtain ⟨fu, rfl⟩ : ∃ z, fu = z + 1 := ⟨fu - 1, by omega⟩
    have e1 : ((256 : Int32) ≤ Int32.ofNat i) = False := oN_leF (show i < 256 by omega) (by decide)
    have e3 : iN (Int32.ofNat i) 256 = some i := iN_oN (by omega) (by omega)
    rw [f_X15_init_568, if_neg (by rw [e1]; exact id), zG (ci := 15) (c := 72) (f := 22) (y := 89) (by rw [hn]; decide) rfl rfl hy]
    unfold Sz
    rw [sI_lay (t := 0) (n := 256) ((Dn_at (by rw [hn]; decide)).trans rfl) (by decide), e3, Option.map_some, Option.bind_some, oN_succ]
    have := ih (i + 1) (by omega) (u2 I 89 (upd (I 89) i (aW 0 60))) fu (by omega)
    unfold Sz at this
    rw [this, u2_u2, u2_same]
    congr 3
    funext k
    by_cases hz : k = i
    · subst hz; rw [if_neg (by omega), if_pos (by omega), upd_same]; rfl
    · rw [upd_ne hz]
      by_cases hk : i + 1 ≤ k ∧ k < 256
      · rw [if_pos hk, if_pos (by omega)]
      · rw [if_neg hk, if_neg (by omega)]
theorem z_l546 (hn : n = 149) (hy : plk m 72 19 = some 86) : ∀ (q i : Nat), i + q = 3072 → ∀ (I : Nat → Nat → Int32) (fu : Nat), q < fu → f_X15_init_546 z fu (ad b 72) (Int32.ofNat i) (Sz b F n I m us) = f_X15_init_568 z FU (ad b 72) 0 (Sz b F n (u2 I 86 (fun k => if i ≤ k ∧ k < 3072 then (-1) else I 86 k)) m us) := by
  intro q
  induction q with
  | zero =>
    intro i hi I fu hfu
    obtain ⟨fu, rfl⟩ : ∃ z, fu = z + 1 := ⟨fu - 1, by omega⟩
    have : i = 3072 := by omega
    subst this
    have e : (fun k => if 3072 ≤ k ∧ k < 3072 then (-1) else I 86 k) = I 86 := by funext k; rw [if_neg (by omega)]
    rw [e, u2_id, f_X15_init_546, if_pos (by decide)]
  | succ q ih =>
    intro i hi I fu hfu
    obtain ⟨fu, rfl⟩ : ∃ z, fu = z + 1 := ⟨fu - 1, by omega⟩
    have e1 : ((3072 : Int32) ≤ Int32.ofNat i) = False := oN_leF (show i < 3072 by omega) (by decide)
    have e3 : iN (Int32.ofNat i) 3072 = some i := iN_oN (by omega) (by omega)
    rw [f_X15_init_546, if_neg (by rw [e1]; exact id), zG (ci := 15) (c := 72) (f := 19) (y := 86) (by rw [hn]; decide) rfl rfl hy]
    unfold Sz
    rw [sI_lay (t := 0) (n := 3072) ((Dn_at (by rw [hn]; decide)).trans rfl) (by decide), e3, Option.map_some, Option.bind_some, oN_succ]
    have := ih (i + 1) (by omega) (u2 I 86 (upd (I 86) i (aW 0 (-1)))) fu (by omega)
    unfold Sz at this
    rw [this, u2_u2, u2_same]
    congr 3
    funext k
    by_cases hz : k = i
    · subst hz; rw [if_neg (by omega), if_pos (by omega), upd_same]; rfl
    · rw [upd_ne hz]
      by_cases hk : i + 1 ≤ k ∧ k < 3072
      · rw [if_pos hk, if_pos (by omega)]
      · rw [if_neg hk, if_neg (by omega)]
set_option maxHeartbeats 4000000 in
theorem z_i93 (hu : us + 1400 ≤ 7293034) (hm : Bl m 95) (hI : IZ I 95) : f_X12_init (ad b 93) (Sz b F 95 I m us) = some (Sz b F 106 I ((93, 12, 104) :: (93, 11, 103) :: (93, 10, 102) :: (93, 9, 101) :: (93, 8, 100) :: (93, 7, 99) :: (93, 6, 98) :: (93, 5, 97) :: (93, 4, 96) :: (93, 3, 95) :: (93, 2, 94) :: m) (us + 1400)) := by
  unfold f_X12_init
  have hm1 := Bl_c (c := 93) (f := 2) (y := 94) (Bl_s hm (show 95 ≤ 96 by decide)) (by decide)
  have hI2 := IZ_s hI (show 95 ≤ 96 by decide)
  rw [zA (e := 94) (x := 40) (n := 95) (n' := 96) (us := us) (us' := us + 40) (k := 40) (t := 0) (ci := 12) (c := 93) (f := 2) rfl rfl (by decide) (by decide) rfl (by decide) rfl rfl rfl (by decide) (by omega) (by omega) hm hI]
  have hm3 := Bl_c (c := 93) (f := 3) (y := 95) (Bl_s hm1 (show 96 ≤ 97 by decide)) (by decide)
  have hI4 := IZ_s hI2 (show 96 ≤ 97 by decide)
  rw [zA (e := 95) (x := 40) (n := 96) (n' := 97) (us := us + 40) (us' := us + 80) (k := 40) (t := 0) (ci := 12) (c := 93) (f := 3) rfl rfl (by decide) (by decide) rfl (by decide) rfl rfl rfl (by decide) (by omega) (by omega) hm1 hI2]
  have hm5 := Bl_c (c := 93) (f := 4) (y := 96) (Bl_s hm3 (show 97 ≤ 98 by decide)) (by decide)
  have hI6 := IZ_s hI4 (show 97 ≤ 98 by decide)
  rw [zA (e := 96) (x := 40) (n := 97) (n' := 98) (us := us + 80) (us' := us + 120) (k := 40) (t := 0) (ci := 12) (c := 93) (f := 4) rfl rfl (by decide) (by decide) rfl (by decide) rfl rfl rfl (by decide) (by omega) (by omega) hm3 hI4]
  have hm7 := Bl_c (c := 93) (f := 5) (y := 97) (Bl_s hm5 (show 98 ≤ 99 by decide)) (by decide)
  have hI8 := IZ_s hI6 (show 98 ≤ 99 by decide)
  rw [zA (e := 97) (x := 40) (n := 98) (n' := 99) (us := us + 120) (us' := us + 160) (k := 40) (t := 0) (ci := 12) (c := 93) (f := 5) rfl rfl (by decide) (by decide) rfl (by decide) rfl rfl rfl (by decide) (by omega) (by omega) hm5 hI6]
  have hm9 := Bl_c (c := 93) (f := 6) (y := 98) (Bl_s hm7 (show 99 ≤ 100 by decide)) (by decide)
  have hI10 := IZ_s hI8 (show 99 ≤ 100 by decide)
  rw [zA (e := 98) (x := 40) (n := 99) (n' := 100) (us := us + 160) (us' := us + 200) (k := 40) (t := 0) (ci := 12) (c := 93) (f := 6) rfl rfl (by decide) (by decide) rfl (by decide) rfl rfl rfl (by decide) (by omega) (by omega) hm7 hI8]
  have hm11 := Bl_c (c := 93) (f := 7) (y := 99) (Bl_s hm9 (show 100 ≤ 101 by decide)) (by decide)
  have hI12 := IZ_s hI10 (show 100 ≤ 101 by decide)
  rw [zA (e := 99) (x := 40) (n := 100) (n' := 101) (us := us + 200) (us' := us + 240) (k := 40) (t := 0) (ci := 12) (c := 93) (f := 7) rfl rfl (by decide) (by decide) rfl (by decide) rfl rfl rfl (by decide) (by omega) (by omega) hm9 hI10]
  have hm13 := Bl_c (c := 93) (f := 8) (y := 100) (Bl_s hm11 (show 101 ≤ 102 by decide)) (by decide)
  have hI14 := IZ_s hI12 (show 101 ≤ 102 by decide)
  rw [zA (e := 100) (x := 160) (n := 101) (n' := 102) (us := us + 240) (us' := us + 400) (k := 160) (t := 0) (ci := 12) (c := 93) (f := 8) rfl rfl (by decide) (by decide) rfl (by decide) rfl rfl rfl (by decide) (by omega) (by omega) hm11 hI12]
  have hm15 := Bl_c (c := 93) (f := 9) (y := 101) (Bl_s hm13 (show 102 ≤ 103 by decide)) (by decide)
  have hI16 := IZ_s hI14 (show 102 ≤ 103 by decide)
  rw [zA (e := 101) (x := 160) (n := 102) (n' := 103) (us := us + 400) (us' := us + 560) (k := 160) (t := 0) (ci := 12) (c := 93) (f := 9) rfl rfl (by decide) (by decide) rfl (by decide) rfl rfl rfl (by decide) (by omega) (by omega) hm13 hI14]
  have hm17 := Bl_c (c := 93) (f := 10) (y := 102) (Bl_s hm15 (show 103 ≤ 104 by decide)) (by decide)
  have hI18 := IZ_s hI16 (show 103 ≤ 104 by decide)
  rw [zA (e := 102) (x := 400) (n := 103) (n' := 104) (us := us + 560) (us' := us + 960) (k := 400) (t := 0) (ci := 12) (c := 93) (f := 10) rfl rfl (by decide) (by decide) rfl (by decide) rfl rfl rfl (by decide) (by omega) (by omega) hm15 hI16]
  have hm19 := Bl_c (c := 93) (f := 11) (y := 103) (Bl_s hm17 (show 104 ≤ 105 by decide)) (by decide)
  have hI20 := IZ_s hI18 (show 104 ≤ 105 by decide)
  rw [zA (e := 103) (x := 400) (n := 104) (n' := 105) (us := us + 960) (us' := us + 1360) (k := 400) (t := 0) (ci := 12) (c := 93) (f := 11) rfl rfl (by decide) (by decide) rfl (by decide) rfl rfl rfl (by decide) (by omega) (by omega) hm17 hI18]
  have hm21 := Bl_c (c := 93) (f := 12) (y := 104) (Bl_s hm19 (show 105 ≤ 106 by decide)) (by decide)
  have hI22 := IZ_s hI20 (show 105 ≤ 106 by decide)
  rw [zA (e := 104) (x := 40) (n := 105) (n' := 106) (us := us + 1360) (us' := us + 1400) (k := 40) (t := 4) (ci := 12) (c := 93) (f := 12) rfl rfl (by decide) (by decide) rfl (by decide) rfl rfl rfl (by decide) (by omega) (by omega) hm19 hI20]
  all_goals rfl
set_option maxHeartbeats 4000000 in
theorem z_i145 (hu : us + 16 ≤ 7293034) (hm : Bl m 147) (hI : IZ I 147) : f_X13_init (ad b 145) (Sz b F 147 I m us) = some (Sz b F 149 I ((145, 2, 147) :: (145, 1, 146) :: m) (us + 16)) := by
  unfold f_X13_init
  have hm1 := Bl_c (c := 145) (f := 1) (y := 146) (Bl_s hm (show 147 ≤ 148 by decide)) (by decide)
  have hI2 := IZ_s hI (show 147 ≤ 148 by decide)
  rw [zA (e := 146) (x := 8) (n := 147) (n' := 148) (us := us) (us' := us + 8) (k := 8) (t := 0) (ci := 13) (c := 145) (f := 1) rfl rfl (by decide) (by decide) rfl (by decide) rfl rfl rfl (by decide) (by omega) (by omega) hm hI]
  have hm3 := Bl_c (c := 145) (f := 2) (y := 147) (Bl_s hm1 (show 148 ≤ 149 by decide)) (by decide)
  have hI4 := IZ_s hI2 (show 148 ≤ 149 by decide)
  rw [zA (e := 147) (x := 8) (n := 148) (n' := 149) (us := us + 8) (us' := us + 16) (k := 8) (t := 0) (ci := 13) (c := 145) (f := 2) rfl rfl (by decide) (by decide) rfl (by decide) rfl rfl rfl (by decide) (by omega) (by omega) hm1 hI2]
  all_goals rfl
set_option maxHeartbeats 4000000 in
theorem z_i72 (hu : us + 37558 ≤ 7293034) (hm : Bl m 74) (hI : IZ I 74) : f_X15_init z (ad b 72) (Sz b F 74 I m us) = some (Sz b F 149 (u2 (u2 (u2 (u2 (u2 (u2 (u2 I 72 (upd (I 72) 2 (-1))) 72 (upd ((u2 I 72 (upd (I 72) 2 (-1))) 72) 78 2)) 72 (upd ((u2 (u2 I 72 (upd (I 72) 2 (-1))) 72 (upd ((u2 I 72 (upd (I 72) 2 (-1))) 72) 78 2)) 72) 102 (-1))) 86 (fun k => if 0 ≤ k ∧ k < 3072 then (-1) else (u2 (u2 (u2 I 72 (upd (I 72) 2 (-1))) 72 (upd ((u2 I 72 (upd (I 72) 2 (-1))) 72) 78 2)) 72 (upd ((u2 (u2 I 72 (upd (I 72) 2 (-1))) 72 (upd ((u2 I 72 (upd (I 72) 2 (-1))) 72) 78 2)) 72) 102 (-1))) 86 k)) 89 (fun k => if 0 ≤ k ∧ k < 256 then 60 else (u2 (u2 (u2 (u2 I 72 (upd (I 72) 2 (-1))) 72 (upd ((u2 I 72 (upd (I 72) 2 (-1))) 72) 78 2)) 72 (upd ((u2 (u2 I 72 (upd (I 72) 2 (-1))) 72 (upd ((u2 I 72 (upd (I 72) 2 (-1))) 72) 78 2)) 72) 102 (-1))) 86 (fun k => if 0 ≤ k ∧ k < 3072 then (-1) else (u2 (u2 (u2 I 72 (upd (I 72) 2 (-1))) 72 (upd ((u2 I 72 (upd (I 72) 2 (-1))) 72) 78 2)) 72 (upd ((u2 (u2 I 72 (upd (I 72) 2 (-1))) 72 (upd ((u2 I 72 (upd (I 72) 2 (-1))) 72) 78 2)) 72) 102 (-1))) 86 k)) 89 k)) 133 (fun k => if 0 ≤ k ∧ k < 3650 then 1000000 else (u2 (u2 (u2 (u2 (u2 I 72 (upd (I 72) 2 (-1))) 72 (upd ((u2 I 72 (upd (I 72) 2 (-1))) 72) 78 2)) 72 (upd ((u2 (u2 I 72 (upd (I 72) 2 (-1))) 72 (upd ((u2 I 72 (upd (I 72) 2 (-1))) 72) 78 2)) 72) 102 (-1))) 86 (fun k => if 0 ≤ k ∧ k < 3072 then (-1) else (u2 (u2 (u2 I 72 (upd (I 72) 2 (-1))) 72 (upd ((u2 I 72 (upd (I 72) 2 (-1))) 72) 78 2)) 72 (upd ((u2 (u2 I 72 (upd (I 72) 2 (-1))) 72 (upd ((u2 I 72 (upd (I 72) 2 (-1))) 72) 78 2)) 72) 102 (-1))) 86 k)) 89 (fun k => if 0 ≤ k ∧ k < 256 then 60 else (u2 (u2 (u2 (u2 I 72 (upd (I 72) 2 (-1))) 72 (upd ((u2 I 72 (upd (I 72) 2 (-1))) 72) 78 2)) 72 (upd ((u2 (u2 I 72 (upd (I 72) 2 (-1))) 72 (upd ((u2 I 72 (upd (I 72) 2 (-1))) 72) 78 2)) 72) 102 (-1))) 86 (fun k => if 0 ≤ k ∧ k < 3072 then (-1) else (u2 (u2 (u2 I 72 (upd (I 72) 2 (-1))) 72 (upd ((u2 I 72 (upd (I 72) 2 (-1))) 72) 78 2)) 72 (upd ((u2 (u2 I 72 (upd (I 72) 2 (-1))) 72 (upd ((u2 I 72 (upd (I 72) 2 (-1))) 72) 78 2)) 72) 102 (-1))) 86 k)) 89 k)) 133 k)) 110 (fun k => if 0 ≤ k ∧ k < 192 then (-1) else (u2 (u2 (u2 (u2 (u2 (u2 I 72 (upd (I 72) 2 (-1))) 72 (upd ((u2 I 72 (upd (I 72) 2 (-1))) 72) 78 2)) 72 (upd ((u2 (u2 I 72 (upd (I 72) 2 (-1))) 72 (upd ((u2 I 72 (upd (I 72) 2 (-1))) 72) 78 2)) 72) 102 (-1))) 86 (fun k => if 0 ≤ k ∧ k < 3072 then (-1) else (u2 (u2 (u2 I 72 (upd (I 72) 2 (-1))) 72 (upd ((u2 I 72 (upd (I 72) 2 (-1))) 72) 78 2)) 72 (upd ((u2 (u2 I 72 (upd (I 72) 2 (-1))) 72 (upd ((u2 I 72 (upd (I 72) 2 (-1))) 72) 78 2)) 72) 102 (-1))) 86 k)) 89 (fun k => if 0 ≤ k ∧ k < 256 then 60 else (u2 (u2 (u2 (u2 I 72 (upd (I 72) 2 (-1))) 72 (upd ((u2 I 72 (upd (I 72) 2 (-1))) 72) 78 2)) 72 (upd ((u2 (u2 I 72 (upd (I 72) 2 (-1))) 72 (upd ((u2 I 72 (upd (I 72) 2 (-1))) 72) 78 2)) 72) 102 (-1))) 86 (fun k => if 0 ≤ k ∧ k < 3072 then (-1) else (u2 (u2 (u2 I 72 (upd (I 72) 2 (-1))) 72 (upd ((u2 I 72 (upd (I 72) 2 (-1))) 72) 78 2)) 72 (upd ((u2 (u2 I 72 (upd (I 72) 2 (-1))) 72 (upd ((u2 I 72 (upd (I 72) 2 (-1))) 72) 78 2)) 72) 102 (-1))) 86 k)) 89 k)) 133 (fun k => if 0 ≤ k ∧ k < 3650 then 1000000 else (u2 (u2 (u2 (u2 (u2 I 72 (upd (I 72) 2 (-1))) 72 (upd ((u2 I 72 (upd (I 72) 2 (-1))) 72) 78 2)) 72 (upd ((u2 (u2 I 72 (upd (I 72) 2 (-1))) 72 (upd ((u2 I 72 (upd (I 72) 2 (-1))) 72) 78 2)) 72) 102 (-1))) 86 (fun k => if 0 ≤ k ∧ k < 3072 then (-1) else (u2 (u2 (u2 I 72 (upd (I 72) 2 (-1))) 72 (upd ((u2 I 72 (upd (I 72) 2 (-1))) 72) 78 2)) 72 (upd ((u2 (u2 I 72 (upd (I 72) 2 (-1))) 72 (upd ((u2 I 72 (upd (I 72) 2 (-1))) 72) 78 2)) 72) 102 (-1))) 86 k)) 89 (fun k => if 0 ≤ k ∧ k < 256 then 60 else (u2 (u2 (u2 (u2 I 72 (upd (I 72) 2 (-1))) 72 (upd ((u2 I 72 (upd (I 72) 2 (-1))) 72) 78 2)) 72 (upd ((u2 (u2 I 72 (upd (I 72) 2 (-1))) 72 (upd ((u2 I 72 (upd (I 72) 2 (-1))) 72) 78 2)) 72) 102 (-1))) 86 (fun k => if 0 ≤ k ∧ k < 3072 then (-1) else (u2 (u2 (u2 I 72 (upd (I 72) 2 (-1))) 72 (upd ((u2 I 72 (upd (I 72) 2 (-1))) 72) 78 2)) 72 (upd ((u2 (u2 I 72 (upd (I 72) 2 (-1))) 72 (upd ((u2 I 72 (upd (I 72) 2 (-1))) 72) 78 2)) 72) 102 (-1))) 86 k)) 89 k)) 133 k)) 110 k)) ((72, 105, 145) :: (145, 2, 147) :: (145, 1, 146) :: (72, 104, 144) :: (72, 100, 143) :: (72, 99, 142) :: (72, 98, 141) :: (72, 97, 140) :: (72, 96, 139) :: (72, 94, 138) :: (72, 93, 137) :: (72, 92, 136) :: (72, 91, 135) :: (72, 90, 134) :: (72, 89, 133) :: (72, 88, 132) :: (72, 87, 131) :: (72, 86, 130) :: (72, 85, 129) :: (72, 84, 128) :: (72, 83, 127) :: (72, 82, 126) :: (72, 81, 125) :: (72, 80, 124) :: (72, 79, 123) :: (72, 71, 122) :: (72, 70, 121) :: (72, 69, 120) :: (72, 68, 119) :: (72, 67, 118) :: (72, 66, 117) :: (72, 65, 116) :: (72, 64, 115) :: (72, 63, 114) :: (72, 62, 113) :: (72, 61, 112) :: (72, 60, 111) :: (72, 51, 110) :: (72, 46, 109) :: (72, 45, 108) :: (72, 44, 107) :: (72, 43, 106) :: (72, 42, 105) :: (72, 40, 93) :: (93, 12, 104) :: (93, 11, 103) :: (93, 10, 102) :: (93, 9, 101) :: (93, 8, 100) :: (93, 7, 99) :: (93, 6, 98) :: (93, 5, 97) :: (93, 4, 96) :: (93, 3, 95) :: (93, 2, 94) :: (72, 39, 92) :: (72, 24, 91) :: (72, 23, 90) :: (72, 22, 89) :: (72, 21, 88) :: (72, 20, 87) :: (72, 19, 86) :: (72, 18, 85) :: (72, 17, 84) :: (72, 16, 83) :: (72, 15, 82) :: (72, 14, 81) :: (72, 13, 80) :: (72, 12, 79) :: (72, 11, 78) :: (72, 10, 77) :: (72, 9, 76) :: (72, 8, 75) :: (72, 7, 74) :: (72, 6, 73) :: m) (us + 37558)) := by
  unfold f_X15_init
  have hI1 := IZ_u (c := 72) (f := upd (I 72) 2 (-1)) hI (by decide)
  rw [zI (n := 74) (ci := 15) (c := 72) (f := 2) (by decide) rfl rfl]
  have hm2 := Bl_c (c := 72) (f := 6) (y := 73) (Bl_s hm (show 74 ≤ 75 by decide)) (by decide)
  have hI3 := IZ_s hI1 (show 74 ≤ 75 by decide)
  rw [zA (e := 73) (x := 16) (n := 74) (n' := 75) (us := us) (us' := us + 16) (k := 16) (t := 0) (ci := 15) (c := 72) (f := 6) rfl rfl (by decide) (by decide) rfl (by decide) rfl rfl rfl (by decide) (by omega) (by omega) hm hI1]
  have hm4 := Bl_c (c := 72) (f := 7) (y := 74) (Bl_s hm2 (show 75 ≤ 76 by decide)) (by decide)
  have hI5 := IZ_s hI3 (show 75 ≤ 76 by decide)
  rw [zA (e := 74) (x := 16) (n := 75) (n' := 76) (us := us + 16) (us' := us + 32) (k := 16) (t := 0) (ci := 15) (c := 72) (f := 7) rfl rfl (by decide) (by decide) rfl (by decide) rfl rfl rfl (by decide) (by omega) (by omega) hm2 hI3]
  have hm6 := Bl_c (c := 72) (f := 8) (y := 75) (Bl_s hm4 (show 76 ≤ 77 by decide)) (by decide)
  have hI7 := IZ_s hI5 (show 76 ≤ 77 by decide)
  rw [zA (e := 75) (x := 16) (n := 76) (n' := 77) (us := us + 32) (us' := us + 48) (k := 16) (t := 0) (ci := 15) (c := 72) (f := 8) rfl rfl (by decide) (by decide) rfl (by decide) rfl rfl rfl (by decide) (by omega) (by omega) hm4 hI5]
  have hm8 := Bl_c (c := 72) (f := 9) (y := 76) (Bl_s hm6 (show 77 ≤ 78 by decide)) (by decide)
  have hI9 := IZ_s hI7 (show 77 ≤ 78 by decide)
  rw [zA (e := 76) (x := 16) (n := 77) (n' := 78) (us := us + 48) (us' := us + 64) (k := 16) (t := 0) (ci := 15) (c := 72) (f := 9) rfl rfl (by decide) (by decide) rfl (by decide) rfl rfl rfl (by decide) (by omega) (by omega) hm6 hI7]
  have hm10 := Bl_c (c := 72) (f := 10) (y := 77) (Bl_s hm8 (show 78 ≤ 79 by decide)) (by decide)
  have hI11 := IZ_s hI9 (show 78 ≤ 79 by decide)
  rw [zA (e := 77) (x := 16) (n := 78) (n' := 79) (us := us + 64) (us' := us + 80) (k := 16) (t := 0) (ci := 15) (c := 72) (f := 10) rfl rfl (by decide) (by decide) rfl (by decide) rfl rfl rfl (by decide) (by omega) (by omega) hm8 hI9]
  have hm12 := Bl_c (c := 72) (f := 11) (y := 78) (Bl_s hm10 (show 79 ≤ 80 by decide)) (by decide)
  have hI13 := IZ_s hI11 (show 79 ≤ 80 by decide)
  rw [zA (e := 78) (x := 16) (n := 79) (n' := 80) (us := us + 80) (us' := us + 96) (k := 16) (t := 0) (ci := 15) (c := 72) (f := 11) rfl rfl (by decide) (by decide) rfl (by decide) rfl rfl rfl (by decide) (by omega) (by omega) hm10 hI11]
  have hm14 := Bl_c (c := 72) (f := 12) (y := 79) (Bl_s hm12 (show 80 ≤ 81 by decide)) (by decide)
  have hI15 := IZ_s hI13 (show 80 ≤ 81 by decide)
  rw [zA (e := 79) (x := 16) (n := 80) (n' := 81) (us := us + 96) (us' := us + 112) (k := 16) (t := 0) (ci := 15) (c := 72) (f := 12) rfl rfl (by decide) (by decide) rfl (by decide) rfl rfl rfl (by decide) (by omega) (by omega) hm12 hI13]
  have hm16 := Bl_c (c := 72) (f := 13) (y := 80) (Bl_s hm14 (show 81 ≤ 82 by decide)) (by decide)
  have hI17 := IZ_s hI15 (show 81 ≤ 82 by decide)
  rw [zA (e := 80) (x := 16) (n := 81) (n' := 82) (us := us + 112) (us' := us + 128) (k := 16) (t := 0) (ci := 15) (c := 72) (f := 13) rfl rfl (by decide) (by decide) rfl (by decide) rfl rfl rfl (by decide) (by omega) (by omega) hm14 hI15]
  have hm18 := Bl_c (c := 72) (f := 14) (y := 81) (Bl_s hm16 (show 82 ≤ 83 by decide)) (by decide)
  have hI19 := IZ_s hI17 (show 82 ≤ 83 by decide)
  rw [zA (e := 81) (x := 16) (n := 82) (n' := 83) (us := us + 128) (us' := us + 144) (k := 16) (t := 0) (ci := 15) (c := 72) (f := 14) rfl rfl (by decide) (by decide) rfl (by decide) rfl rfl rfl (by decide) (by omega) (by omega) hm16 hI17]
  have hm20 := Bl_c (c := 72) (f := 15) (y := 82) (Bl_s hm18 (show 83 ≤ 84 by decide)) (by decide)
  have hI21 := IZ_s hI19 (show 83 ≤ 84 by decide)
  rw [zA (e := 82) (x := 16) (n := 83) (n' := 84) (us := us + 144) (us' := us + 160) (k := 16) (t := 0) (ci := 15) (c := 72) (f := 15) rfl rfl (by decide) (by decide) rfl (by decide) rfl rfl rfl (by decide) (by omega) (by omega) hm18 hI19]
  have hm22 := Bl_c (c := 72) (f := 16) (y := 83) (Bl_s hm20 (show 84 ≤ 85 by decide)) (by decide)
  have hI23 := IZ_s hI21 (show 84 ≤ 85 by decide)
  rw [zA (e := 83) (x := 16) (n := 84) (n' := 85) (us := us + 160) (us' := us + 176) (k := 16) (t := 2) (ci := 15) (c := 72) (f := 16) rfl rfl (by decide) (by decide) rfl (by decide) rfl rfl rfl (by decide) (by omega) (by omega) hm20 hI21]
  have hm24 := Bl_c (c := 72) (f := 17) (y := 84) (Bl_s hm22 (show 85 ≤ 86 by decide)) (by decide)
  have hI25 := IZ_s hI23 (show 85 ≤ 86 by decide)
  rw [zA (e := 84) (x := 3072) (n := 85) (n' := 86) (us := us + 176) (us' := us + 3248) (k := 3072) (t := 2) (ci := 15) (c := 72) (f := 17) rfl rfl (by decide) (by decide) rfl (by decide) rfl rfl rfl (by decide) (by omega) (by omega) hm22 hI23]
  have hm26 := Bl_c (c := 72) (f := 18) (y := 85) (Bl_s hm24 (show 86 ≤ 87 by decide)) (by decide)
  have hI27 := IZ_s hI25 (show 86 ≤ 87 by decide)
  rw [zA (e := 85) (x := 256) (n := 86) (n' := 87) (us := us + 3248) (us' := us + 3504) (k := 256) (t := 2) (ci := 15) (c := 72) (f := 18) rfl rfl (by decide) (by decide) rfl (by decide) rfl rfl rfl (by decide) (by omega) (by omega) hm24 hI25]
  have hm28 := Bl_c (c := 72) (f := 19) (y := 86) (Bl_s hm26 (show 87 ≤ 88 by decide)) (by decide)
  have hI29 := IZ_s hI27 (show 87 ≤ 88 by decide)
  rw [zA (e := 86) (x := 3072) (n := 87) (n' := 88) (us := us + 3504) (us' := us + 6576) (k := 3072) (t := 0) (ci := 15) (c := 72) (f := 19) rfl rfl (by decide) (by decide) rfl (by decide) rfl rfl rfl (by decide) (by omega) (by omega) hm26 hI27]
  have hm30 := Bl_c (c := 72) (f := 20) (y := 87) (Bl_s hm28 (show 88 ≤ 89 by decide)) (by decide)
  have hI31 := IZ_s hI29 (show 88 ≤ 89 by decide)
  rw [zA (e := 87) (x := 3072) (n := 88) (n' := 89) (us := us + 6576) (us' := us + 9648) (k := 3072) (t := 0) (ci := 15) (c := 72) (f := 20) rfl rfl (by decide) (by decide) rfl (by decide) rfl rfl rfl (by decide) (by omega) (by omega) hm28 hI29]
  have hm32 := Bl_c (c := 72) (f := 21) (y := 88) (Bl_s hm30 (show 89 ≤ 90 by decide)) (by decide)
  have hI33 := IZ_s hI31 (show 89 ≤ 90 by decide)
  rw [zA (e := 88) (x := 3072) (n := 89) (n' := 90) (us := us + 9648) (us' := us + 12720) (k := 3072) (t := 0) (ci := 15) (c := 72) (f := 21) rfl rfl (by decide) (by decide) rfl (by decide) rfl rfl rfl (by decide) (by omega) (by omega) hm30 hI31]
  have hm34 := Bl_c (c := 72) (f := 22) (y := 89) (Bl_s hm32 (show 90 ≤ 91 by decide)) (by decide)
  have hI35 := IZ_s hI33 (show 90 ≤ 91 by decide)
  rw [zA (e := 89) (x := 256) (n := 90) (n' := 91) (us := us + 12720) (us' := us + 12976) (k := 256) (t := 0) (ci := 15) (c := 72) (f := 22) rfl rfl (by decide) (by decide) rfl (by decide) rfl rfl rfl (by decide) (by omega) (by omega) hm32 hI33]
  have hm36 := Bl_s hm34 (show 91 ≤ 92 by decide)
  have hI37 := IZ_s hI35 (show 91 ≤ 92 by decide)
  rw [zO (e := 90) (n := 91) (n' := 92) (us := us + 12976) (us' := us + 12984) (ci := 14) (N := 8) rfl dX14_dv rfl rfl (by decide) (by omega) (by omega) hm34 hI35]
  rw [z_X14 (Bl_at hm34 (by decide)) (hI35 _ (by decide)), Option.bind_some]
  have hm38 := Bl_c (c := 72) (f := 23) (y := 90) hm36 (by decide)
  rw [zQ (n := 92) (ci := 15) (c := 72) (f := 23) (y := 90) (by decide) rfl rfl]
  have hm39 := Bl_c (c := 72) (f := 24) (y := 91) (Bl_s hm38 (show 92 ≤ 93 by decide)) (by decide)
  have hI40 := IZ_s hI37 (show 92 ≤ 93 by decide)
  rw [zA (e := 91) (x := 400) (n := 92) (n' := 93) (us := us + 12984) (us' := us + 13384) (k := 400) (t := 1) (ci := 15) (c := 72) (f := 24) rfl rfl (by decide) (by decide) rfl (by decide) rfl rfl rfl (by decide) (by omega) (by omega) hm38 hI37]
  have hm41 := Bl_c (c := 72) (f := 39) (y := 92) (Bl_s hm39 (show 93 ≤ 94 by decide)) (by decide)
  have hI42 := IZ_s hI40 (show 93 ≤ 94 by decide)
  rw [zA (e := 92) (x := 12) (n := 93) (n' := 94) (us := us + 13384) (us' := us + 13396) (k := 12) (t := 7) (ci := 15) (c := 72) (f := 39) rfl rfl (by decide) (by decide) rfl (by decide) rfl rfl rfl (by decide) (by omega) (by omega) hm39 hI40]
  have hm43 := Bl_s hm41 (show 94 ≤ 95 by decide)
  have hI44 := IZ_s hI42 (show 94 ≤ 95 by decide)
  rw [zO (e := 93) (n := 94) (n' := 95) (us := us + 13396) (us' := us + 13409) (ci := 12) (N := 13) rfl dX12_dv rfl rfl (by decide) (by omega) (by omega) hm41 hI42]
  have hm45 := Bl_c (c := 93) (f := 12) (y := 104) (Bl_c (c := 93) (f := 11) (y := 103) (Bl_c (c := 93) (f := 10) (y := 102) (Bl_c (c := 93) (f := 9) (y := 101) (Bl_c (c := 93) (f := 8) (y := 100) (Bl_c (c := 93) (f := 7) (y := 99) (Bl_c (c := 93) (f := 6) (y := 98) (Bl_c (c := 93) (f := 5) (y := 97) (Bl_c (c := 93) (f := 4) (y := 96) (Bl_c (c := 93) (f := 3) (y := 95) (Bl_c (c := 93) (f := 2) (y := 94) (Bl_s hm43 (show 95 ≤ 106 by decide)) (by decide)) (by decide)) (by decide)) (by decide)) (by decide)) (by decide)) (by decide)) (by decide)) (by decide)) (by decide)) (by decide)
  have hI46 := IZ_s hI44 (show 95 ≤ 106 by decide)
  rw [z_i93 (us := us + 13409) (by omega) hm43 hI44, Option.bind_some, show us + 13409 + 1400 = us + 14809 by omega]
  have hm47 := Bl_c (c := 72) (f := 40) (y := 93) hm45 (by decide)
  rw [zQ (n := 106) (ci := 15) (c := 72) (f := 40) (y := 93) (by decide) rfl rfl]
  have hm48 := Bl_c (c := 72) (f := 42) (y := 105) (Bl_s hm47 (show 106 ≤ 107 by decide)) (by decide)
  have hI49 := IZ_s hI46 (show 106 ≤ 107 by decide)
  rw [zA (e := 105) (x := 12) (n := 106) (n' := 107) (us := us + 14809) (us' := us + 14821) (k := 12) (t := 4) (ci := 15) (c := 72) (f := 42) rfl rfl (by decide) (by decide) rfl (by decide) rfl rfl rfl (by decide) (by omega) (by omega) hm47 hI46]
  have hm50 := Bl_c (c := 72) (f := 43) (y := 106) (Bl_s hm48 (show 107 ≤ 108 by decide)) (by decide)
  have hI51 := IZ_s hI49 (show 107 ≤ 108 by decide)
  rw [zA (e := 106) (x := 192) (n := 107) (n' := 108) (us := us + 14821) (us' := us + 15013) (k := 192) (t := 0) (ci := 15) (c := 72) (f := 43) rfl rfl (by decide) (by decide) rfl (by decide) rfl rfl rfl (by decide) (by omega) (by omega) hm48 hI49]
  have hm52 := Bl_c (c := 72) (f := 44) (y := 107) (Bl_s hm50 (show 108 ≤ 109 by decide)) (by decide)
  have hI53 := IZ_s hI51 (show 108 ≤ 109 by decide)
  rw [zA (e := 107) (x := 5) (n := 108) (n' := 109) (us := us + 15013) (us' := us + 15018) (k := 5) (t := 0) (ci := 15) (c := 72) (f := 44) rfl rfl (by decide) (by decide) rfl (by decide) rfl rfl rfl (by decide) (by omega) (by omega) hm50 hI51]
  have hm54 := Bl_c (c := 72) (f := 45) (y := 108) (Bl_s hm52 (show 109 ≤ 110 by decide)) (by decide)
  have hI55 := IZ_s hI53 (show 109 ≤ 110 by decide)
  rw [zA (e := 108) (x := 400) (n := 109) (n' := 110) (us := us + 15018) (us' := us + 15418) (k := 400) (t := 0) (ci := 15) (c := 72) (f := 45) rfl rfl (by decide) (by decide) rfl (by decide) rfl rfl rfl (by decide) (by omega) (by omega) hm52 hI53]
  have hm56 := Bl_c (c := 72) (f := 46) (y := 109) (Bl_s hm54 (show 110 ≤ 111 by decide)) (by decide)
  have hI57 := IZ_s hI55 (show 110 ≤ 111 by decide)
  rw [zA (e := 109) (x := 40) (n := 110) (n' := 111) (us := us + 15418) (us' := us + 15458) (k := 40) (t := 4) (ci := 15) (c := 72) (f := 46) rfl rfl (by decide) (by decide) rfl (by decide) rfl rfl rfl (by decide) (by omega) (by omega) hm54 hI55]
  have hm58 := Bl_c (c := 72) (f := 51) (y := 110) (Bl_s hm56 (show 111 ≤ 112 by decide)) (by decide)
  have hI59 := IZ_s hI57 (show 111 ≤ 112 by decide)
  rw [zA (e := 110) (x := 192) (n := 111) (n' := 112) (us := us + 15458) (us' := us + 15650) (k := 192) (t := 0) (ci := 15) (c := 72) (f := 51) rfl rfl (by decide) (by decide) rfl (by decide) rfl rfl rfl (by decide) (by omega) (by omega) hm56 hI57]
  have hm60 := Bl_c (c := 72) (f := 60) (y := 111) (Bl_s hm58 (show 112 ≤ 113 by decide)) (by decide)
  have hI61 := IZ_s hI59 (show 112 ≤ 113 by decide)
  rw [zA (e := 111) (x := 10) (n := 112) (n' := 113) (us := us + 15650) (us' := us + 15660) (k := 10) (t := 0) (ci := 15) (c := 72) (f := 60) rfl rfl (by decide) (by decide) rfl (by decide) rfl rfl rfl (by decide) (by omega) (by omega) hm58 hI59]
  have hm62 := Bl_c (c := 72) (f := 61) (y := 112) (Bl_s hm60 (show 113 ≤ 114 by decide)) (by decide)
  have hI63 := IZ_s hI61 (show 113 ≤ 114 by decide)
  rw [zA (e := 112) (x := 10) (n := 113) (n' := 114) (us := us + 15660) (us' := us + 15670) (k := 10) (t := 0) (ci := 15) (c := 72) (f := 61) rfl rfl (by decide) (by decide) rfl (by decide) rfl rfl rfl (by decide) (by omega) (by omega) hm60 hI61]
  have hm64 := Bl_c (c := 72) (f := 62) (y := 113) (Bl_s hm62 (show 114 ≤ 115 by decide)) (by decide)
  have hI65 := IZ_s hI63 (show 114 ≤ 115 by decide)
  rw [zA (e := 113) (x := 160) (n := 114) (n' := 115) (us := us + 15670) (us' := us + 15830) (k := 160) (t := 0) (ci := 15) (c := 72) (f := 62) rfl rfl (by decide) (by decide) rfl (by decide) rfl rfl rfl (by decide) (by omega) (by omega) hm62 hI63]
  have hm66 := Bl_c (c := 72) (f := 63) (y := 114) (Bl_s hm64 (show 115 ≤ 116 by decide)) (by decide)
  have hI67 := IZ_s hI65 (show 115 ≤ 116 by decide)
  rw [zA (e := 114) (x := 300) (n := 115) (n' := 116) (us := us + 15830) (us' := us + 16130) (k := 300) (t := 0) (ci := 15) (c := 72) (f := 63) rfl rfl (by decide) (by decide) rfl (by decide) rfl rfl rfl (by decide) (by omega) (by omega) hm64 hI65]
  have hm68 := Bl_c (c := 72) (f := 64) (y := 115) (Bl_s hm66 (show 116 ≤ 117 by decide)) (by decide)
  have hI69 := IZ_s hI67 (show 116 ≤ 117 by decide)
  rw [zA (e := 115) (x := 300) (n := 116) (n' := 117) (us := us + 16130) (us' := us + 16430) (k := 300) (t := 0) (ci := 15) (c := 72) (f := 64) rfl rfl (by decide) (by decide) rfl (by decide) rfl rfl rfl (by decide) (by omega) (by omega) hm66 hI67]
  have hm70 := Bl_c (c := 72) (f := 65) (y := 116) (Bl_s hm68 (show 117 ≤ 118 by decide)) (by decide)
  have hI71 := IZ_s hI69 (show 117 ≤ 118 by decide)
  rw [zA (e := 116) (x := 300) (n := 117) (n' := 118) (us := us + 16430) (us' := us + 16730) (k := 300) (t := 0) (ci := 15) (c := 72) (f := 65) rfl rfl (by decide) (by decide) rfl (by decide) rfl rfl rfl (by decide) (by omega) (by omega) hm68 hI69]
  have hm72 := Bl_c (c := 72) (f := 66) (y := 117) (Bl_s hm70 (show 118 ≤ 119 by decide)) (by decide)
  have hI73 := IZ_s hI71 (show 118 ≤ 119 by decide)
  rw [zA (e := 117) (x := 300) (n := 118) (n' := 119) (us := us + 16730) (us' := us + 17030) (k := 300) (t := 0) (ci := 15) (c := 72) (f := 66) rfl rfl (by decide) (by decide) rfl (by decide) rfl rfl rfl (by decide) (by omega) (by omega) hm70 hI71]
  have hm74 := Bl_c (c := 72) (f := 67) (y := 118) (Bl_s hm72 (show 119 ≤ 120 by decide)) (by decide)
  have hI75 := IZ_s hI73 (show 119 ≤ 120 by decide)
  rw [zA (e := 118) (x := 6) (n := 119) (n' := 120) (us := us + 17030) (us' := us + 17036) (k := 6) (t := 0) (ci := 15) (c := 72) (f := 67) rfl rfl (by decide) (by decide) rfl (by decide) rfl rfl rfl (by decide) (by omega) (by omega) hm72 hI73]
  have hm76 := Bl_c (c := 72) (f := 68) (y := 119) (Bl_s hm74 (show 120 ≤ 121 by decide)) (by decide)
  have hI77 := IZ_s hI75 (show 120 ≤ 121 by decide)
  rw [zA (e := 119) (x := 6) (n := 120) (n' := 121) (us := us + 17036) (us' := us + 17042) (k := 6) (t := 0) (ci := 15) (c := 72) (f := 68) rfl rfl (by decide) (by decide) rfl (by decide) rfl rfl rfl (by decide) (by omega) (by omega) hm74 hI75]
  have hm78 := Bl_c (c := 72) (f := 69) (y := 120) (Bl_s hm76 (show 121 ≤ 122 by decide)) (by decide)
  have hI79 := IZ_s hI77 (show 121 ≤ 122 by decide)
  rw [zA (e := 120) (x := 6) (n := 121) (n' := 122) (us := us + 17042) (us' := us + 17048) (k := 6) (t := 0) (ci := 15) (c := 72) (f := 69) rfl rfl (by decide) (by decide) rfl (by decide) rfl rfl rfl (by decide) (by omega) (by omega) hm76 hI77]
  have hm80 := Bl_c (c := 72) (f := 70) (y := 121) (Bl_s hm78 (show 122 ≤ 123 by decide)) (by decide)
  have hI81 := IZ_s hI79 (show 122 ≤ 123 by decide)
  rw [zA (e := 121) (x := 16) (n := 122) (n' := 123) (us := us + 17048) (us' := us + 17064) (k := 16) (t := 0) (ci := 15) (c := 72) (f := 70) rfl rfl (by decide) (by decide) rfl (by decide) rfl rfl rfl (by decide) (by omega) (by omega) hm78 hI79]
  have hm82 := Bl_c (c := 72) (f := 71) (y := 122) (Bl_s hm80 (show 123 ≤ 124 by decide)) (by decide)
  have hI83 := IZ_s hI81 (show 123 ≤ 124 by decide)
  rw [zA (e := 122) (x := 10) (n := 123) (n' := 124) (us := us + 17064) (us' := us + 17074) (k := 10) (t := 0) (ci := 15) (c := 72) (f := 71) rfl rfl (by decide) (by decide) rfl (by decide) rfl rfl rfl (by decide) (by omega) (by omega) hm80 hI81]
  have hI84 := IZ_u (c := 72) (f := upd ((u2 I 72 (upd (I 72) 2 (-1))) 72) 78 2) hI83 (by decide)
  rw [zI (n := 124) (ci := 15) (c := 72) (f := 78) (by decide) rfl rfl]
  have hm85 := Bl_c (c := 72) (f := 79) (y := 123) (Bl_s hm82 (show 124 ≤ 125 by decide)) (by decide)
  have hI86 := IZ_s hI84 (show 124 ≤ 125 by decide)
  rw [zA (e := 123) (x := 40) (n := 124) (n' := 125) (us := us + 17074) (us' := us + 17114) (k := 40) (t := 0) (ci := 15) (c := 72) (f := 79) rfl rfl (by decide) (by decide) rfl (by decide) rfl rfl rfl (by decide) (by omega) (by omega) hm82 hI84]
  have hm87 := Bl_c (c := 72) (f := 80) (y := 124) (Bl_s hm85 (show 125 ≤ 126 by decide)) (by decide)
  have hI88 := IZ_s hI86 (show 125 ≤ 126 by decide)
  rw [zA (e := 124) (x := 40) (n := 125) (n' := 126) (us := us + 17114) (us' := us + 17154) (k := 40) (t := 0) (ci := 15) (c := 72) (f := 80) rfl rfl (by decide) (by decide) rfl (by decide) rfl rfl rfl (by decide) (by omega) (by omega) hm85 hI86]
  have hm89 := Bl_c (c := 72) (f := 81) (y := 125) (Bl_s hm87 (show 126 ≤ 127 by decide)) (by decide)
  have hI90 := IZ_s hI88 (show 126 ≤ 127 by decide)
  rw [zA (e := 125) (x := 40) (n := 126) (n' := 127) (us := us + 17154) (us' := us + 17194) (k := 40) (t := 0) (ci := 15) (c := 72) (f := 81) rfl rfl (by decide) (by decide) rfl (by decide) rfl rfl rfl (by decide) (by omega) (by omega) hm87 hI88]
  have hm91 := Bl_c (c := 72) (f := 82) (y := 126) (Bl_s hm89 (show 127 ≤ 128 by decide)) (by decide)
  have hI92 := IZ_s hI90 (show 127 ≤ 128 by decide)
  rw [zA (e := 126) (x := 40) (n := 127) (n' := 128) (us := us + 17194) (us' := us + 17234) (k := 40) (t := 0) (ci := 15) (c := 72) (f := 82) rfl rfl (by decide) (by decide) rfl (by decide) rfl rfl rfl (by decide) (by omega) (by omega) hm89 hI90]
  have hm93 := Bl_c (c := 72) (f := 83) (y := 127) (Bl_s hm91 (show 128 ≤ 129 by decide)) (by decide)
  have hI94 := IZ_s hI92 (show 128 ≤ 129 by decide)
  rw [zA (e := 127) (x := 40) (n := 128) (n' := 129) (us := us + 17234) (us' := us + 17274) (k := 40) (t := 0) (ci := 15) (c := 72) (f := 83) rfl rfl (by decide) (by decide) rfl (by decide) rfl rfl rfl (by decide) (by omega) (by omega) hm91 hI92]
  have hm95 := Bl_c (c := 72) (f := 84) (y := 128) (Bl_s hm93 (show 129 ≤ 130 by decide)) (by decide)
  have hI96 := IZ_s hI94 (show 129 ≤ 130 by decide)
  rw [zA (e := 128) (x := 40) (n := 129) (n' := 130) (us := us + 17274) (us' := us + 17314) (k := 40) (t := 0) (ci := 15) (c := 72) (f := 84) rfl rfl (by decide) (by decide) rfl (by decide) rfl rfl rfl (by decide) (by omega) (by omega) hm93 hI94]
  have hm97 := Bl_c (c := 72) (f := 85) (y := 129) (Bl_s hm95 (show 130 ≤ 131 by decide)) (by decide)
  have hI98 := IZ_s hI96 (show 130 ≤ 131 by decide)
  rw [zA (e := 129) (x := 40) (n := 130) (n' := 131) (us := us + 17314) (us' := us + 17354) (k := 40) (t := 0) (ci := 15) (c := 72) (f := 85) rfl rfl (by decide) (by decide) rfl (by decide) rfl rfl rfl (by decide) (by omega) (by omega) hm95 hI96]
  have hm99 := Bl_c (c := 72) (f := 86) (y := 130) (Bl_s hm97 (show 131 ≤ 132 by decide)) (by decide)
  have hI100 := IZ_s hI98 (show 131 ≤ 132 by decide)
  rw [zA (e := 130) (x := 40) (n := 131) (n' := 132) (us := us + 17354) (us' := us + 17394) (k := 40) (t := 0) (ci := 15) (c := 72) (f := 86) rfl rfl (by decide) (by decide) rfl (by decide) rfl rfl rfl (by decide) (by omega) (by omega) hm97 hI98]
  have hm101 := Bl_c (c := 72) (f := 87) (y := 131) (Bl_s hm99 (show 132 ≤ 133 by decide)) (by decide)
  have hI102 := IZ_s hI100 (show 132 ≤ 133 by decide)
  rw [zA (e := 131) (x := 40) (n := 132) (n' := 133) (us := us + 17394) (us' := us + 17434) (k := 40) (t := 0) (ci := 15) (c := 72) (f := 87) rfl rfl (by decide) (by decide) rfl (by decide) rfl rfl rfl (by decide) (by omega) (by omega) hm99 hI100]
  have hm103 := Bl_c (c := 72) (f := 88) (y := 132) (Bl_s hm101 (show 133 ≤ 134 by decide)) (by decide)
  have hI104 := IZ_s hI102 (show 133 ≤ 134 by decide)
  rw [zA (e := 132) (x := 7680) (n := 133) (n' := 134) (us := us + 17434) (us' := us + 25114) (k := 7680) (t := 0) (ci := 15) (c := 72) (f := 88) rfl rfl (by decide) (by decide) rfl (by decide) rfl rfl rfl (by decide) (by omega) (by omega) hm101 hI102]
  have hm105 := Bl_c (c := 72) (f := 89) (y := 133) (Bl_s hm103 (show 134 ≤ 135 by decide)) (by decide)
  have hI106 := IZ_s hI104 (show 134 ≤ 135 by decide)
  rw [zA (e := 133) (x := 3650) (n := 134) (n' := 135) (us := us + 25114) (us' := us + 28764) (k := 3650) (t := 0) (ci := 15) (c := 72) (f := 89) rfl rfl (by decide) (by decide) rfl (by decide) rfl rfl rfl (by decide) (by omega) (by omega) hm103 hI104]
  have hm107 := Bl_c (c := 72) (f := 90) (y := 134) (Bl_s hm105 (show 135 ≤ 136 by decide)) (by decide)
  have hI108 := IZ_s hI106 (show 135 ≤ 136 by decide)
  rw [zA (e := 134) (x := 3650) (n := 135) (n' := 136) (us := us + 28764) (us' := us + 32414) (k := 3650) (t := 0) (ci := 15) (c := 72) (f := 90) rfl rfl (by decide) (by decide) rfl (by decide) rfl rfl rfl (by decide) (by omega) (by omega) hm105 hI106]
  have hm109 := Bl_c (c := 72) (f := 91) (y := 135) (Bl_s hm107 (show 136 ≤ 137 by decide)) (by decide)
  have hI110 := IZ_s hI108 (show 136 ≤ 137 by decide)
  rw [zA (e := 135) (x := 60) (n := 136) (n' := 137) (us := us + 32414) (us' := us + 32474) (k := 60) (t := 0) (ci := 15) (c := 72) (f := 91) rfl rfl (by decide) (by decide) rfl (by decide) rfl rfl rfl (by decide) (by omega) (by omega) hm107 hI108]
  have hm111 := Bl_c (c := 72) (f := 92) (y := 136) (Bl_s hm109 (show 137 ≤ 138 by decide)) (by decide)
  have hI112 := IZ_s hI110 (show 137 ≤ 138 by decide)
  rw [zA (e := 136) (x := 60) (n := 137) (n' := 138) (us := us + 32474) (us' := us + 32534) (k := 60) (t := 0) (ci := 15) (c := 72) (f := 92) rfl rfl (by decide) (by decide) rfl (by decide) rfl rfl rfl (by decide) (by omega) (by omega) hm109 hI110]
  have hm113 := Bl_c (c := 72) (f := 93) (y := 137) (Bl_s hm111 (show 138 ≤ 139 by decide)) (by decide)
  have hI114 := IZ_s hI112 (show 138 ≤ 139 by decide)
  rw [zA (e := 137) (x := 40) (n := 138) (n' := 139) (us := us + 32534) (us' := us + 32574) (k := 40) (t := 0) (ci := 15) (c := 72) (f := 93) rfl rfl (by decide) (by decide) rfl (by decide) rfl rfl rfl (by decide) (by omega) (by omega) hm111 hI112]
  have hm115 := Bl_c (c := 72) (f := 94) (y := 138) (Bl_s hm113 (show 139 ≤ 140 by decide)) (by decide)
  have hI116 := IZ_s hI114 (show 139 ≤ 140 by decide)
  rw [zA (e := 138) (x := 40) (n := 139) (n' := 140) (us := us + 32574) (us' := us + 32614) (k := 40) (t := 0) (ci := 15) (c := 72) (f := 94) rfl rfl (by decide) (by decide) rfl (by decide) rfl rfl rfl (by decide) (by omega) (by omega) hm113 hI114]
  have hm117 := Bl_c (c := 72) (f := 96) (y := 139) (Bl_s hm115 (show 140 ≤ 141 by decide)) (by decide)
  have hI118 := IZ_s hI116 (show 140 ≤ 141 by decide)
  rw [zA (e := 139) (x := 100) (n := 140) (n' := 141) (us := us + 32614) (us' := us + 32714) (k := 100) (t := 0) (ci := 15) (c := 72) (f := 96) rfl rfl (by decide) (by decide) rfl (by decide) rfl rfl rfl (by decide) (by omega) (by omega) hm115 hI116]
  have hm119 := Bl_c (c := 72) (f := 97) (y := 140) (Bl_s hm117 (show 141 ≤ 142 by decide)) (by decide)
  have hI120 := IZ_s hI118 (show 141 ≤ 142 by decide)
  rw [zA (e := 140) (x := 100) (n := 141) (n' := 142) (us := us + 32714) (us' := us + 32814) (k := 100) (t := 0) (ci := 15) (c := 72) (f := 97) rfl rfl (by decide) (by decide) rfl (by decide) rfl rfl rfl (by decide) (by omega) (by omega) hm117 hI118]
  have hm121 := Bl_c (c := 72) (f := 98) (y := 141) (Bl_s hm119 (show 142 ≤ 143 by decide)) (by decide)
  have hI122 := IZ_s hI120 (show 142 ≤ 143 by decide)
  rw [zA (e := 141) (x := 100) (n := 142) (n' := 143) (us := us + 32814) (us' := us + 32914) (k := 100) (t := 0) (ci := 15) (c := 72) (f := 98) rfl rfl (by decide) (by decide) rfl (by decide) rfl rfl rfl (by decide) (by omega) (by omega) hm119 hI120]
  have hm123 := Bl_c (c := 72) (f := 99) (y := 142) (Bl_s hm121 (show 143 ≤ 144 by decide)) (by decide)
  have hI124 := IZ_s hI122 (show 143 ≤ 144 by decide)
  rw [zA (e := 142) (x := 9) (n := 143) (n' := 144) (us := us + 32914) (us' := us + 32923) (k := 9) (t := 0) (ci := 15) (c := 72) (f := 99) rfl rfl (by decide) (by decide) rfl (by decide) rfl rfl rfl (by decide) (by omega) (by omega) hm121 hI122]
  have hm125 := Bl_c (c := 72) (f := 100) (y := 143) (Bl_s hm123 (show 144 ≤ 145 by decide)) (by decide)
  have hI126 := IZ_s hI124 (show 144 ≤ 145 by decide)
  rw [zA (e := 143) (x := 4608) (n := 144) (n' := 145) (us := us + 32923) (us' := us + 37531) (k := 4608) (t := 0) (ci := 15) (c := 72) (f := 100) rfl rfl (by decide) (by decide) rfl (by decide) rfl rfl rfl (by decide) (by omega) (by omega) hm123 hI124]
  have hI127 := IZ_u (c := 72) (f := upd ((u2 (u2 I 72 (upd (I 72) 2 (-1))) 72 (upd ((u2 I 72 (upd (I 72) 2 (-1))) 72) 78 2)) 72) 102 (-1)) hI126 (by decide)
  rw [zI (n := 145) (ci := 15) (c := 72) (f := 102) (by decide) rfl rfl]
  have hm128 := Bl_c (c := 72) (f := 104) (y := 144) (Bl_s hm125 (show 145 ≤ 146 by decide)) (by decide)
  have hI129 := IZ_s hI127 (show 145 ≤ 146 by decide)
  rw [zA (e := 144) (x := 8) (n := 145) (n' := 146) (us := us + 37531) (us' := us + 37539) (k := 8) (t := 8) (ci := 15) (c := 72) (f := 104) rfl rfl (by decide) (by decide) rfl (by decide) rfl rfl rfl (by decide) (by omega) (by omega) hm125 hI127]
  have hm130 := Bl_s hm128 (show 146 ≤ 147 by decide)
  have hI131 := IZ_s hI129 (show 146 ≤ 147 by decide)
  rw [zO (e := 145) (n := 146) (n' := 147) (us := us + 37539) (us' := us + 37542) (ci := 13) (N := 3) rfl dX13_dv rfl rfl (by decide) (by omega) (by omega) hm128 hI129]
  have hm132 := Bl_c (c := 145) (f := 2) (y := 147) (Bl_c (c := 145) (f := 1) (y := 146) (Bl_s hm130 (show 147 ≤ 149 by decide)) (by decide)) (by decide)
  have hI133 := IZ_s hI131 (show 147 ≤ 149 by decide)
  rw [z_i145 (us := us + 37542) (by omega) hm130 hI131, Option.bind_some, show us + 37542 + 16 = us + 37558 by omega]
  have hm134 := Bl_c (c := 72) (f := 105) (y := 145) hm132 (by decide)
  rw [zQ (n := 149) (ci := 15) (c := 72) (f := 105) (y := 145) (by decide) rfl rfl]
  rw [show (0 : Int32) = Int32.ofNat 0 from rfl, z_l546 rfl rfl 3072 0 rfl _ FU (by unfold FU; omega)]
  rw [show (0 : Int32) = Int32.ofNat 0 from rfl, z_l568 rfl rfl 256 0 rfl _ FU (by unfold FU; omega)]
  rw [show (0 : Int32) = Int32.ofNat 0 from rfl, z_l591 rfl rfl 3650 0 rfl _ FU (by unfold FU; omega)]
  rw [show (0 : Int32) = Int32.ofNat 0 from rfl, z_l614 rfl rfl 192 0 rfl _ FU (by unfold FU; omega)]
end INJ
