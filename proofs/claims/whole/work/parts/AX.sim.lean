/-! ===== painting: both do the same ===== -/
theorem smV_vr {R : Nat → RW} {dd dv vr vr' : RW} {W H s k o o1 : Nat} (hv : ∀ k, k < 5 → vr k = vr' k) (hS : SumAt R dd dv s k o o1) : smV R vr W H s k = smV R vr' W H s k := by
  obtain ⟨a, e, q7, q8, q1, q2, -, -, qd⟩ := hS
  rw [smV_e q7 q8 q1 q2 qd (fun _ => 0), smV_e q7 q8 q1 q2 qd (fun _ => 0), ev_vr hv _ _ _ _ _ qd]
theorem smV_bv {R : Nat → RW} {dd dv vr : RW} {W H s k o o1 : Nat} (hv : ∀ k, k < 5 → BV (vr k)) (hW : W ≤ 16) (hH : H ≤ 12) (hS : SumAt R dd dv s k o o1) : BV (smV R vr W H s k) := by
  obtain ⟨a, e, q7, q8, q1, q2, -, -, qd⟩ := hS
  rw [smV_e q7 q8 q1 q2 qd (fun _ => 0)]
  exact ev_bv hv hW hH _ _ _ _ _ qd (fun j hj => absurd hj (Nat.not_lt_zero _)) 0 (by decide)
theorem SumsAt_get {R : Nat → RW} {dd dv : RW} {ib s : Nat} : ∀ (m k o o' : Nat), SumsAt R dd dv ib s m k o o' → ∀ j, k ≤ j → j < k + m → ∃ a a', SumAt R dd dv s j a a' := by
  intro m
  induction m with
  | zero => intro k o o' _ j h1 h2; omega
  | succ m ih =>
    intro k o o' h j h1 h2
    obtain ⟨o1, -, q1, -, q2⟩ := h
    by_cases hj : j = k
    · subst hj; exact ⟨_, _, q1⟩
    · exact ih (k + 1) o1 o' q2 j (by omega) (by omega)
/-- the reference behind the first two sums of a step -/
def pTl (kX : Nat → Nat → Int32 → Int32 → AH → Option AH) (k3 : Nat → Nat → Int32 → Int32 → AH → Option AH) (r0 r1 : Nat) (i3 i4 x5 x7 : Int32) (h8 : AH) : Option AH :=
  (gA 12 h8 r1 2).bind fun a9 => (aI 0 h8 a9 i4).bind fun x10 =>
  if x10 = 0 then (gA 12 h8 r1 3).bind fun a24 => (aI 0 h8 a24 i4).bind fun x25 => b2 (f_X15_valueOf r0 r1 i4 2 h8) fun x26 h27 => b2 (f_X15_valueOf r0 r1 i4 3 h27) fun x28 h29 => (f_X15_rect r0 x25 x5 x7 x26 x28 h29).bind fun h30 => f_X15_paints_295 kX k3 r0 r1 i3 i4 h30
  else if x10 = 1 then (gA 12 h8 r1 3).bind fun a31 => (aI 0 h8 a31 i4).bind fun x32 => b2 (f_X15_valueOf r0 r1 i4 2 h8) fun x33 h34 => (f_X15_disc r0 x32 x5 x7 x33 h34).bind fun h35 => f_X15_paints_295 kX k3 r0 r1 i3 i4 h35
  else if x10 = 2 then (f_X15_says r0 r1 i4 x5 x7 h8).bind fun h36 => f_X15_paints_295 kX k3 r0 r1 i3 i4 h36
  else if x10 = 3 then f_X15_paints_178 kX k3 FU r0 r1 i3 i4 x7 x5 h8
  else (gA 12 h8 r1 5).bind fun a11 => (aI 0 h8 a11 i4).bind fun x12 => if x12 = 0 then (if x7 ≤ x5 then f_X15_paints_295 kX k3 r0 r1 i3 i4 h8 else f_X15_paints_279 kX k3 r0 r1 i3 i4 h8) else (gA 12 h8 r1 5).bind fun a13 => (aI 0 h8 a13 i4).bind fun x14 => if x14 = 1 then (if x5 = x7 then f_X15_paints_279 kX k3 r0 r1 i3 i4 h8 else f_X15_paints_295 kX k3 r0 r1 i3 i4 h8) else if x5 ≤ x7 then f_X15_paints_295 kX k3 r0 r1 i3 i4 h8 else f_X15_paints_279 kX k3 r0 r1 i3 i4 h8
theorem p3_eq (kX : Nat → Nat → Int32 → Int32 → AH → Option AH) (n r0 r1 : Nat) (i3 i4 : Int32) (h : AH) : f_X15_paints_3 kX (n + 1) r0 r1 i3 i4 h = if i3 ≤ i4 then some h else (gI 15 h r0 50).bind fun x1 => if x1 = 0 then (gI 15 h r0 48).bind fun x2 => if x2 = 1500 then (pZ 15 h r0 50 1).bind fun h37 => some h37 else (gI 15 h r0 48).bind fun x3 => (pI 15 h r0 48 (x3 + 1)).bind fun h4 => b2 (f_X15_valueOf r0 r1 i4 0 h4) fun x5 h6 => b2 (f_X15_valueOf r0 r1 i4 1 h6) fun x7 h8 => pTl kX (f_X15_paints_3 kX n) r0 r1 i3 i4 x5 x7 h8 else some h := rfl
section SIM
variable {b : Nat} {F : Nat → Option AE} {D E : Nat → Option KD} {I : Nat → Nat → Int32} {L : Nat → Nat → Int64} {P : Nat → Nat → Option Nat} {nx us : Nat}
theorem p3_end {n r0 e s : Nat} {kX : Nat → Nat → Int32 → Int32 → AH → Option AH} (h50 : I 72 50 = bZ true) : f_X15_paints_3 kX (n + 1) (ad b 72) r0 (Int32.ofNat e) (Int32.ofNat s) (lay b F E I L P nx us) = some (lay b F E I L P nx us) := by
  rw [p3_eq, gI_s (by decide) (by decide), Option.bind_some, h50]
  split
  · rfl
  · rw [if_neg (by decide)]
theorem p3_stop {n r0 s : Nat} {kX : Nat → Nat → Int32 → Int32 → AH → Option AH} : f_X15_paints_3 kX (n + 1) (ad b 72) r0 (Int32.ofNat s) (Int32.ofNat s) (lay b F E I L P nx us) = some (lay b F E I L P nx us) := by
  rw [p3_eq, if_pos (Int32.le_refl _)]
theorem p295 {r e s s1 : Nat} {kX k3 : Nat → Nat → Int32 → Int32 → AH → Option AH} {R : Nat → RW} {Wd : Nat → Int64} (hK : K12 E r) (hs : s < 40) (hR : RR r R Wd I L) (h5 : R 5 s = Int32.ofNat s1) : f_X15_paints_295 kX k3 (ad b 72) (ad b r) (Int32.ofNat e) (Int32.ofNat s) (lay b F E I L P nx us) = k3 (ad b 72) (ad b r) (Int32.ofNat e) (Int32.ofNat s1) (lay b F E I L P nx us) := by
  unfold f_X15_paints_295
  rw [M_ra hK (j := 5) rfl (by decide) (by decide) (Or.inl hs), hR.1 5 (by decide) (by decide), h5]
end SIM
/-- a step, from its action on: steps are counted, sums are reckoned -/
def AcS (b : Nat) (F : Nat → Option AE) (E : Nat → Option KD) (P : Nat → Nat → Option Nat) (nx us : Nat) (Lx : Nat → Nat → Int64) (cv c dl wc W H w nb r : Nat) (ho dd dv dt : RW) (R : Nat → RW) (Wd : Nat → Int64) (N q s s1 d o1 : Nat) : Prop := ∀ (A : PSt) (ec : Nat), AOK ho Wd A → A.2.2.2.1 = false → ec + q ≤ 6 → ∃ (A' : PSt) (n : Nat), AOK ho Wd A' ∧ A.2.2.1 ≤ A'.2.2.1 ∧ (A'.2.2.2.1 = false → n ≤ 362 * (A'.2.2.1 - A.2.2.1) + 1) ∧ (A'.2.2.2.1 = true → n ≤ 362 * (A'.2.2.1 - A.2.2.1) + 2) ∧
  (∀ (I : Nat → Nat → Int32) (t : Nat), XA cv W H nb ho (Lx 53) A ec N I → (∀ j, j < N → I (cv + 4) j = smV R A.1 W H s j) → CDr E c dl wc dd dv dt I → t + 362 * (1500 - A.2.2.1) + 5 ≤ 1000000 → ∃ J, (A'.2.2.2.1 = false → pX b cv c t d (lay b F E I Lx P nx us) = pX b cv c (t + n) o1 (lay b F E J Lx P nx us)) ∧ (A'.2.2.2.1 = true → pX b cv c t d (lay b F E I Lx P nx us) = some (lay b F E J Lx P nx us)) ∧ XA cv W H nb ho (Lx 53) A' ec 0 J ∧ FXp cv ec I J) ∧
  (∀ (I : Nat → Nat → Int32) (L : Nat → Nat → Int64) (dp fu e : Nat), MA W H w ho A I L → RR r R Wd I L → q ≤ dp → s < e → e ≤ 40 → ∃ J M, (A'.2.2.2.1 = true → pTl (f_X15_paints dp) (f_X15_paints_3 (f_X15_paints dp) (fu + 1)) (ad b 72) (ad b r) (Int32.ofNat e) (Int32.ofNat s) (smV R A.1 W H s 0) (smV R A.1 W H s 1) (lay b F E I L P nx us) = some (lay b F E J M P nx us)) ∧ (A'.2.2.2.1 = false → pTl (f_X15_paints dp) (f_X15_paints_3 (f_X15_paints dp) (fu + 1)) (ad b 72) (ad b r) (Int32.ofNat e) (Int32.ofNat s) (smV R A.1 W H s 0) (smV R A.1 W H s 1) (lay b F E I L P nx us) = f_X15_paints_3 (f_X15_paints dp) (fu + 1) (ad b 72) (ad b r) (Int32.ofNat e) (Int32.ofNat s1) (lay b F E J M P nx us)) ∧ MA W H w ho A' J M ∧ FMp I J L M)
/-- a step -/
def StS (b : Nat) (F : Nat → Option AE) (E : Nat → Option KD) (P : Nat → Nat → Option Nat) (nx us : Nat) (Lx : Nat → Nat → Int64) (cv c dl wc W H w nb r : Nat) (ho dd dv dt : RW) (R : Nat → RW) (Wd : Nat → Int64) (q s s1 o o1 : Nat) : Prop := ∀ (A : PSt) (ec : Nat), AOK ho Wd A → A.2.2.2.1 = false → ec + q ≤ 6 → ∃ (A' : PSt) (n : Nat), AOK ho Wd A' ∧ A.2.2.1 ≤ A'.2.2.1 ∧ (A'.2.2.2.1 = false → n + 1 ≤ 362 * (A'.2.2.1 - A.2.2.1)) ∧ (A'.2.2.2.1 = true → n ≤ 362 * (A'.2.2.1 - A.2.2.1) + 1) ∧
  (∀ (I : Nat → Nat → Int32) (t : Nat), XA cv W H nb ho (Lx 53) A ec 0 I → CDr E c dl wc dd dv dt I → t + 362 * (1500 - A.2.2.1) + 2 ≤ 1000000 → ∃ J, (A'.2.2.2.1 = false → pX b cv c t o (lay b F E I Lx P nx us) = pX b cv c (t + n) o1 (lay b F E J Lx P nx us)) ∧ (A'.2.2.2.1 = true → pX b cv c t o (lay b F E I Lx P nx us) = some (lay b F E J Lx P nx us)) ∧ XA cv W H nb ho (Lx 53) A' ec 0 J ∧ FXp cv ec I J) ∧
  (∀ (I : Nat → Nat → Int32) (L : Nat → Nat → Int64) (dp fu e : Nat), MA W H w ho A I L → RR r R Wd I L → q ≤ dp → s < e → e ≤ 40 → ∃ J M, (A'.2.2.2.1 = true → f_X15_paints_3 (f_X15_paints dp) (fu + 1 + 1) (ad b 72) (ad b r) (Int32.ofNat e) (Int32.ofNat s) (lay b F E I L P nx us) = some (lay b F E J M P nx us)) ∧ (A'.2.2.2.1 = false → f_X15_paints_3 (f_X15_paints dp) (fu + 1 + 1) (ad b 72) (ad b r) (Int32.ofNat e) (Int32.ofNat s) (lay b F E I L P nx us) = f_X15_paints_3 (f_X15_paints dp) (fu + 1) (ad b 72) (ad b r) (Int32.ofNat e) (Int32.ofNat s1) (lay b F E J M P nx us)) ∧ MA W H w ho A' J M ∧ FMp I J L M)
/-- steps s to e -/
def BlS (b : Nat) (F : Nat → Option AE) (E : Nat → Option KD) (P : Nat → Nat → Option Nat) (nx us : Nat) (Lx : Nat → Nat → Int64) (cv c dl wc W H w nb r : Nat) (ho dd dv dt : RW) (R : Nat → RW) (Wd : Nat → Int64) (q s e o o' : Nat) : Prop := ∀ (A : PSt) (ec : Nat), AOK ho Wd A → A.2.2.2.1 = false → ec + q ≤ 6 → ∃ (A' : PSt) (n : Nat), AOK ho Wd A' ∧ A.2.2.1 ≤ A'.2.2.1 ∧ (A'.2.2.2.1 = false → n ≤ 362 * (A'.2.2.1 - A.2.2.1)) ∧ (A'.2.2.2.1 = false → s < e → n + 1 ≤ 362 * (A'.2.2.1 - A.2.2.1)) ∧ (A'.2.2.2.1 = true → n ≤ 362 * (A'.2.2.1 - A.2.2.1) + 1) ∧
  (∀ (I : Nat → Nat → Int32) (t : Nat), XA cv W H nb ho (Lx 53) A ec 0 I → CDr E c dl wc dd dv dt I → t + 362 * (1500 - A.2.2.1) + 2 ≤ 1000000 → ∃ J, (A'.2.2.2.1 = false → pX b cv c t o (lay b F E I Lx P nx us) = pX b cv c (t + n) o' (lay b F E J Lx P nx us)) ∧ (A'.2.2.2.1 = true → pX b cv c t o (lay b F E I Lx P nx us) = some (lay b F E J Lx P nx us)) ∧ XA cv W H nb ho (Lx 53) A' ec 0 J ∧ FXp cv ec I J) ∧
  (∀ (I : Nat → Nat → Int32) (L : Nat → Nat → Int64) (dp fu : Nat), MA W H w ho A I L → RR r R Wd I L → q ≤ dp → e ≤ 40 → e - s + 2 ≤ fu → ∃ J M, f_X15_paints_3 (f_X15_paints dp) fu (ad b 72) (ad b r) (Int32.ofNat e) (Int32.ofNat s) (lay b F E I L P nx us) = some (lay b F E J M P nx us) ∧ MA W H w ho A' J M ∧ FMp I J L M)
theorem StS_mk {b : Nat} {F : Nat → Option AE} {E : Nat → Option KD} {P : Nat → Nat → Option Nat} {nx us : Nat} {Lx : Nat → Nat → Int64} {cv c dl wc W H w nb r : Nat} {ho dd dv dt : RW} {R : Nat → RW} {Wd : Nat → Int64} {ib N q s s1 o d o1 : Nat} (hcv : CV cv) (hK : K12 E r) (hr : RD r) (hs : s < 40) (hN : 2 ≤ N) (hN4 : N ≤ 4) (hdd : dd o = 0) (hd : d < dl) (hdl : dl < 360) (hS : SumsAt R dd dv ib s N 0 (o + 1) d) (hA : AcS b F E P nx us Lx cv c dl wc W H w nb r ho dd dv dt R Wd N q s s1 d o1) : StS b F E P nx us Lx cv c dl wc W H w nb r ho dd dv dt R Wd q s s1 o o1 := by
  have hcr := CV_r hcv
  have hle := SumsAt_le _ _ _ _ hS
  intro A ec hAok hsp hec
  obtain ⟨a1, a2, a3, a4, a5, a6⟩ := hAok
  by_cases h15 : A.2.2.1 = 1500
  · refine ⟨(A.1, A.2.1, A.2.2.1, true, A.2.2.2.2), 1, ⟨a1, a2, a3, a4, a5, a6⟩, Nat.le_refl _, fun q => (by cases q), fun _ => by show 1 ≤ 362 * (A.2.2.1 - A.2.2.1) + 1; omega, ?_, ?_⟩
    · intro I t hX hc ht
      obtain ⟨x1, x2, x3, x4, x5, x6, x7, x8, x9, xa⟩ := hX
      have hcome := X_come (b := b) (F := F) (E := E) (I := I) (L := Lx) (P := P) (nx := nx) (us := us) hcv x5 a2
      rw [if_neg (by omega)] at hcome
      have hact := act_0 (b := b) (F := F) (E := E) (I := I) (L := Lx) (P := P) (nx := nx) (us := us) hcv hc (by omega) hdd
      rw [hcome, Option.bind_some] at hact
      have h5 : I cv 5 = 0 := by rw [x6, hsp]; rfl
      refine ⟨u2 I cv (upd (I cv) 5 1), fun q => by (cases q), fun _ => ?_, ?_, ?_⟩
      · rw [pX_step hcv hc (by omega) (by omega) h5 hact]
        exact pX_end hcv (by rw [u2_same, upd_same]; rfl) (by omega)
      · refine ⟨?_, ?_, ?_, ?_, ?_, ?_, ?_, ?_, ?_, fun q => by cases q⟩
        · rw [u2_same, upd_ne (by decide)]; exact x1
        · rw [u2_same, upd_ne (by decide)]; exact x2
        · rw [u2_same, upd_ne (by decide)]; exact x3
        · rw [u2_ne (by omega)]; exact x4
        · rw [u2_same, upd_ne (by decide)]; exact x5
        · rw [u2_same, upd_same]; rfl
        · rw [u2_same, upd_ne (by decide)]; exact x7
        · rw [u2_ne (by omega)]; exact x8
        · rw [u2_ne (by omega)]; exact x9
      · refine ⟨fun q q1 _ _ _ _ _ => u2_ne q1, fun k _ k2 _ _ _ => by rw [u2_same, upd_ne k2], fun j _ => by rw [u2_ne (by omega), u2_ne (by omega)]; exact ⟨rfl, rfl⟩⟩
    · intro I L dp fu e hM hR hq hse he
      obtain ⟨m1, m2, m3, m4, m5, m6, m7⟩ := hM
      have n0 : ¬ Int32.ofNat e ≤ Int32.ofNat s := fun q => by have := (oN_le (by omega) (by omega)).mp q; omega
      have e15 : Int32.ofNat A.2.2.1 = 1500 := by rw [h15]; rfl
      have h50 : I 72 50 = 0 := by rw [m3, hsp]; rfl
      refine ⟨u2 I 72 (upd (I 72) 50 1), L, fun _ => ?_, fun q => by (cases q), ?_, ?_⟩
      · rw [p3_eq, if_neg n0, gI_s (by decide) (by decide), Option.bind_some, h50, if_pos rfl, gI_s (by decide) (by decide), Option.bind_some, m2, if_pos e15, pZ_s (by decide) (by decide) (Or.inr rfl), Option.bind_some]
      · refine ⟨m1.fr (by rw [u2_same, upd_ne (by decide)]) (u2_ne (by decide)) (u2_ne (by decide)) (u2_ne (by decide)), ?_, ?_, ?_, ?_, ?_, m7⟩
        · rw [u2_same, upd_ne (by decide)]; exact m2
        · rw [u2_same, upd_same]; rfl
        · rw [u2_same, upd_ne (by decide)]; exact m4
        · rw [u2_ne (by decide)]; exact m5
        · rw [u2_ne (by decide)]; exact m6
      · exact ⟨fun q q1 _ _ _ => u2_ne q1, fun k _ _ k3 => by rw [u2_same, upd_ne k3], fun _ _ => rfl⟩
  · obtain ⟨A', n, b1, b2', b3, b4, hX, hM⟩ := hA (A.1, A.2.1, A.2.2.1 + 1, A.2.2.2) ec ⟨a1, show A.2.2.1 + 1 ≤ 1500 by omega, a3, a4, a5, a6⟩ hsp hec
    have b2' : A.2.2.1 + 1 ≤ A'.2.2.1 := b2'
    have b3 : A'.2.2.2.1 = false → n ≤ 362 * (A'.2.2.1 - (A.2.2.1 + 1)) + 1 := b3
    have b4 : A'.2.2.2.1 = true → n ≤ 362 * (A'.2.2.1 - (A.2.2.1 + 1)) + 2 := b4
    refine ⟨A', (d - o) + n, b1, by omega, fun q => by have := b3 q; omega, fun q => by have := b4 q; omega, ?_, ?_⟩
    · intro I t hXA hc ht
      obtain ⟨x1, x2, x3, x4, x5, x6, x7, x8, x9, xa⟩ := hXA
      have hcome := X_come (b := b) (F := F) (E := E) (I := I) (L := Lx) (P := P) (nx := nx) (us := us) hcv x5 a2
      rw [if_pos (by omega)] at hcome
      have hact := act_0 (b := b) (F := F) (E := E) (I := I) (L := Lx) (P := P) (nx := nx) (us := us) hcv hc (by omega) hdd
      rw [hcome, Option.bind_some] at hact
      have h5 : I cv 5 = 0 := by rw [x6, hsp]; rfl
      have hstep := pX_step hcv hc (show t < 1000000 by omega) (by omega) h5 hact
      generalize hI1 : u2 I cv (upd (I cv) 4 (Int32.ofNat (A.2.2.1 + 1))) = I1 at hstep
      have i1c : I1 cv = upd (I cv) 4 (Int32.ofNat (A.2.2.1 + 1)) := by rw [← hI1, u2_same]
      have i1n : ∀ q, q ≠ cv → I1 q = I q := fun q hq => by rw [← hI1, u2_ne hq]
      obtain ⟨xb, xc⟩ := xa hsp
      have hc1 : CDr E c dl wc dd dv dt I1 := hc.fr (fun q hq => i1n q (by omega))
      obtain ⟨row, r1, -, r3⟩ := X_sums (b := b) (F := F) (E := E) (L := Lx) (P := P) (nx := nx) (us := us) (W := W) (H := H) hcv N 0 (o + 1) d (t + 1) I1 hc1 hS (by omega) (by omega) (by omega) (by rw [i1c, upd_ne (by decide)]; exact x1) (by rw [i1c, upd_ne (by decide)]; exact x2) (by rw [i1c, upd_ne (by decide)]; exact h5) (by rw [i1c, upd_ne (by decide)]; exact xb)
      rw [Nat.zero_add] at r1
      have hfx : FXp cv ec I (hP cv I1 row N) := by
        refine ⟨fun q q1 q2 q3 q4 q5 q6 => by rw [hP_ne q1 q4, i1n q q1], fun k k1 k2 k3 k4 k5 => by rw [hP_cv, upd_ne k4, i1c, upd_ne k1], fun j _ => by rw [hP_ne (by omega) (by omega), hP_ne (by omega) (by omega), i1n _ (by omega), i1n _ (by omega)]; exact ⟨rfl, rfl⟩⟩
      have hXA1 : XA cv W H nb ho (Lx 53) (A.1, A.2.1, A.2.2.1 + 1, A.2.2.2) ec N (hP cv I1 row N) := by
        refine ⟨?_, ?_, ?_, ?_, ?_, ?_, ?_, ?_, ?_, fun _ => ⟨?_, ?_⟩⟩
        · rw [hP_cv, upd_ne (by decide), i1c, upd_ne (by decide)]; exact x1
        · rw [hP_cv, upd_ne (by decide), i1c, upd_ne (by decide)]; exact x2
        · rw [hP_cv, upd_ne (by decide), i1c, upd_ne (by decide)]; exact x3
        · rw [hP_ne (by omega) (by omega), i1n _ (by omega)]; exact x4
        · rw [hP_cv, upd_ne (by decide), i1c, upd_same]
        · rw [hP_cv, upd_ne (by decide), i1c, upd_ne (by decide)]; exact x6
        · rw [hP_cv, upd_ne (by decide), i1c, upd_ne (by decide)]; exact x7
        · rw [hP_ne (by omega) (by omega), i1n _ (by omega)]; exact x8
        · rw [hP_ne (by omega) (by omega), i1n _ (by omega)]; exact x9
        · rw [hP_cv, upd_same]
        · rw [hP_cv, upd_ne (by decide), i1c, upd_ne (by decide)]; exact xc
      obtain ⟨J, j1, j2, j3, j4⟩ := hX (hP cv I1 row N) (t + (d - o)) hXA1 (fun j hj => by
        rw [hP_4, r3 j (Nat.zero_le _) (by omega), i1n _ (by omega)]
        obtain ⟨u1, u2', u3⟩ := SumsAt_get _ _ _ _ hS j (Nat.zero_le _) (by omega)
        exact smV_vr x8 u3) (hc1.fr (fun q hq => hP_ne (by omega) (by omega))) (by show t + (d - o) + 362 * (1500 - (A.2.2.1 + 1)) + 5 ≤ 1000000; omega)
      rw [show t + 1 + (d - (o + 1)) = t + (d - o) by omega] at r1
      refine ⟨J, fun q => ?_, fun q => ?_, j3, hfx.trans j4 (Nat.le_refl _)⟩
      · rw [hstep, r1, j1 q, Nat.add_assoc]
      · rw [hstep, r1, j2 q]
    · intro I L dp fu e hMA hR hq hse he
      obtain ⟨m1, m2, m3, m4, m5, m6, m7⟩ := hMA
      have n0 : ¬ Int32.ofNat e ≤ Int32.ofNat s := fun q => by have := (oN_le (by omega) (by omega)).mp q; omega
      have e15 : ¬ Int32.ofNat A.2.2.1 = 1500 := fun q => h15 ((oN_eq (c := 1500) (by omega) (by omega)).mp q)
      have h50 : I 72 50 = 0 := by rw [m3, hsp]; rfl
      obtain ⟨u1, u2', u3⟩ := SumsAt_get _ _ _ _ hS 0 (Nat.le_refl _) (by omega)
      obtain ⟨v1, v2', v3⟩ := SumsAt_get _ _ _ _ hS 1 (by omega) (by omega)
      generalize hI1 : u2 I 72 (upd (I 72) 48 (Int32.ofNat (A.2.2.1 + 1))) = I1
      have f1 : FMp I I1 L L := by rw [← hI1]; exact ⟨fun q q1 _ _ _ => u2_ne q1, fun k k1 _ _ => by rw [u2_same, upd_ne k1], fun _ _ => rfl⟩
      obtain ⟨row0, w0⟩ := M_valR (b := b) (F := F) (E := E) (I := I1) (L := L) (P := P) (nx := nx) (us := us) hK hr hs (by decide) (f1.mw m1) (hR.fr hr f1) u3
      have f2 : FMp I (u2 I1 108 row0) L L := f1.trans ⟨fun q _ _ _ q4 => u2_ne q4, fun k _ _ _ => by rw [u2_ne (by decide)], fun _ _ => rfl⟩
      obtain ⟨row1, w1⟩ := M_valR (b := b) (F := F) (E := E) (I := u2 I1 108 row0) (L := L) (P := P) (nx := nx) (us := us) hK hr hs (by decide) (f2.mw m1) (hR.fr hr f2) v3
      rw [u2_u2, u2_ne (show (107 : Nat) ≠ 108 by decide)] at w1
      have f3 : FMp I (u2 I1 108 row1) L L := f1.trans ⟨fun q _ _ _ q4 => u2_ne q4, fun k _ _ _ => by rw [u2_ne (by decide)], fun _ _ => rfl⟩
      have hv : ∀ k, k < 5 → I1 107 k = A.1 k := fun k hk => by rw [← hI1, u2_ne (by decide)]; exact m5 k hk
      rw [smV_vr hv u3] at w0
      rw [smV_vr hv v3] at w1
      have hMA1 : MA W H w ho (A.1, A.2.1, A.2.2.1 + 1, A.2.2.2) (u2 I1 108 row1) L := by
        refine ⟨f3.mw m1, ?_, ?_, ?_, ?_, ?_, m7⟩
        · rw [u2_ne (by decide), ← hI1, u2_same, upd_same]
        · rw [u2_ne (by decide), ← hI1, u2_same, upd_ne (by decide)]; exact m3
        · rw [u2_ne (by decide), ← hI1, u2_same, upd_ne (by decide)]; exact m4
        · rw [u2_ne (by decide)]; exact hv
        · rw [u2_ne (by decide), ← hI1, u2_ne (by decide)]; exact m6
      obtain ⟨J, M, j1, j2, j3, j4⟩ := hM (u2 I1 108 row1) L dp fu e hMA1 (hR.fr hr f3) hq hse he
      have hrun : f_X15_paints_3 (f_X15_paints dp) (fu + 1 + 1) (ad b 72) (ad b r) (Int32.ofNat e) (Int32.ofNat s) (lay b F E I L P nx us) = pTl (f_X15_paints dp) (f_X15_paints_3 (f_X15_paints dp) (fu + 1)) (ad b 72) (ad b r) (Int32.ofNat e) (Int32.ofNat s) (smV R A.1 W H s 0) (smV R A.1 W H s 1) (lay b F E (u2 I1 108 row1) L P nx us) := by
        rw [p3_eq, if_neg n0, gI_s (by decide) (by decide), Option.bind_some, h50, if_pos rfl, gI_s (by decide) (by decide), Option.bind_some, m2, if_neg e15, Option.bind_some, pI_s (by decide) (by decide), Option.bind_some, oN_succ, hI1]
        have w0' : f_X15_valueOf (ad b 72) (ad b r) (Int32.ofNat s) 0 (lay b F E I1 L P nx us) = _ := w0
        have w1' : f_X15_valueOf (ad b 72) (ad b r) (Int32.ofNat s) 1 (lay b F E (u2 I1 108 row0) L P nx us) = _ := w1
        rw [w0', b2_p, w1', b2_p]
      refine ⟨J, M, fun q => ?_, fun q => ?_, j3, f3.trans j4⟩
      · rw [hrun, j1 q]
      · rw [hrun, j2 q]
