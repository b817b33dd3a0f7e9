/-! ===== painting: if ===== -/
def cmpV (x a c : Int32) : Int32 := if x = 60 then (if c ≤ a then 0 else 1) else if x = 62 then (if a ≤ c then 0 else 1) else if a = c then 1 else 0
theorem cmpV_60 {a c : Int32} : cmpV 60 a c = if c ≤ a then 0 else 1 := if_pos rfl
theorem cmpV_61 {a c : Int32} : cmpV 61 a c = if a = c then 1 else 0 := by unfold cmpV; rw [if_neg (by decide), if_neg (by decide)]
theorem cmpV_62 {a c : Int32} : cmpV 62 a c = if a ≤ c then 0 else 1 := by unfold cmpV; rw [if_neg (by decide), if_pos rfl]
section IFS
variable {b : Nat} {F : Nat → Option AE} {D E : Nat → Option KD} {I : Nat → Nat → Int32} {L : Nat → Nat → Int64} {P : Nat → Nat → Option Nat} {nx us : Nat}
theorem X_cmp {cv : Nat} {x : Int32} (hcv : CV cv) (h12 : I cv 12 = Int32.ofNat 2) : f_X0_compare (ad b cv) x (lay b F E I L P nx us) = some (cmpV x (I (cv + 4) 0) (I (cv + 4) 1), lay b F E (u2 I cv (upd (I cv) 12 (Int32.ofNat 0))) L P nx us) := by
  have e3 := X_rel (b := b) (F := F) (E := E) (I := I) (L := L) (P := P) (nx := nx) (us := us) (k := 1) hcv (by decide) h12
  have e4 := X_rel (b := b) (F := F) (E := E) (I := u2 I cv (upd (I cv) 12 (Int32.ofNat 1))) (L := L) (P := P) (nx := nx) (us := us) (k := 0) hcv (by decide) (by rw [u2_same, upd_same])
  rw [u2_same, u2_u2, upd_upd, u2_ne (show cv + 4 ≠ cv by omega)] at e4
  unfold f_X0_compare f_X0_compare_26 f_X0_compare_56 cmpV
  rw [if_pos (isO_s (CV_k hcv)), e3, b2_p, e4, b2_p, ckZ_0, ckZ_1]
  split
  · split <;> rfl
  · split
    · split <;> rfl
    · split <;> rfl
theorem p279 {r e s s1 : Nat} {kX k3 : Nat → Nat → Int32 → Int32 → AH → Option AH} {R : Nat → RW} {Wd : Nat → Int64} (hK : K12 E r) (hs : s < 40) (hR : RR r R Wd I L) (h5 : R 5 s = Int32.ofNat s1) : f_X15_paints_279 kX k3 (ad b 72) (ad b r) (Int32.ofNat e) (Int32.ofNat s) (lay b F E I L P nx us) = (kX (ad b 72) (ad b r) (Int32.ofNat (s + 1)) (Int32.ofNat s1) (lay b F E I L P nx us)).bind fun h3 => f_X15_paints_295 kX k3 (ad b 72) (ad b r) (Int32.ofNat e) (Int32.ofNat s) h3 := by
  unfold f_X15_paints_279
  rw [M_ra hK (j := 5) rfl (by decide) (by decide) (Or.inl hs), hR.1 5 (by decide) (by decide), h5, oN_succ]
theorem pnt_b {dp r e s : Nat} : f_X15_paints (dp + 1) (ad b 72) (ad b r) (Int32.ofNat s) (Int32.ofNat e) (lay b F E I L P nx us) = f_X15_paints_3 (f_X15_paints dp) FU (ad b 72) (ad b r) (Int32.ofNat e) (Int32.ofNat s) (lay b F E I L P nx us) := by
  show f_X15_paints_b (f_X15_paints dp) _ _ _ _ _ = _
  unfold f_X15_paints_b
  rw [if_pos (isO_s (by decide))]
end IFS
theorem XA_rel {cv W H nb ec N : Nat} {ho : RW} {bars : Nat → Int64} {A : PSt} {I : Nat → Nat → Int32} (h : XA cv W H nb ho bars A ec N I) (hsp : A.2.2.2.1 = false) : XA cv W H nb ho bars A ec 0 (u2 I cv (upd (I cv) 12 (Int32.ofNat 0))) ∧ FXp cv ec I (u2 I cv (upd (I cv) 12 (Int32.ofNat 0))) := by
  have := XA_shp (row := I (cv + 1)) (cn := A.2.1) h hsp h.2.2.2.2.2.2.2.2.1
  have e : u2 (u2 I cv (upd (I cv) 12 (Int32.ofNat 0))) (cv + 1) (I (cv + 1)) = u2 I cv (upd (I cv) 12 (Int32.ofNat 0)) := by
    have : I (cv + 1) = u2 I cv (upd (I cv) 12 (Int32.ofNat 0)) (cv + 1) := (u2_ne (by omega)).symm
    rw [this]
    exact u2_id _ _
  rw [e] at this
  exact this
theorem XA_sp {cv W H nb ec hc ec' hc' : Nat} {ho : RW} {bars : Nat → Int64} {A : PSt} {I : Nat → Nat → Int32} (h : XA cv W H nb ho bars A ec hc I) (hsp : A.2.2.2.1 = true) : XA cv W H nb ho bars A ec' hc' I := ⟨h.1, h.2.1, h.2.2.1, h.2.2.2.1, h.2.2.2.2.1, h.2.2.2.2.2.1, h.2.2.2.2.2.2.1, h.2.2.2.2.2.2.2.1, h.2.2.2.2.2.2.2.2.1, fun q => (nsp q hsp).elim⟩
theorem FXp.mono {cv ec ec' : Nat} {I J : Nat → Nat → Int32} (h : FXp cv ec I J) (he : ec' ≤ ec) : FXp cv ec' I J := ⟨h.1, h.2.1, fun j hj => h.2.2 j (by omega)⟩
theorem Ac_if {b : Nat} {F : Nat → Option AE} {E : Nat → Option KD} {P : Nat → Nat → Option Nat} {nx us : Nat} {Lx : Nat → Nat → Int64} {cv c dl wc W H w nb r : Nat} {ho dd dv dt : RW} {R : Nat → RW} {Wd : Nat → Int64} {ib q s s1 d o1 : Nat} {a : Nat} (hq0 : 0 < q) (hcv : CV cv) (hK : K12 E r) (hr : RD r) (hs : s < 40) (hs1 : s1 ≤ 40) (hd : d < dl) (hdl : dl < 360) (h1 : R 1 s = 4) (h11 : dd d = 11) (hx : (dv d = 60 ∧ R 4 s = 0) ∨ (dv d = 61 ∧ R 4 s = 1) ∨ (dv d = 62 ∧ R 4 s = 2)) (hdt : dt d = Int32.ofNat o1) (h5 : R 5 s = Int32.ofNat s1) (hB : BlS b F E P nx us Lx cv c dl wc W H w nb r ho dd dv dt R Wd (q - 1) (s + 1) s1 (d + 1) o1) : AcS b F E P nx us Lx cv c dl wc W H w nb r ho dd dv dt R Wd 2 q s s1 d o1 := by
  intro A ec hA hsp hec
  have hact : ∀ (I : Nat → Nat → Int32), XA cv W H nb ho (Lx 53) A ec 2 I → (∀ j, j < 2 → I (cv + 4) j = smV R A.1 W H s j) → CDr E c dl wc dd dv dt I → f_X0_act (ad b cv) (ad b c) (Int32.ofNat d) (lay b F E I Lx P nx us) = some (Int32.ofNat (if cmpV (dv d) (smV R A.1 W H s 0) (smV R A.1 W H s 1) = 0 then o1 else d + 1), lay b F E (u2 I cv (upd (I cv) 12 (Int32.ofNat 0))) Lx P nx us) := by
    intro I hX hj hc
    have hcr := CV_r hcv
    obtain ⟨xb, xc⟩ := hX.2.2.2.2.2.2.2.2.2 hsp
    have hc2 : CDr E c dl wc dd dv dt (u2 I cv (upd (I cv) 12 (Int32.ofNat 0))) := hc.fr (fun q hq => u2_ne (by omega))
    obtain ⟨c0, c1, c2, c3, c4, c5, c6, c7, c8, c9, ca, cb, cc⟩ := hc2
    have eo : iN (Int32.ofNat d) dl = some d := iN_oN hd (by omega)
    rw [act_11 hcv hc hd h11, X_cmp hcv xb, b2_p, hj 0 (by decide), hj 1 (by decide)]
    by_cases hz : cmpV (dv d) (smV R A.1 W H s 0) (smV R A.1 W H s 1) = 0
    · rw [if_pos hz, if_pos hz, gA_cr c0 (by decide) (show cr 1 c 2 = some (c + 3) from rfl), Option.bind_some, aI_lay c3 (by decide), eo, c9]
      show some (dt d, _) = _
      rw [hdt]
    · rw [if_neg hz, if_neg hz, oN_succ]
  have mtl : ∀ (I : Nat → Nat → Int32) (L : Nat → Nat → Int64) (dp fu e : Nat), RR r R Wd I L → pTl (f_X15_paints dp) (f_X15_paints_3 (f_X15_paints dp) (fu + 1)) (ad b 72) (ad b r) (Int32.ofNat e) (Int32.ofNat s) (smV R A.1 W H s 0) (smV R A.1 W H s 1) (lay b F E I L P nx us) = if cmpV (dv d) (smV R A.1 W H s 0) (smV R A.1 W H s 1) = 0 then f_X15_paints_295 (f_X15_paints dp) (f_X15_paints_3 (f_X15_paints dp) (fu + 1)) (ad b 72) (ad b r) (Int32.ofNat e) (Int32.ofNat s) (lay b F E I L P nx us) else f_X15_paints_279 (f_X15_paints dp) (f_X15_paints_3 (f_X15_paints dp) (fu + 1)) (ad b 72) (ad b r) (Int32.ofNat e) (Int32.ofNat s) (lay b F E I L P nx us) := by
    intro I L dp fu e hR
    unfold pTl
    rw [M_ra hK (j := 1) rfl (by decide) (by decide) (Or.inl hs), hR.1 1 (by decide) (by decide), h1, if_neg (by decide), if_neg (by decide), if_neg (by decide), if_neg (by decide), M_ra hK (j := 4) rfl (by decide) (by decide) (Or.inl hs), M_ra hK (j := 4) rfl (by decide) (by decide) (Or.inl hs), hR.1 4 (by decide) (by decide)]
    generalize smV R A.1 W H s 0 = va
    generalize smV R A.1 W H s 1 = vb
    have n10 : ¬ (1 : Int32) = 0 := by decide
    have n20 : ¬ (2 : Int32) = 0 := by decide
    have n21 : ¬ (2 : Int32) = 1 := by decide
    rcases hx with ⟨x1, x2⟩ | ⟨x1, x2⟩ | ⟨x1, x2⟩
    · rw [x1, x2, if_pos rfl, cmpV_60]
      by_cases hc : vb ≤ va
      · rw [if_pos hc, if_pos hc, if_pos rfl]
      · rw [if_neg hc, if_neg hc, if_neg n10]
    · rw [x1, x2, if_neg n10, if_pos rfl, cmpV_61]
      by_cases hc : va = vb
      · rw [if_pos hc, if_pos hc, if_neg n10]
      · rw [if_neg hc, if_neg hc, if_pos rfl]
    · rw [x1, x2, if_neg n20, if_neg n21, cmpV_62]
      by_cases hc : va ≤ vb
      · rw [if_pos hc, if_pos hc, if_pos rfl]
      · rw [if_neg hc, if_neg hc, if_neg n10]
  by_cases hz : cmpV (dv d) (smV R A.1 W H s 0) (smV R A.1 W H s 1) = 0
  · refine ⟨A, 1, hA, Nat.le_refl _, fun _ => by omega, fun _ => by omega, ?_, ?_⟩
    · intro I t hX hj hc ht
      have h50 : I cv 5 = 0 := by rw [hX.2.2.2.2.2.1, hsp]; rfl
      have ha := hact I hX hj hc
      rw [if_pos hz] at ha
      obtain ⟨y1, y2⟩ := XA_rel hX hsp
      exact ⟨_, fun _ => pX_step hcv hc (by omega) hd h50 ha, fun q => (nsp hsp q).elim, y1, y2⟩
    · intro I L dp fu e hM hR hq hse he
      refine ⟨I, L, fun q => (nsp hsp q).elim, fun _ => ?_, hM, FMp.refl⟩
      rw [mtl I L dp fu e hR, if_pos hz]
      exact p295 hK hs hR h5
  · obtain ⟨A', n, b1, b2', b3, b4, b5, bX, bM⟩ := hB A ec hA hsp (by omega)
    refine ⟨A', n + 1, b1, b2', fun q => by have := b3 q; omega, fun q => by have := b5 q; omega, ?_, ?_⟩
    · intro I t hX hj hc ht
      have h50 : I cv 5 = 0 := by rw [hX.2.2.2.2.2.1, hsp]; rfl
      have ha := hact I hX hj hc
      rw [if_neg hz] at ha
      obtain ⟨y1, y2⟩ := XA_rel hX hsp
      obtain ⟨J, j1, j2, j3, j4⟩ := bX _ (t + 1) y1 (hc.fx hcv y2) (by omega)
      have hst := pX_step hcv hc (show t < 1000000 by omega) hd h50 ha
      refine ⟨J, fun q => ?_, fun q => ?_, j3, y2.trans j4 (Nat.le_refl _)⟩
      · rw [hst, j1 q, show t + 1 + n = t + (n + 1) by omega]
      · rw [hst, j2 q]
    · intro I L dp fu e hM hR hq hse he
      obtain ⟨dp, rfl⟩ : ∃ z, dp = z + 1 := ⟨dp - 1, by omega⟩
      obtain ⟨J, M, j1, j2, j3⟩ := bM I L dp FU hM hR (by omega) hs1 (by unfold FU; omega)
      have hrun : pTl (f_X15_paints (dp + 1)) (f_X15_paints_3 (f_X15_paints (dp + 1)) (fu + 1)) (ad b 72) (ad b r) (Int32.ofNat e) (Int32.ofNat s) (smV R A.1 W H s 0) (smV R A.1 W H s 1) (lay b F E I L P nx us) = f_X15_paints_3 (f_X15_paints (dp + 1)) (fu + 1) (ad b 72) (ad b r) (Int32.ofNat e) (Int32.ofNat s1) (lay b F E J M P nx us) := by
        rw [mtl I L (dp + 1) fu e hR, if_neg hz, p279 hK hs hR h5, pnt_b, j1, Option.bind_some]
        exact p295 hK hs (hR.fr hr j3) h5
      refine ⟨J, M, fun q => ?_, fun _ => hrun, j2, j3⟩
      rw [hrun]
      exact p3_end (by rw [j2.2.2.1, q])
