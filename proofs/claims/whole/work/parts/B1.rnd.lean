/-! ===== painting: rounds ===== -/
theorem AOK_vr {ho : RW} {Wd : Nat → Int64} {A : PSt} {x : Nat} {v : Int32} (h : AOK ho Wd A) (hv : BV v) : AOK ho Wd (upd A.1 x v, A.2) := by
  refine ⟨fun k hk => ?_, h.2⟩
  show BV (upd A.1 x v k)
  unfold upd
  split
  · exact hv
  · exact h.1 k hk
section EAM
variable {b : Nat} {F : Nat → Option AE} {D E : Nat → Option KD} {I : Nat → Nat → Int32} {L : Nat → Nat → Int64} {P : Nat → Nat → Option Nat} {nx us : Nat}
theorem p178 {r e s s1 f x : Nat} {kX k3 : Nat → Nat → Int32 → Int32 → AH → Option AH} {R : Nat → RW} {Wd : Nat → Int64} {bb v : Int32} (hK : K12 E r) (hs : s < 40) (hR : RR r R Wd I L) (h5 : R 5 s = Int32.ofNat s1) (h3 : R 3 s = Int32.ofNat x) (hx : x < 5) (hr : RD r) : (bb < v → f_X15_paints_178 kX k3 (f + 1) (ad b 72) (ad b r) (Int32.ofNat e) (Int32.ofNat s) bb v (lay b F E I L P nx us) = f_X15_paints_295 kX k3 (ad b 72) (ad b r) (Int32.ofNat e) (Int32.ofNat s) (lay b F E I L P nx us)) ∧ (I 72 50 = bZ true → f_X15_paints_178 kX k3 (f + 1) (ad b 72) (ad b r) (Int32.ofNat e) (Int32.ofNat s) bb v (lay b F E I L P nx us) = f_X15_paints_295 kX k3 (ad b 72) (ad b r) (Int32.ofNat e) (Int32.ofNat s) (lay b F E I L P nx us)) ∧ (¬ bb < v → I 72 50 = 0 → f_X15_paints_178 kX k3 (f + 1) (ad b 72) (ad b r) (Int32.ofNat e) (Int32.ofNat s) bb v (lay b F E I L P nx us) = (kX (ad b 72) (ad b r) (Int32.ofNat (s + 1)) (Int32.ofNat s1) (lay b F E (u2 I 107 (upd (I 107) x v)) L P nx us)).bind fun h8 => f_X15_paints_178 kX k3 f (ad b 72) (ad b r) (Int32.ofNat e) (Int32.ofNat s) bb (v + 1) h8) := by
  have hr' : r = 93 ∨ 149 ≤ r := hr
  refine ⟨fun h => ?_, fun h => ?_, fun h h50 => ?_⟩
  · conv => lhs; unfold f_X15_paints_178 f_X15_paints_228
    rw [if_pos h]
  · conv => lhs; unfold f_X15_paints_178 f_X15_paints_228
    rw [gI_s (by decide) (by decide), Option.bind_some, h, if_neg (show ¬ bZ true = 0 by decide)]
    split <;> rfl
  · have g44 : gA 15 (lay b F E I L P nx us) (ad b 72) 44 = some (ad b 107) := by simp (decide := true) only [isO_s, gI_s, gA_s, gL_s, pI_s, pZ_s, pL_s, aI_s, aL_s, aN_s, aQ_s, sI_s, sL_s, cr, LNs, Option.map_some, Option.map_none, Option.bind_some, b2, tr, lt, if_true, if_false, ckZ, X_within, M_in, inR_z, X_refuse, X_tell, X_deny, X_grant, M_refused, M_denied, M_done, M_granted, u2_same, u2_ne, u2_u2, upd_same, upd_ne, aW0, ixR_z, ixR_1, M_isWall, M_isPainter, M_isWork, X_has4, X_has10, X_at, or_false, false_or, or_true, true_or, not_true, not_false_iff, Option.isSome_some, isO_d, gI_d, gA_d, pI_d, ne_eq, not_false_eq_true, u2_hi, u2_hj, u2_dyn, u2_dynj, Nat.reduceAdd, mX_r, mX_rD, mX_rDj, mM_r, mX_u, mX_uM, mX_uD, mX_uDj, mM_u, mM_uX, mM_uD, mM_uDj, u2_dd, u2_d0, u2_0d]
    have ej : iN (Int32.ofNat x) 5 = some x := iN_oN hx (by omega)
    have s107 : sI 0 (lay b F E I L P nx us) (ad b 107) (Int32.ofNat x) v = some (lay b F E (u2 I 107 (upd (I 107) x v)) L P nx us) := by simp (decide := true) only [ej, isO_s, gI_s, gA_s, gL_s, pI_s, pZ_s, pL_s, aI_s, aL_s, aN_s, aQ_s, sI_s, sL_s, cr, LNs, Option.map_some, Option.map_none, Option.bind_some, b2, tr, lt, if_true, if_false, ckZ, X_within, M_in, inR_z, X_refuse, X_tell, X_deny, X_grant, M_refused, M_denied, M_done, M_granted, u2_same, u2_ne, u2_u2, upd_same, upd_ne, aW0, ixR_z, ixR_1, M_isWall, M_isPainter, M_isWork, X_has4, X_has10, X_at, or_false, false_or, or_true, true_or, not_true, not_false_iff, Option.isSome_some, isO_d, gI_d, gA_d, pI_d, ne_eq, not_false_eq_true, u2_hi, u2_hj, u2_dyn, u2_dynj, Nat.reduceAdd, mX_r, mX_rD, mX_rDj, mM_r, mX_u, mX_uM, mX_uD, mX_uDj, mM_u, mM_uX, mM_uD, mM_uDj, u2_dd, u2_d0, u2_0d]
    have hR' : RR r R Wd (u2 I 107 (upd (I 107) x v)) L := hR.fr hr ⟨fun q _ _ q3 _ => u2_ne q3, fun k _ _ _ => by rw [u2_ne (by decide)], fun _ _ => rfl⟩
    conv => lhs; unfold f_X15_paints_178
    rw [if_neg h, gI_s (by decide) (by decide), Option.bind_some, h50, if_pos rfl, g44, Option.bind_some, M_ra hK (j := 3) rfl (by decide) (by decide) (Or.inl hs), hR.1 3 (by decide) (by decide), h3, s107, Option.bind_some, M_ra hK (j := 5) rfl (by decide) (by decide) (Or.inl hs), hR'.1 5 (by decide) (by decide), h5, oN_succ]
end EAM
theorem each_loop {b : Nat} {F : Nat → Option AE} {E : Nat → Option KD} {P : Nat → Nat → Option Nat} {nx us : Nat} {Lx : Nat → Nat → Int64} {cv c dl wc W H w nb r : Nat} {ho dd dv dt : RW} {R : Nat → RW} {Wd : Nat → Int64} {q s s1 d c' x o1 : Nat} {bb : Int32} (hq0 : 0 < q) (hcv : CV cv) (hK : K12 E r) (hr : RD r) (hs : s < 40) (hs1 : s1 ≤ 40) (hlt : s + 1 < s1) (hd : d < dl) (hc'l : c' < dl) (ho1 : o1 = c' + 1) (hx : x < 5) (h3 : R 3 s = Int32.ofNat x) (h5 : R 5 s = Int32.ofNat s1) (hdv : dv d = Int32.ofNat x) (h10 : dd c' = 10) (hdt : dt c' = Int32.ofNat d) (hB : BlS b F E P nx us Lx cv c dl wc W H w nb r ho dd dv dt R Wd (q - 1) (s + 1) s1 (d + 1) c') (hbb : BV bb) : ∀ (m : Nat) (v : Int32) (A : PSt) (ec : Nat), BV v → bb.toInt = v.toInt + m → AOK ho Wd A → A.2.2.2.1 = false → ec + q ≤ 6 → ∃ (A' : PSt) (n : Nat), AOK ho Wd A' ∧ A.2.2.1 ≤ A'.2.2.1 ∧ (A'.2.2.2.1 = false → n ≤ 362 * (A'.2.2.1 - A.2.2.1)) ∧ (A'.2.2.2.1 = true → n ≤ 362 * (A'.2.2.1 - A.2.2.1) + 1) ∧
    (∀ (I : Nat → Nat → Int32) (t : Nat), XA cv W H nb ho (Lx 53) (upd A.1 x v, A.2) (ec + 1) 0 I → I (cv + 5) ec = v → I (cv + 6) ec = bb → CDr E c dl wc dd dv dt I → t + 362 * (1500 - A.2.2.1) + 3 ≤ 1000000 → ∃ J, (A'.2.2.2.1 = false → pX b cv c t (d + 1) (lay b F E I Lx P nx us) = pX b cv c (t + n) o1 (lay b F E J Lx P nx us)) ∧ (A'.2.2.2.1 = true → pX b cv c t (d + 1) (lay b F E I Lx P nx us) = some (lay b F E J Lx P nx us)) ∧ XA cv W H nb ho (Lx 53) A' ec 0 J ∧ FXp cv ec I J) ∧
    (∀ (I : Nat → Nat → Int32) (L : Nat → Nat → Int64) (dp fu f e : Nat), MA W H w ho A I L → RR r R Wd I L → q ≤ dp → m + 1 < f → ∃ J M, f_X15_paints_178 (f_X15_paints dp) (f_X15_paints_3 (f_X15_paints dp) (fu + 1)) f (ad b 72) (ad b r) (Int32.ofNat e) (Int32.ofNat s) bb v (lay b F E I L P nx us) = f_X15_paints_3 (f_X15_paints dp) (fu + 1) (ad b 72) (ad b r) (Int32.ofNat e) (Int32.ofNat s1) (lay b F E J M P nx us) ∧ MA W H w ho A' J M ∧ FMp I J L M) := by
  have hcr := CV_r hcv
  have hbi := BV_i hbb
  intro m
  induction m with
  | zero =>
    intro v A ec hv hm hA hsp hec
    have hvi := BV_i hv
    have hvb : v = bb := Int32.toInt_inj.mp (by omega)
    obtain ⟨A2, n1, b1, b2', b3, b4, b5, bX, bM⟩ := hB (upd A.1 x v, A.2) (ec + 1) (AOK_vr hA hv) hsp (by omega)
    have b2' : A.2.2.1 ≤ A2.2.2.1 := b2'
    have b4 : A2.2.2.2.1 = false → s + 1 < s1 → n1 + 1 ≤ 362 * (A2.2.2.1 - A.2.2.1) := b4
    have b5 : A2.2.2.2.1 = true → n1 ≤ 362 * (A2.2.2.1 - A.2.2.1) + 1 := b5
    have hnl : ¬ bb < v := by rw [hvb]; exact fun q => Int32.lt_irrefl q
    have hmm : ∀ (I : Nat → Nat → Int32) (L : Nat → Nat → Int64) (dp fu f e : Nat), MA W H w ho A I L → RR r R Wd I L → q ≤ dp → 0 + 1 < f → ∃ J M, f_X15_paints_178 (f_X15_paints dp) (f_X15_paints_3 (f_X15_paints dp) (fu + 1)) f (ad b 72) (ad b r) (Int32.ofNat e) (Int32.ofNat s) bb v (lay b F E I L P nx us) = f_X15_paints_3 (f_X15_paints dp) (fu + 1) (ad b 72) (ad b r) (Int32.ofNat e) (Int32.ofNat s1) (lay b F E J M P nx us) ∧ MA W H w ho A2 J M ∧ FMp I J L M := by
      intro I L dp fu f e hM hR hq hf
      obtain ⟨dp, rfl⟩ : ∃ z, dp = z + 1 := ⟨dp - 1, by omega⟩
      obtain ⟨f, rfl⟩ : ∃ z, f = z + 1 + 1 := ⟨f - 2, by omega⟩
      obtain ⟨m1, m2, m3, m4, m5, m6, m7⟩ := hM
      have f1 : FMp I (u2 I 107 (upd (I 107) x v)) L L := ⟨fun q _ _ q3 _ => u2_ne q3, fun k _ _ _ => by rw [u2_ne (by decide)], fun _ _ => rfl⟩
      have hM1 : MA W H w ho (upd A.1 x v, A.2) (u2 I 107 (upd (I 107) x v)) L := by
        refine ⟨f1.mw m1, ?_, ?_, ?_, fun k hk => ?_, ?_, m7⟩
        · rw [u2_ne (by decide)]; exact m2
        · rw [u2_ne (by decide)]; exact m3
        · rw [u2_ne (by decide)]; exact m4
        · rw [u2_same]
          show upd (I 107) x v k = upd A.1 x v k
          unfold upd
          split
          · rfl
          · exact m5 k hk
        · rw [u2_ne (by decide)]; exact m6
      obtain ⟨J, M, j1, j2, j3⟩ := bM _ L dp FU hM1 (hR.fr hr f1) (by omega) hs1 (by unfold FU; omega)
      have h50 : I 72 50 = 0 := by rw [m3, hsp]; rfl
      refine ⟨J, M, ?_, j2, f1.trans j3⟩
      rw [(p178 hK hs hR h5 h3 hx hr).2.2 hnl h50, pnt_b, j1, Option.bind_some]
      have hR2 := (hR.fr hr f1).fr hr j3
      have hbv : bb < v + 1 := Int32.lt_iff_toInt_lt.mpr (by rw [BV_s hv]; omega)
      rw [(p178 hK hs hR2 h5 h3 hx hr).1 hbv]
      exact p295 hK hs hR2 h5
    cases hs2 : A2.2.2.2.1 with
    | true =>
      refine ⟨A2, n1, b1, b2', fun q => (nsp q hs2).elim, fun _ => b5 hs2, ?_, hmm⟩
      intro I t hX h5' h6' hc ht
      obtain ⟨J, j1, j2, j3, j4⟩ := bX I t hX hc (by show t + 362 * (1500 - A.2.2.1) + 2 ≤ 1000000; omega)
      exact ⟨J, fun q => (nsp q hs2).elim, fun _ => j2 hs2, XA_sp j3 hs2, j4.mono (by omega)⟩
    | false =>
      have b4' := b4 hs2 hlt
      refine ⟨A2, n1 + 1, b1, b2', fun _ => b4', fun q => (nsp hs2 q).elim, ?_, hmm⟩
      intro I t hX h5' h6' hc ht
      obtain ⟨J, j1, -, j3, j4⟩ := bX I t hX hc (by show t + 362 * (1500 - A.2.2.1) + 2 ≤ 1000000; omega)
      have hst := b1.2.1
      have hc2 := hc.fx hcv j4
      obtain ⟨jb, jc⟩ := j3.2.2.2.2.2.2.2.2.2 hs2
      have h50 : J cv 5 = 0 := by rw [j3.2.2.2.2.2.1, hs2]; rfl
      have hgo := X_goOn (b := b) (F := F) (E := E) (I := J) (L := Lx) (P := P) (nx := nx) (us := us) hcv hc2 hd hc'l jc (by omega) hx hdv hdt
      rw [(j4.2.2 ec (by omega)).1, (j4.2.2 ec (by omega)).2, h5', h6', if_neg (by rw [hvb]; exact fun q => Int32.lt_irrefl q)] at hgo
      have hact := act_10 (b := b) (F := F) (E := E) (I := J) (L := Lx) (P := P) (nx := nx) (us := us) hcv hc2 hc'l h10
      rw [hgo, b2_p] at hact
      have hstep := pX_step hcv hc2 (show t + n1 < 1000000 by omega) hc'l h50 hact
      obtain ⟨x1, x2, x3, x4, x5, x6, x7, x8, x9, xa⟩ := j3
      refine ⟨u2 J cv (upd (J cv) 15 (Int32.ofNat ec)), fun _ => ?_, fun q => (nsp hs2 q).elim, ⟨?_, ?_, ?_, ?_, ?_, ?_, ?_, ?_, ?_, fun _ => ⟨?_, ?_⟩⟩, ?_⟩
      · rw [j1 hs2, hstep, ho1, Nat.add_assoc]
      · rw [u2_same, upd_ne (by decide)]; exact x1
      · rw [u2_same, upd_ne (by decide)]; exact x2
      · rw [u2_same, upd_ne (by decide)]; exact x3
      · rw [u2_ne (by omega)]; exact x4
      · rw [u2_same, upd_ne (by decide)]; exact x5
      · rw [u2_same, upd_ne (by decide)]; exact x6
      · rw [u2_same, upd_ne (by decide)]; exact x7
      · rw [u2_ne (by omega)]; exact x8
      · rw [u2_ne (by omega)]; exact x9
      · rw [u2_same, upd_ne (by decide)]; exact jb
      · rw [u2_same, upd_same]
      · exact (j4.mono (by omega)).trans ⟨fun q q1 _ _ _ _ _ => u2_ne q1, fun k _ _ _ _ k5 => by rw [u2_same, upd_ne k5], fun j _ => by rw [u2_ne (by omega), u2_ne (by omega)]; exact ⟨rfl, rfl⟩⟩ (Nat.le_refl _)
  | succ m ih =>
    intro v A ec hv hm hA hsp hec
    have hvi := BV_i hv
    have hv1 := BV_s hv
    have hvn : BV (v + 1) := BV_of (by omega) (by omega)
    have hvlt : v < bb := Int32.lt_iff_toInt_lt.mpr (by omega)
    have hnl : ¬ bb < v := fun q => by have := Int32.lt_iff_toInt_lt.mp q; omega
    obtain ⟨A2, n1, b1, b2', b3, b4, b5, bX, bM⟩ := hB (upd A.1 x v, A.2) (ec + 1) (AOK_vr hA hv) hsp (by omega)
    have b2' : A.2.2.1 ≤ A2.2.2.1 := b2'
    have b4 : A2.2.2.2.1 = false → s + 1 < s1 → n1 + 1 ≤ 362 * (A2.2.2.1 - A.2.2.1) := b4
    have b5 : A2.2.2.2.1 = true → n1 ≤ 362 * (A2.2.2.1 - A.2.2.1) + 1 := b5
    have hbody : ∀ (I : Nat → Nat → Int32) (L : Nat → Nat → Int64) (dp fu f e : Nat), MA W H w ho A I L → RR r R Wd I L → q ≤ dp → ∃ J M, f_X15_paints_178 (f_X15_paints dp) (f_X15_paints_3 (f_X15_paints dp) (fu + 1)) (f + 1) (ad b 72) (ad b r) (Int32.ofNat e) (Int32.ofNat s) bb v (lay b F E I L P nx us) = f_X15_paints_178 (f_X15_paints dp) (f_X15_paints_3 (f_X15_paints dp) (fu + 1)) f (ad b 72) (ad b r) (Int32.ofNat e) (Int32.ofNat s) bb (v + 1) (lay b F E J M P nx us) ∧ MA W H w ho A2 J M ∧ FMp I J L M := by
      intro I L dp fu f e hM hR hq
      obtain ⟨dp, rfl⟩ : ∃ z, dp = z + 1 := ⟨dp - 1, by omega⟩
      obtain ⟨m1, m2, m3, m4, m5, m6, m7⟩ := hM
      have f1 : FMp I (u2 I 107 (upd (I 107) x v)) L L := ⟨fun q _ _ q3 _ => u2_ne q3, fun k _ _ _ => by rw [u2_ne (by decide)], fun _ _ => rfl⟩
      have hM1 : MA W H w ho (upd A.1 x v, A.2) (u2 I 107 (upd (I 107) x v)) L := by
        refine ⟨f1.mw m1, ?_, ?_, ?_, fun k hk => ?_, ?_, m7⟩
        · rw [u2_ne (by decide)]; exact m2
        · rw [u2_ne (by decide)]; exact m3
        · rw [u2_ne (by decide)]; exact m4
        · rw [u2_same]
          show upd (I 107) x v k = upd A.1 x v k
          unfold upd
          split
          · rfl
          · exact m5 k hk
        · rw [u2_ne (by decide)]; exact m6
      obtain ⟨J, M, j1, j2, j3⟩ := bM _ L dp FU hM1 (hR.fr hr f1) (by omega) hs1 (by unfold FU; omega)
      have h50 : I 72 50 = 0 := by rw [m3, hsp]; rfl
      refine ⟨J, M, ?_, j2, f1.trans j3⟩
      rw [(p178 hK hs hR h5 h3 hx hr).2.2 hnl h50, pnt_b, j1, Option.bind_some]
    cases hs2 : A2.2.2.2.1 with
    | true =>
      refine ⟨A2, n1, b1, b2', fun q => (nsp q hs2).elim, fun _ => b5 hs2, ?_, ?_⟩
      · intro I t hX h5' h6' hc ht
        obtain ⟨J, j1, j2, j3, j4⟩ := bX I t hX hc (by show t + 362 * (1500 - A.2.2.1) + 2 ≤ 1000000; omega)
        exact ⟨J, fun q => (nsp q hs2).elim, fun _ => j2 hs2, XA_sp j3 hs2, j4.mono (by omega)⟩
      · intro I L dp fu f e hM hR hq hf
        obtain ⟨f, rfl⟩ : ∃ z, f = z + 1 + 1 := ⟨f - 2, by omega⟩
        obtain ⟨J, M, j1, j2, j3⟩ := hbody I L dp fu (f + 1) e hM hR hq
        refine ⟨J, M, ?_, j2, j3⟩
        rw [j1, (p178 hK hs (hR.fr hr j3) h5 h3 hx hr).2.1 (by rw [j2.2.2.1, hs2])]
        exact p295 hK hs (hR.fr hr j3) h5
    | false =>
      have b4' := b4 hs2 hlt
      obtain ⟨A3, n2, d1, d2, d3, d4, dX, dM⟩ := ih (v + 1) A2 ec hvn (by rw [hv1]; omega) b1 hs2 hec
      refine ⟨A3, n1 + 1 + n2, d1, Nat.le_trans b2' d2, fun q => by have := d3 q; omega, fun q => by have := d4 q; omega, ?_, ?_⟩
      · intro I t hX h5' h6' hc ht
        obtain ⟨J, j1, -, j3, j4⟩ := bX I t hX hc (by show t + 362 * (1500 - A.2.2.1) + 2 ≤ 1000000; omega)
        have hst := b1.2.1
        have hc2 := hc.fx hcv j4
        obtain ⟨jb, jc⟩ := j3.2.2.2.2.2.2.2.2.2 hs2
        have h50 : J cv 5 = 0 := by rw [j3.2.2.2.2.2.1, hs2]; rfl
        have hgo := X_goOn (b := b) (F := F) (E := E) (I := J) (L := Lx) (P := P) (nx := nx) (us := us) hcv hc2 hd hc'l jc (by omega) hx hdv hdt
        rw [(j4.2.2 ec (by omega)).1, (j4.2.2 ec (by omega)).2, h5', h6', if_pos hvlt] at hgo
        have hact := act_10 (b := b) (F := F) (E := E) (I := J) (L := Lx) (P := P) (nx := nx) (us := us) hcv hc2 hc'l h10
        rw [hgo, b2_p] at hact
        have hstep := pX_step hcv hc2 (show t + n1 < 1000000 by omega) hc'l h50 hact
        have fg : FXp cv ec J (xG1 cv ec x v J) := by
          unfold xG1
          refine ⟨fun q _ _ q3 _ q5 _ => by rw [u2_ne q3, u2_ne q5], fun k _ _ _ _ _ => by rw [u2_ne (by omega), u2_ne (by omega)], fun j hj => ⟨?_, ?_⟩⟩
          · rw [u2_ne (by omega), u2_same, upd_ne (by omega)]
          · rw [u2_ne (by omega), u2_ne (by omega)]
        have hXg : XA cv W H nb ho (Lx 53) (upd A2.1 x (v + 1), A2.2) (ec + 1) 0 (xG1 cv ec x v J) := by
          obtain ⟨x1, x2, x3, x4, x5, x6, x7, x8, x9, xa⟩ := j3
          unfold xG1
          refine ⟨?_, ?_, ?_, ?_, ?_, ?_, ?_, fun k hk => ?_, ?_, fun _ => ⟨?_, ?_⟩⟩
          · rw [u2_ne (by omega), u2_ne (by omega)]; exact x1
          · rw [u2_ne (by omega), u2_ne (by omega)]; exact x2
          · rw [u2_ne (by omega), u2_ne (by omega)]; exact x3
          · rw [u2_ne (by omega), u2_ne (by omega)]; exact x4
          · rw [u2_ne (by omega), u2_ne (by omega)]; exact x5
          · rw [u2_ne (by omega), u2_ne (by omega)]; exact x6
          · rw [u2_ne (by omega), u2_ne (by omega)]; exact x7
          · rw [u2_same]
            show upd (J (cv + 3)) x (v + 1) k = upd A2.1 x (v + 1) k
            unfold upd
            split
            · rfl
            · exact x8 k hk
          · rw [u2_ne (by omega), u2_ne (by omega)]; exact x9
          · rw [u2_ne (by omega), u2_ne (by omega)]; exact jb
          · rw [u2_ne (by omega), u2_ne (by omega)]; exact jc
        obtain ⟨J2, y1, y2, y3, y4⟩ := dX (xG1 cv ec x v J) (t + n1 + 1) hXg (by unfold xG1; rw [u2_ne (by omega), u2_same, upd_same]) (by unfold xG1; rw [u2_ne (by omega), u2_ne (by omega), (j4.2.2 ec (by omega)).2, h6']) (hc2.fx hcv fg) (by omega)
        refine ⟨J2, fun q => ?_, fun q => ?_, y3, ((j4.mono (by omega)).trans fg (Nat.le_refl _)).trans y4 (Nat.le_refl _)⟩
        · rw [j1 hs2, hstep, y1 q, show t + n1 + 1 + n2 = t + (n1 + 1 + n2) by omega]
        · rw [j1 hs2, hstep, y2 q]
      · intro I L dp fu f e hM hR hq hf
        obtain ⟨f, rfl⟩ : ∃ z, f = z + 1 := ⟨f - 1, by omega⟩
        obtain ⟨J, M, j1, j2, j3⟩ := hbody I L dp fu f e hM hR hq
        obtain ⟨J2, M2, y1, y2, y3⟩ := dM J M dp fu f e j2 (hR.fr hr j3) hq (by omega)
        exact ⟨J2, M2, j1.trans y1, y2, j3.trans y3⟩
theorem Ac_each {b : Nat} {F : Nat → Option AE} {E : Nat → Option KD} {P : Nat → Nat → Option Nat} {nx us : Nat} {Lx : Nat → Nat → Int64} {cv c dl wc W H w nb r : Nat} {ho dd dv dt : RW} {R : Nat → RW} {Wd : Nat → Int64} {ib q s s1 d c' x o1 : Nat} {a : Nat} (hq0 : 0 < q) (hcv : CV cv) (hK : K12 E r) (hr : RD r) (hW : W ≤ 16) (hH : H ≤ 12) (hs : s < 40) (hs1 : s1 ≤ 40) (hlt : s + 1 < s1) (hS : SumsAt R dd dv ib s 2 0 a d) (hd : d < dl) (hc'l : c' < dl) (ho1 : o1 = c' + 1) (hx : x < 5) (h1 : R 1 s = 3) (h3 : R 3 s = Int32.ofNat x) (h5 : R 5 s = Int32.ofNat s1) (h9 : dd d = 9) (hdv : dv d = Int32.ofNat x) (hdto : dt d = Int32.ofNat o1) (h10 : dd c' = 10) (hdt : dt c' = Int32.ofNat d) (hB : BlS b F E P nx us Lx cv c dl wc W H w nb r ho dd dv dt R Wd (q - 1) (s + 1) s1 (d + 1) c') : AcS b F E P nx us Lx cv c dl wc W H w nb r ho dd dv dt R Wd 2 q s s1 d o1 := by
  have hcr := CV_r hcv
  intro A ec hA hsp hec
  obtain ⟨u1, u2', u3⟩ := SumsAt_get _ _ _ _ hS 0 (Nat.le_refl _) (by omega)
  obtain ⟨v1, v2', v3⟩ := SumsAt_get _ _ _ _ hS 1 (by omega) (by omega)
  have bva : BV (smV R A.1 W H s 0) := smV_bv hA.1 hW hH u3
  have bvb : BV (smV R A.1 W H s 1) := smV_bv hA.1 hW hH v3
  have mtl : ∀ (I : Nat → Nat → Int32) (L : Nat → Nat → Int64) (dp fu e : Nat), RR r R Wd I L → pTl (f_X15_paints dp) (f_X15_paints_3 (f_X15_paints dp) (fu + 1)) (ad b 72) (ad b r) (Int32.ofNat e) (Int32.ofNat s) (smV R A.1 W H s 0) (smV R A.1 W H s 1) (lay b F E I L P nx us) = f_X15_paints_178 (f_X15_paints dp) (f_X15_paints_3 (f_X15_paints dp) (fu + 1)) FU (ad b 72) (ad b r) (Int32.ofNat e) (Int32.ofNat s) (smV R A.1 W H s 1) (smV R A.1 W H s 0) (lay b F E I L P nx us) := by
    intro I L dp fu e hR
    unfold pTl
    rw [M_ra hK (j := 1) rfl (by decide) (by decide) (Or.inl hs), hR.1 1 (by decide) (by decide), h1, if_neg (by decide), if_neg (by decide), if_neg (by decide), if_pos rfl]
  by_cases hba : smV R A.1 W H s 1 < smV R A.1 W H s 0
  · refine ⟨A, 1, hA, Nat.le_refl _, fun _ => by omega, fun _ => by omega, ?_, ?_⟩
    · intro I t hX hj hc ht
      have h50 : I cv 5 = 0 := by rw [hX.2.2.2.2.2.1, hsp]; rfl
      obtain ⟨xb, xc⟩ := hX.2.2.2.2.2.2.2.2.2 hsp
      have hact := act_9 (b := b) (F := F) (E := E) (I := I) (L := Lx) (P := P) (nx := nx) (us := us) hcv hc hd h9
      rw [X_beg0 hcv hc hd xb (by rw [hj 0 (by decide), hj 1 (by decide)]; exact hba), b2_p, hdto] at hact
      obtain ⟨y1, y2⟩ := XA_rel hX hsp
      exact ⟨_, fun _ => pX_step hcv hc (by omega) hd h50 hact, fun q => (nsp hsp q).elim, y1, y2⟩
    · intro I L dp fu e hM hR hq hse he
      refine ⟨I, L, fun q => (nsp hsp q).elim, fun _ => ?_, hM, FMp.refl⟩
      rw [mtl I L dp fu e hR, show FU = (FU - 1) + 1 by unfold FU; omega, (p178 hK hs hR h5 h3 hx hr).1 hba]
      exact p295 hK hs hR h5
  · have hia := BV_i bva
    have hib := BV_i bvb
    have hle : (smV R A.1 W H s 0).toInt ≤ (smV R A.1 W H s 1).toInt := by
      rcases Int.lt_or_le (smV R A.1 W H s 1).toInt (smV R A.1 W H s 0).toInt with q | q
      · exact absurd (Int32.lt_iff_toInt_lt.mpr q) hba
      · exact q
    obtain ⟨A', n, d1, d2, d3, d4, dX, dM⟩ := each_loop (b := b) (F := F) (E := E) (P := P) (nx := nx) (us := us) (w := w) (o1 := o1) hq0 hcv hK hr hs hs1 hlt hd hc'l ho1 hx h3 h5 hdv h10 hdt hB bvb ((smV R A.1 W H s 1).toInt - (smV R A.1 W H s 0).toInt).toNat (smV R A.1 W H s 0) A ec bva (by omega) hA hsp hec
    refine ⟨A', n + 1, d1, d2, fun q => by have := d3 q; omega, fun q => by have := d4 q; omega, ?_, ?_⟩
    · intro I t hX hj hc ht
      have h50 : I cv 5 = 0 := by rw [hX.2.2.2.2.2.1, hsp]; rfl
      obtain ⟨xb, xc⟩ := hX.2.2.2.2.2.2.2.2.2 hsp
      have hact := act_9 (b := b) (F := F) (E := E) (I := I) (L := Lx) (P := P) (nx := nx) (us := us) hcv hc hd h9
      rw [X_beg1 hcv hc hd xb xc (by omega) hx hdv (by rw [hj 0 (by decide), hj 1 (by decide)]; exact hba), b2_p, hj 0 (by decide), hj 1 (by decide)] at hact
      have hstep := pX_step hcv hc (show t < 1000000 by omega) hd h50 hact
      have fg : FXp cv ec I (xB1 cv ec x (smV R A.1 W H s 0) (smV R A.1 W H s 1) I) := by
        unfold xB1
        refine ⟨fun q q1 _ q3 _ q5 q6 => by rw [u2_ne q3, u2_ne q1, u2_ne q6, u2_ne q5, u2_ne q1], fun k _ _ _ k4 k5 => by rw [u2_ne (by omega), u2_same, upd_ne k5, upd_ne k4], fun j hj => ⟨?_, ?_⟩⟩
        · rw [u2_ne (by omega), u2_ne (by omega), u2_ne (by omega), u2_same, upd_ne (by omega)]
        · rw [u2_ne (by omega), u2_ne (by omega), u2_same, upd_ne (by omega)]
      have hXg : XA cv W H nb ho (Lx 53) (upd A.1 x (smV R A.1 W H s 0), A.2) (ec + 1) 0 (xB1 cv ec x (smV R A.1 W H s 0) (smV R A.1 W H s 1) I) := by
        obtain ⟨x1, x2, x3, x4, x5, x6, x7, x8, x9, xa⟩ := hX
        unfold xB1
        refine ⟨?_, ?_, ?_, ?_, ?_, ?_, ?_, fun k hk => ?_, ?_, fun _ => ⟨?_, ?_⟩⟩
        · rw [u2_ne (by omega), u2_same, upd_ne (by decide), upd_ne (by decide)]; exact x1
        · rw [u2_ne (by omega), u2_same, upd_ne (by decide), upd_ne (by decide)]; exact x2
        · rw [u2_ne (by omega), u2_same, upd_ne (by decide), upd_ne (by decide)]; exact x3
        · rw [u2_ne (by omega), u2_ne (by omega), u2_ne (by omega), u2_ne (by omega), u2_ne (by omega)]; exact x4
        · rw [u2_ne (by omega), u2_same, upd_ne (by decide), upd_ne (by decide)]; exact x5
        · rw [u2_ne (by omega), u2_same, upd_ne (by decide), upd_ne (by decide)]; exact x6
        · rw [u2_ne (by omega), u2_same, upd_ne (by decide), upd_ne (by decide)]; exact x7
        · rw [u2_same]
          show upd (I (cv + 3)) x (smV R A.1 W H s 0) k = upd A.1 x (smV R A.1 W H s 0) k
          unfold upd
          split
          · rfl
          · exact x8 k hk
        · rw [u2_ne (by omega), u2_ne (by omega), u2_ne (by omega), u2_ne (by omega), u2_ne (by omega)]; exact x9
        · rw [u2_ne (by omega), u2_same, upd_ne (by decide), upd_same]
        · rw [u2_ne (by omega), u2_same, upd_same]
      obtain ⟨J, y1, y2, y3, y4⟩ := dX _ (t + 1) hXg (by unfold xB1; rw [u2_ne (by omega), u2_ne (by omega), u2_ne (by omega), u2_same, upd_same]) (by unfold xB1; rw [u2_ne (by omega), u2_ne (by omega), u2_same, upd_same]) (hc.fx hcv fg) (by omega)
      refine ⟨J, fun q => ?_, fun q => ?_, y3, fg.trans y4 (Nat.le_refl _)⟩
      · rw [hstep, y1 q, show t + 1 + n = t + (n + 1) by omega]
      · rw [hstep, y2 q]
    · intro I L dp fu e hM hR hq hse he
      obtain ⟨J, M, j1, j2, j3⟩ := dM I L dp fu FU e hM hR hq (by unfold FU; omega)
      have hrun := (mtl I L dp fu e hR).trans j1
      refine ⟨J, M, fun q => ?_, fun _ => hrun, j2, j3⟩
      rw [hrun]
      exact p3_end (by rw [j2.2.2.1, q])
