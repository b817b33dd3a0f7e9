/-! ===== painting: rect, disc, say ===== -/
theorem nsp {x : Bool} (h : x = false) (q : x = true) : False := by rw [h] at q; cases q
section SHP2
variable {b : Nat} {F : Nat → Option AE} {D E : Nat → Option KD} {I : Nat → Nat → Int32} {L : Nat → Nat → Int64} {P : Nat → Nat → Option Nat} {nx us : Nat}
theorem X_rect {cv W H v : Nat} (hcv : CV cv) (hW : W ≤ 16) (hH : H ≤ 12) (hv : v < 8) (h1 : I cv 1 = Int32.ofNat W) (h2 : I cv 2 = Int32.ofNat H) (h12 : I cv 12 = Int32.ofNat 4) : f_X0_rect (ad b cv) (Int32.ofNat v) (lay b F E I L P nx us) = some (lay b F E (u2 (u2 I cv (upd (I cv) 12 (Int32.ofNat 0))) (cv + 1) (rectP W H (I (cv + 2)) (Int32.ofNat v) (I (cv + 4) 0) (I (cv + 4) 1) (I (cv + 4) 2) (I (cv + 4) 3) (I (cv + 1)))) L P nx us) := by
  have e1 := X_rel (b := b) (F := F) (E := E) (I := I) (L := L) (P := P) (nx := nx) (us := us) (k := 3) hcv (by decide) h12
  have e2 := X_rel (b := b) (F := F) (E := E) (I := u2 I cv (upd (I cv) 12 (Int32.ofNat 3))) (L := L) (P := P) (nx := nx) (us := us) (k := 2) hcv (by decide) (by rw [u2_same, upd_same])
  have e3 := X_rel (b := b) (F := F) (E := E) (I := u2 I cv (upd (I cv) 12 (Int32.ofNat 2))) (L := L) (P := P) (nx := nx) (us := us) (k := 1) hcv (by decide) (by rw [u2_same, upd_same])
  have e4 := X_rel (b := b) (F := F) (E := E) (I := u2 I cv (upd (I cv) 12 (Int32.ofNat 1))) (L := L) (P := P) (nx := nx) (us := us) (k := 0) hcv (by decide) (by rw [u2_same, upd_same])
  rw [u2_same, u2_u2, upd_upd, u2_ne (show cv + 4 ≠ cv by omega)] at e2 e3 e4
  obtain ⟨k0, a1, a2, a3⟩ := mx_n (I (cv + 4) 0)
  obtain ⟨j0, b1, b2', b3⟩ := mx_n (I (cv + 4) 1)
  have hr := X_rects (b := b) (F := F) (E := E) (L := L) (P := P) (nx := nx) (us := us) (i2 := I (cv + 4) 3) (i3 := I (cv + 4) 2) (i4 := I (cv + 4) 1) (i5 := I (cv + 4) 0) hcv hW hH hv a1 a2 (H + 1) j0 (u2 I cv (upd (I cv) 12 (Int32.ofNat 0))) FU (by omega) (by unfold FU; omega) b1 (by rw [u2_same, upd_ne (by decide)]; exact h1) (by rw [u2_same, upd_ne (by decide)]; exact h2)
  rw [u2_ne (show cv + 1 ≠ cv by omega), u2_ne (show cv + 2 ≠ cv by omega)] at hr
  unfold f_X0_rect rectP
  rw [if_pos (isO_s (CV_k hcv)), e1, b2_p, e2, b2_p, e3, b2_p, e4, b2_p, a3, b3, b2', hr]
theorem X_disc {cv W H v : Nat} (hcv : CV cv) (hW : W ≤ 16) (hH : H ≤ 12) (hv : v < 8) (h1 : I cv 1 = Int32.ofNat W) (h2 : I cv 2 = Int32.ofNat H) (h12 : I cv 12 = Int32.ofNat 3) : f_X0_disc (ad b cv) (Int32.ofNat v) (lay b F E I L P nx us) = some (lay b F E (u2 (u2 I cv (upd (I cv) 12 (Int32.ofNat 0))) (cv + 1) (discP W H (I (cv + 2)) (Int32.ofNat v) (I (cv + 4) 0) (I (cv + 4) 1) (I (cv + 4) 2) (I (cv + 1)))) L P nx us) := by
  have e2 := X_rel (b := b) (F := F) (E := E) (I := I) (L := L) (P := P) (nx := nx) (us := us) (k := 2) hcv (by decide) h12
  have e3 := X_rel (b := b) (F := F) (E := E) (I := u2 I cv (upd (I cv) 12 (Int32.ofNat 2))) (L := L) (P := P) (nx := nx) (us := us) (k := 1) hcv (by decide) (by rw [u2_same, upd_same])
  have e4 := X_rel (b := b) (F := F) (E := E) (I := u2 I cv (upd (I cv) 12 (Int32.ofNat 1))) (L := L) (P := P) (nx := nx) (us := us) (k := 0) hcv (by decide) (by rw [u2_same, upd_same])
  rw [u2_same, u2_u2, upd_upd, u2_ne (show cv + 4 ≠ cv by omega)] at e3 e4
  have hr := X_discs (b := b) (F := F) (E := E) (L := L) (P := P) (nx := nx) (us := us) (i2 := I (cv + 4) 2) (i3 := I (cv + 4) 1) (i4 := I (cv + 4) 0) hcv hW hH hv (H + 1) 0 (u2 I cv (upd (I cv) 12 (Int32.ofNat 0))) FU (by omega) (by unfold FU; omega) (by omega) (by rw [u2_same, upd_ne (by decide)]; exact h1) (by rw [u2_same, upd_ne (by decide)]; exact h2)
  rw [u2_ne (show cv + 1 ≠ cv by omega), u2_ne (show cv + 2 ≠ cv by omega)] at hr
  unfold f_X0_disc discP
  rw [if_pos (isO_s (CV_k hcv)), e2, b2_p, e3, b2_p, e4, b2_p]
  exact hr
end SHP2
/-- the class behind a shape -/
theorem XA_shp {cv W H nb ec N : Nat} {ho row cn : RW} {bars : Nat → Int64} {A : PSt} {I : Nat → Nat → Int32} (h : XA cv W H nb ho bars A ec N I) (hsp : A.2.2.2.1 = false) (hr : A192 row cn) : XA cv W H nb ho bars (A.1, cn, A.2.2) ec 0 (u2 (u2 I cv (upd (I cv) 12 (Int32.ofNat 0))) (cv + 1) row) ∧ FXp cv ec I (u2 (u2 I cv (upd (I cv) 12 (Int32.ofNat 0))) (cv + 1) row) := by
  obtain ⟨x1, x2, x3, x4, x5, x6, x7, x8, x9, xa⟩ := h
  obtain ⟨xb, xc⟩ := xa hsp
  refine ⟨⟨?_, ?_, ?_, ?_, ?_, ?_, ?_, ?_, ?_, fun _ => ⟨?_, ?_⟩⟩, fun q q1 q2 q3 q4 q5 q6 => by rw [u2_ne q2, u2_ne q1], fun k k1 k2 k3 k4 k5 => by rw [u2_ne (by omega), u2_same, upd_ne k4], fun j _ => by rw [u2_ne (by omega), u2_ne (by omega), u2_ne (by omega), u2_ne (by omega)]; exact ⟨rfl, rfl⟩⟩
  · rw [u2_ne (by omega), u2_same, upd_ne (by decide)]; exact x1
  · rw [u2_ne (by omega), u2_same, upd_ne (by decide)]; exact x2
  · rw [u2_ne (by omega), u2_same, upd_ne (by decide)]; exact x3
  · rw [u2_ne (by omega), u2_ne (by omega)]; exact x4
  · rw [u2_ne (by omega), u2_same, upd_ne (by decide)]; exact x5
  · rw [u2_ne (by omega), u2_same, upd_ne (by decide)]; exact x6
  · rw [u2_ne (by omega), u2_same, upd_ne (by decide)]; exact x7
  · rw [u2_ne (by omega), u2_ne (by omega)]; exact x8
  · rw [u2_same]; exact hr
  · rw [u2_ne (by omega), u2_same, upd_same]
  · rw [u2_ne (by omega), u2_same, upd_ne (by decide)]; exact xc
theorem MA_shp {W H w : Nat} {ho row rw8 cn : RW} {A : PSt} {I : Nat → Nat → Int32} {L : Nat → Nat → Int64} (h : MA W H w ho A I L) (hr : A192 row cn) : MA W H w ho (A.1, cn, A.2.2) (u2 (u2 I 108 rw8) 106 row) L ∧ FMp I (u2 (u2 I 108 rw8) 106 row) L L := by
  obtain ⟨m1, m2, m3, m4, m5, m6, m7⟩ := h
  have hf : FMp I (u2 (u2 I 108 rw8) 106 row) L L := ⟨fun q _ q2 _ q4 => by rw [u2_ne q2, u2_ne q4], fun k _ _ _ => by rw [u2_ne (by decide), u2_ne (by decide)], fun _ _ => rfl⟩
  refine ⟨⟨hf.mw m1, ?_, ?_, ?_, ?_, ?_, m7⟩, hf⟩
  · rw [u2_ne (by decide), u2_ne (by decide)]; exact m2
  · rw [u2_ne (by decide), u2_ne (by decide)]; exact m3
  · rw [u2_ne (by decide), u2_ne (by decide)]; exact m4
  · rw [u2_ne (by decide), u2_ne (by decide)]; exact m5
  · rw [u2_same]; exact hr
theorem AOK_cn {ho : RW} {Wd : Nat → Int64} {A : PSt} {cn : RW} (h : AOK ho Wd A) (hc : CB ho cn) : AOK ho Wd (A.1, cn, A.2.2) := ⟨h.1, h.2.1, h.2.2.1, h.2.2.2.1, h.2.2.2.2.1, hc⟩
theorem Ac_rect {b : Nat} {F : Nat → Option AE} {E : Nat → Option KD} {P : Nat → Nat → Option Nat} {nx us : Nat} {Lx : Nat → Nat → Int64} {cv c dl wc W H w nb r : Nat} {ho dd dv dt : RW} {R : Nat → RW} {Wd : Nat → Int64} {ib q s d v : Nat} {a : Nat} (hcv : CV cv) (hK : K12 E r) (hr : RD r) (hW : W ≤ 16) (hH : H ≤ 12) (hs : s < 40) (hv : v < 8) (hS : SumsAt R dd dv ib s 4 0 a d) (hd : d < dl) (h1 : R 1 s = 0) (h6 : dd d = 6) (hdv : dv d = Int32.ofNat v) (h2 : R 2 s = Int32.ofNat v) (h5 : R 5 s = Int32.ofNat (s + 1)) : AcS b F E P nx us Lx cv c dl wc W H w nb r ho dd dv dt R Wd 4 q s (s + 1) d (d + 1) := by
  intro A ec hA hsp hec
  refine ⟨(A.1, rectP W H ho (Int32.ofNat v) (smV R A.1 W H s 0) (smV R A.1 W H s 1) (smV R A.1 W H s 2) (smV R A.1 W H s 3) A.2.1, A.2.2), 1, AOK_cn hA (rcP_c hv _ _ _ hA.2.2.2.2.2), Nat.le_refl _, fun _ => by omega, fun _ => by omega, ?_, ?_⟩
  · intro I t hX hj hc ht
    have hx := hX
    obtain ⟨x1, x2, x3, x4, x5, x6, x7, x8, x9, xa⟩ := hx
    obtain ⟨xb, xc⟩ := xa hsp
    have h50 : I cv 5 = 0 := by rw [x6, hsp]; rfl
    have hact := act_6 (b := b) (F := F) (E := E) (I := I) (L := Lx) (P := P) (nx := nx) (us := us) hcv hc hd h6
    rw [hdv, X_rect hcv hW hH hv x1 x2 xb, Option.bind_some, x4, hj 0 (by decide), hj 1 (by decide), hj 2 (by decide), hj 3 (by decide)] at hact
    obtain ⟨y1, y2⟩ := XA_shp (row := rectP W H ho (Int32.ofNat v) (smV R A.1 W H s 0) (smV R A.1 W H s 1) (smV R A.1 W H s 2) (smV R A.1 W H s 3) (I (cv + 1))) (cn := rectP W H ho (Int32.ofNat v) (smV R A.1 W H s 0) (smV R A.1 W H s 1) (smV R A.1 W H s 2) (smV R A.1 W H s 3) A.2.1) hX hsp (rcP_A _ _ _ _ x9)
    exact ⟨_, fun _ => pX_step hcv hc (by omega) hd h50 hact, fun q => (nsp hsp q).elim, y1, y2⟩
  · intro I L dp fu e hM hR hq hse he
    have hm := hM
    obtain ⟨m1, m2, m3, m4, m5, m6, m7⟩ := hm
    obtain ⟨u1, u2', u3⟩ := SumsAt_get _ _ _ _ hS 2 (by omega) (by omega)
    obtain ⟨v1, v2', v3⟩ := SumsAt_get _ _ _ _ hS 3 (by omega) (by omega)
    obtain ⟨row2, w2⟩ := M_valR (b := b) (F := F) (E := E) (I := I) (L := L) (P := P) (nx := nx) (us := us) hK hr hs (by decide) m1 hR u3
    have f2 : FMp I (u2 I 108 row2) L L := ⟨fun q _ _ _ q4 => u2_ne q4, fun k _ _ _ => by rw [u2_ne (by decide)], fun _ _ => rfl⟩
    obtain ⟨row3, w3⟩ := M_valR (b := b) (F := F) (E := E) (I := u2 I 108 row2) (L := L) (P := P) (nx := nx) (us := us) hK hr hs (by decide) (f2.mw m1) (hR.fr hr f2) v3
    have f3 : FMp I (u2 I 108 row3) L L := ⟨fun q _ _ _ q4 => u2_ne q4, fun k _ _ _ => by rw [u2_ne (by decide)], fun _ _ => rfl⟩
    rw [u2_u2, u2_ne (show (107 : Nat) ≠ 108 by decide), smV_vr m5 v3] at w3
    rw [smV_vr m5 u3] at w2
    have hrc := M_rect (b := b) (F := F) (E := E) (I := u2 I 108 row3) (L := L) (P := P) (nx := nx) (us := us) (t := Int32.ofNat v) (x := smV R A.1 W H s 0) (y := smV R A.1 W H s 1) (ww := smV R A.1 W H s 2) (hh := smV R A.1 W H s 3) (f3.mw m1)
    rw [u2_ne (show (106 : Nat) ≠ 108 by decide)] at hrc
    obtain ⟨y1, y2⟩ := MA_shp (rw8 := row3) (row := rectP W H ho (Int32.ofNat v) (smV R A.1 W H s 0) (smV R A.1 W H s 1) (smV R A.1 W H s 2) (smV R A.1 W H s 3) (I 106)) (cn := rectP W H ho (Int32.ofNat v) (smV R A.1 W H s 0) (smV R A.1 W H s 1) (smV R A.1 W H s 2) (smV R A.1 W H s 3) A.2.1) hM (rcP_A _ _ _ _ m6)
    refine ⟨_, L, fun q => (nsp hsp q).elim, fun _ => ?_, y1, y2⟩
    have w2' : f_X15_valueOf (ad b 72) (ad b r) (Int32.ofNat s) 2 (lay b F E I L P nx us) = _ := w2
    have w3' : f_X15_valueOf (ad b 72) (ad b r) (Int32.ofNat s) 3 (lay b F E (u2 I 108 row2) L P nx us) = _ := w3
    unfold pTl
    rw [M_ra hK (j := 1) rfl (by decide) (by decide) (Or.inl hs), hR.1 1 (by decide) (by decide), h1, if_pos rfl, M_ra hK (j := 2) rfl (by decide) (by decide) (Or.inl hs), hR.1 2 (by decide) (by decide), h2, w2', b2_p, w3', b2_p, hrc, Option.bind_some]
    exact p295 hK hs (hR.fr hr y2) h5
theorem Ac_disc {b : Nat} {F : Nat → Option AE} {E : Nat → Option KD} {P : Nat → Nat → Option Nat} {nx us : Nat} {Lx : Nat → Nat → Int64} {cv c dl wc W H w nb r : Nat} {ho dd dv dt : RW} {R : Nat → RW} {Wd : Nat → Int64} {ib q s d v : Nat} {a : Nat} (hcv : CV cv) (hK : K12 E r) (hr : RD r) (hW : W ≤ 16) (hH : H ≤ 12) (hs : s < 40) (hv : v < 8) (hS : SumsAt R dd dv ib s 3 0 a d) (hd : d < dl) (h1 : R 1 s = 1) (h7 : dd d = 7) (hdv : dv d = Int32.ofNat v) (h2 : R 2 s = Int32.ofNat v) (h5 : R 5 s = Int32.ofNat (s + 1)) : AcS b F E P nx us Lx cv c dl wc W H w nb r ho dd dv dt R Wd 3 q s (s + 1) d (d + 1) := by
  intro A ec hA hsp hec
  refine ⟨(A.1, discP W H ho (Int32.ofNat v) (smV R A.1 W H s 0) (smV R A.1 W H s 1) (smV R A.1 W H s 2) A.2.1, A.2.2), 1, AOK_cn hA (dcP_c hv _ _ _ hA.2.2.2.2.2), Nat.le_refl _, fun _ => by omega, fun _ => by omega, ?_, ?_⟩
  · intro I t hX hj hc ht
    have hx := hX
    obtain ⟨x1, x2, x3, x4, x5, x6, x7, x8, x9, xa⟩ := hx
    obtain ⟨xb, xc⟩ := xa hsp
    have h50 : I cv 5 = 0 := by rw [x6, hsp]; rfl
    have hact := act_7 (b := b) (F := F) (E := E) (I := I) (L := Lx) (P := P) (nx := nx) (us := us) hcv hc hd h7
    rw [hdv, X_disc hcv hW hH hv x1 x2 xb, Option.bind_some, x4, hj 0 (by decide), hj 1 (by decide), hj 2 (by decide)] at hact
    obtain ⟨y1, y2⟩ := XA_shp (row := discP W H ho (Int32.ofNat v) (smV R A.1 W H s 0) (smV R A.1 W H s 1) (smV R A.1 W H s 2) (I (cv + 1))) (cn := discP W H ho (Int32.ofNat v) (smV R A.1 W H s 0) (smV R A.1 W H s 1) (smV R A.1 W H s 2) A.2.1) hX hsp (dcP_A _ _ _ _ x9)
    exact ⟨_, fun _ => pX_step hcv hc (by omega) hd h50 hact, fun q => (nsp hsp q).elim, y1, y2⟩
  · intro I L dp fu e hM hR hq hse he
    have hm := hM
    obtain ⟨m1, m2, m3, m4, m5, m6, m7⟩ := hm
    obtain ⟨u1, u2', u3⟩ := SumsAt_get _ _ _ _ hS 2 (by omega) (by omega)
    obtain ⟨row2, w2⟩ := M_valR (b := b) (F := F) (E := E) (I := I) (L := L) (P := P) (nx := nx) (us := us) hK hr hs (by decide) m1 hR u3
    have f2 : FMp I (u2 I 108 row2) L L := ⟨fun q _ _ _ q4 => u2_ne q4, fun k _ _ _ => by rw [u2_ne (by decide)], fun _ _ => rfl⟩
    rw [smV_vr m5 u3] at w2
    have hrc := M_disc (b := b) (F := F) (E := E) (I := u2 I 108 row2) (L := L) (P := P) (nx := nx) (us := us) (t := Int32.ofNat v) (x := smV R A.1 W H s 0) (y := smV R A.1 W H s 1) (r := smV R A.1 W H s 2) (f2.mw m1)
    rw [u2_ne (show (106 : Nat) ≠ 108 by decide)] at hrc
    obtain ⟨y1, y2⟩ := MA_shp (rw8 := row2) (row := discP W H ho (Int32.ofNat v) (smV R A.1 W H s 0) (smV R A.1 W H s 1) (smV R A.1 W H s 2) (I 106)) (cn := discP W H ho (Int32.ofNat v) (smV R A.1 W H s 0) (smV R A.1 W H s 1) (smV R A.1 W H s 2) A.2.1) hM (dcP_A _ _ _ _ m6)
    refine ⟨_, L, fun q => (nsp hsp q).elim, fun _ => ?_, y1, y2⟩
    have w2' : f_X15_valueOf (ad b 72) (ad b r) (Int32.ofNat s) 2 (lay b F E I L P nx us) = _ := w2
    unfold pTl
    rw [M_ra hK (j := 1) rfl (by decide) (by decide) (Or.inl hs), hR.1 1 (by decide) (by decide), h1, if_neg (by decide), if_pos rfl, M_ra hK (j := 2) rfl (by decide) (by decide) (Or.inl hs), hR.1 2 (by decide) (by decide), h2, w2', b2_p, hrc, Option.bind_some]
    exact p295 hK hs (hR.fr hr y2) h5
theorem Ac_say {b : Nat} {F : Nat → Option AE} {E : Nat → Option KD} {P : Nat → Nat → Option Nat} {nx us : Nat} {Lx : Nat → Nat → Int64} {cv c dl wc W H w nb r : Nat} {ho dd dv dt : RW} {R : Nat → RW} {Wd : Nat → Int64} {ib q s d v k len vv : Nat} {a : Nat} (hcv : CV cv) (hK : K12 E r) (hr : RD r) (hW : W ≤ 16) (hH : H ≤ 12) (hnb : nb ≤ 12) (hs : s < 40) (hv : v < 8) (hS : SumsAt R dd dv ib s 2 0 a d) (hd : d < dl) (h1 : R 1 s = 2) (h8 : dd d = 8) (hdv : dv d = Int32.ofNat v) (h2 : R 2 s = Int32.ofNat v) (hdt : dt d = Int32.ofNat k) (hk : k < wc) (hwd : Lx (c + 4) k = Wd s) (h6 : R 6 s = Int32.ofNat len) (hvv : Wd s = Int64.ofNat vv) (hl1 : 1 ≤ len) (hl : len ≤ 8) (hv1 : vv < 32 ^ len) (hv2 : 32 ^ (len - 1) ≤ vv) (h5 : R 5 s = Int32.ofNat (s + 1)) : AcS b F E P nx us Lx cv c dl wc W H w nb r ho dd dv dt R Wd 2 q s (s + 1) d (d + 1) := by
  intro A ec hA hsp hec
  have xrun : ∀ (I : Nat → Nat → Int32) (t : Nat), XA cv W H nb ho (Lx 53) A ec 2 I → (∀ j, j < 2 → I (cv + 4) j = smV R A.1 W H s j) → CDr E c dl wc dd dv dt I → t < 1000000 → pX b cv c t d (lay b F E I Lx P nx us) = pX b cv c (t + 1) (d + 1) (lay b F E (xSy cv W H len nb v (smV R A.1 W H s 0) (smV R A.1 W H s 1) (Lx 53) (Wd s) I) Lx P nx us) := by
    intro I t hX hj hc ht
    obtain ⟨x1, x2, x3, x4, x5, x6, x7, x8, x9, xa⟩ := hX
    obtain ⟨xb, xc⟩ := xa hsp
    have h50 : I cv 5 = 0 := by rw [x6, hsp]; rfl
    have hc2 := hc
    obtain ⟨c0, c1, c2, c3, c4, c5, c6, c7, c8, c9, ca, cb, cc⟩ := hc2
    have hact := act_8 (b := b) (F := F) (E := E) (I := I) (L := Lx) (P := P) (nx := nx) (us := us) hcv hc hd h8
    rw [hdv, hdt, X_says hcv ca hW hH hv hl1 hl hv1 hv2 hnb x1 x2 x3 xb c0 c4 cc hk c6 (hwd.trans hvv), Option.bind_some, hj 0 (by decide), hj 1 (by decide), ← hvv] at hact
    exact pX_step hcv hc ht hd h50 hact
  have xst : ∀ (I : Nat → Nat → Int32) (A' : PSt), XA cv W H nb ho (Lx 53) A ec 2 I → A'.1 = A.1 → A'.2.2.1 = A.2.2.1 → A'.2.2.2.1 = false → A192 (syP W H ho (Int32.ofNat v) (smV R A.1 W H s 0) (smV R A.1 W H s 1) len 0 false (I (cv + 1))).2 A'.2.1 → BT nb (Lx 53) A'.2.2.2.2.1 A'.2.2.2.2.2 (if (syP W H ho (Int32.ofNat v) (smV R A.1 W H s 0) (smV R A.1 W H s 1) len 0 false (I (cv + 1))).1 = true then nsP (Lx 53) (Wd s) nb 0 (I cv 6) else I cv 6) → XA cv W H nb ho (Lx 53) A' ec 0 (xSy cv W H len nb v (smV R A.1 W H s 0) (smV R A.1 W H s 1) (Lx 53) (Wd s) I) ∧ FXp cv ec I (xSy cv W H len nb v (smV R A.1 W H s 0) (smV R A.1 W H s 1) (Lx 53) (Wd s) I) := by
    intro I A' hX e1 e2 e3 e4 e5
    obtain ⟨x1, x2, x3, x4, x5, x6, x7, x8, x9, xa⟩ := hX
    obtain ⟨xb, xc⟩ := xa hsp
    unfold xSy
    rw [x4]
    refine ⟨⟨?_, ?_, ?_, ?_, ?_, ?_, ?_, ?_, ?_, fun _ => ⟨?_, ?_⟩⟩, fun q q1 q2 q3 q4 q5 q6 => by rw [u2_ne q2, u2_ne q1], fun k k1 k2 k3 k4 k5 => by rw [u2_ne (by omega), u2_same, upd_ne k3, upd_ne k4], fun j _ => by rw [u2_ne (by omega), u2_ne (by omega), u2_ne (by omega), u2_ne (by omega)]; exact ⟨rfl, rfl⟩⟩
    · rw [u2_ne (by omega), u2_same, upd_ne (by decide), upd_ne (by decide)]; exact x1
    · rw [u2_ne (by omega), u2_same, upd_ne (by decide), upd_ne (by decide)]; exact x2
    · rw [u2_ne (by omega), u2_same, upd_ne (by decide), upd_ne (by decide)]; exact x3
    · rw [u2_ne (by omega), u2_ne (by omega)]; exact x4
    · rw [u2_ne (by omega), u2_same, upd_ne (by decide), upd_ne (by decide), e2]; exact x5
    · rw [u2_ne (by omega), u2_same, upd_ne (by decide), upd_ne (by decide), e3, ← hsp]; exact x6
    · rw [u2_ne (by omega), u2_same, upd_same]; exact e5
    · rw [u2_ne (by omega), u2_ne (by omega), e1]; exact x8
    · rw [u2_same]; exact e4
    · rw [u2_ne (by omega), u2_same, upd_ne (by decide), upd_same]
    · rw [u2_ne (by omega), u2_same, upd_ne (by decide), upd_ne (by decide)]; exact xc
  have hag : ∀ rw', A192 rw' A.2.1 → (syP W H ho (Int32.ofNat v) (smV R A.1 W H s 0) (smV R A.1 W H s 1) len 0 false rw').1 = (syP W H ho (Int32.ofNat v) (smV R A.1 W H s 0) (smV R A.1 W H s 1) len 0 false A.2.1).1 ∧ A192 (syP W H ho (Int32.ofNat v) (smV R A.1 W H s 0) (smV R A.1 W H s 1) len 0 false rw').2 (syP W H ho (Int32.ofNat v) (smV R A.1 W H s 0) (smV R A.1 W H s 1) len 0 false A.2.1).2 := fun rw' h => syP_A len 0 false rw' A.2.1 h
  have hcb : CB ho (syP W H ho (Int32.ofNat v) (smV R A.1 W H s 0) (smV R A.1 W H s 1) len 0 false A.2.1).2 := syP_c hv len 0 false A.2.1 hA.2.2.2.2.2
  have mtl : ∀ (I : Nat → Nat → Int32) (L : Nat → Nat → Int64) (dp fu e : Nat) (J : Nat → Nat → Int32) (M : Nat → Nat → Int64), RR r R Wd I L → FMp I J L M → f_X15_says (ad b 72) (ad b r) (Int32.ofNat s) (smV R A.1 W H s 0) (smV R A.1 W H s 1) (lay b F E I L P nx us) = some (lay b F E J M P nx us) → pTl (f_X15_paints dp) (f_X15_paints_3 (f_X15_paints dp) (fu + 1)) (ad b 72) (ad b r) (Int32.ofNat e) (Int32.ofNat s) (smV R A.1 W H s 0) (smV R A.1 W H s 1) (lay b F E I L P nx us) = f_X15_paints_3 (f_X15_paints dp) (fu + 1) (ad b 72) (ad b r) (Int32.ofNat e) (Int32.ofNat (s + 1)) (lay b F E J M P nx us) := by
    intro I L dp fu e J M hR hf hrun
    unfold pTl
    rw [M_ra hK (j := 1) rfl (by decide) (by decide) (Or.inl hs), hR.1 1 (by decide) (by decide), h1, if_neg (by decide), if_neg (by decide), if_pos rfl, hrun, Option.bind_some]
    exact p295 hK hs (hR.fr hr hf) h5
  have e106 : ∀ (I : Nat → Nat → Int32) (L : Nat → Nat → Int64) (row : RW), MA W H w ho A I L → A192 row (syP W H ho (Int32.ofNat v) (smV R A.1 W H s 0) (smV R A.1 W H s 1) len 0 false A.2.1).2 → MA W H w ho (A.1, (syP W H ho (Int32.ofNat v) (smV R A.1 W H s 0) (smV R A.1 W H s 1) len 0 false A.2.1).2, A.2.2) (u2 I 106 row) L ∧ FMp I (u2 I 106 row) L L := by
    intro I L row hM hrow
    have := MA_shp (rw8 := I 108) (row := row) (cn := (syP W H ho (Int32.ofNat v) (smV R A.1 W H s 0) (smV R A.1 W H s 1) len 0 false A.2.1).2) hM hrow
    rw [u2_id] at this
    exact this
  by_cases hcase : (syP W H ho (Int32.ofNat v) (smV R A.1 W H s 0) (smV R A.1 W H s 1) len 0 false A.2.1).1 = true ∧ ¬ ∃ k, k < A.2.2.2.2.1 ∧ A.2.2.2.2.2 k = Wd s
  · obtain ⟨han, hnot⟩ := hcase
    obtain ⟨hlt, hok⟩ := AOK_new hA hs hnot
    refine ⟨(A.1, (syP W H ho (Int32.ofNat v) (smV R A.1 W H s 0) (smV R A.1 W H s 1) len 0 false A.2.1).2, A.2.2.1, A.2.2.2.1, A.2.2.2.2.1 + 1, vp_updL A.2.2.2.2.2 A.2.2.2.2.1 (Wd s)), 1, AOK_cn hok hcb, Nat.le_refl _, fun _ => by omega, fun _ => by omega, ?_, ?_⟩
    · intro I t hX hj hc ht
      obtain ⟨g1, g2⟩ := hag _ hX.2.2.2.2.2.2.2.2.1
      obtain ⟨y1, y2⟩ := xst I (A.1, (syP W H ho (Int32.ofNat v) (smV R A.1 W H s 0) (smV R A.1 W H s 1) len 0 false A.2.1).2, A.2.2.1, A.2.2.2.1, A.2.2.2.2.1 + 1, vp_updL A.2.2.2.2.2 A.2.2.2.2.1 (Wd s)) hX rfl rfl hsp g2 (by rw [g1, if_pos han]; exact BT_new hnb hX.2.2.2.2.2.2.1)
      exact ⟨_, fun _ => xrun I t hX hj hc (by omega), fun q => (nsp hsp q).elim, y1, y2⟩
    · intro I L dp fu e hM hR hq hse he
      have hm := hM
      obtain ⟨m1, m2, m3, m4, m5, m6, m7⟩ := hm
      obtain ⟨g1, g2⟩ := hag _ m6
      have hsay := (M_says (b := b) (F := F) (E := E) (I := I) (L := L) (P := P) (nx := nx) (us := us) (t := Int32.ofNat v) (x := smV R A.1 W H s 0) (y := smV R A.1 W H s 1) (wd := Wd s) hK hr hs hl m1 (by rw [hR.1 6 (by decide) (by decide)]; exact h6) (by rw [hR.1 2 (by decide) (by decide)]; exact h2) hA.2.2.1 m4 (by rw [hR.2])).2 (g1.trans han) (fun ⟨j, j1, j2⟩ => hnot ⟨j, j1, by rw [← m7 j j1]; exact j2⟩) hlt
      obtain ⟨y1, y2⟩ := e106 I L _ hM g2
      have yf : FMp I (u2 (u2 I 106 (syP W H ho (Int32.ofNat v) (smV R A.1 W H s 0) (smV R A.1 W H s 1) len 0 false (I 106)).2) 72 (upd (I 72) 49 (Int32.ofNat (A.2.2.2.2.1 + 1)))) L (u2 L 109 (vp_updL (L 109) A.2.2.2.2.1 (Wd s))) := ⟨fun q q1 q2 _ _ => by rw [u2_ne q1, u2_ne q2], fun k _ k2 _ => by rw [u2_same, upd_ne k2], fun q hq => u2_ne hq⟩
      refine ⟨_, _, fun q => (nsp hsp q).elim, fun _ => mtl I L dp fu e _ _ hR yf hsay, ⟨yf.mw m1, ?_, ?_, ?_, ?_, ?_, ?_⟩, yf⟩
      · rw [u2_same, upd_ne (by decide)]; exact m2
      · rw [u2_same, upd_ne (by decide)]; exact m3
      · rw [u2_same, upd_same]
      · rw [u2_ne (by decide), u2_ne (by decide)]; exact m5
      · rw [u2_ne (by decide), u2_same]; exact g2
      · intro k hk
        rw [u2_same]
        show vp_updL (L 109) A.2.2.2.2.1 (Wd s) k = vp_updL A.2.2.2.2.2 A.2.2.2.2.1 (Wd s) k
        unfold vp_updL
        have hk' : k < A.2.2.2.2.1 + 1 := hk
        by_cases hks : k = A.2.2.2.2.1
        · rw [if_pos hks, if_pos hks]
        · rw [if_neg hks, if_neg hks]
          exact m7 k (by omega)
  · have hor : (syP W H ho (Int32.ofNat v) (smV R A.1 W H s 0) (smV R A.1 W H s 1) len 0 false A.2.1).1 = false ∨ ∃ k, k < A.2.2.2.2.1 ∧ A.2.2.2.2.2 k = Wd s := by
      by_cases q : ∃ k, k < A.2.2.2.2.1 ∧ A.2.2.2.2.2 k = Wd s
      · exact Or.inr q
      · refine Or.inl ?_
        cases hb : (syP W H ho (Int32.ofNat v) (smV R A.1 W H s 0) (smV R A.1 W H s 1) len 0 false A.2.1).1 with
        | false => rfl
        | true => exact absurd ⟨hb, q⟩ hcase
    refine ⟨(A.1, (syP W H ho (Int32.ofNat v) (smV R A.1 W H s 0) (smV R A.1 W H s 1) len 0 false A.2.1).2, A.2.2), 1, AOK_cn hA hcb, Nat.le_refl _, fun _ => by omega, fun _ => by omega, ?_, ?_⟩
    · intro I t hX hj hc ht
      obtain ⟨g1, g2⟩ := hag _ hX.2.2.2.2.2.2.2.2.1
      obtain ⟨y1, y2⟩ := xst I (A.1, (syP W H ho (Int32.ofNat v) (smV R A.1 W H s 0) (smV R A.1 W H s 1) len 0 false A.2.1).2, A.2.2) hX rfl rfl hsp g2 (by
        rw [g1]
        rcases hor with q | q
        · rw [q, if_neg (by decide)]; exact hX.2.2.2.2.2.2.1
        · split
          · exact BT_had hnb hX.2.2.2.2.2.2.1 q
          · exact hX.2.2.2.2.2.2.1)
      exact ⟨_, fun _ => xrun I t hX hj hc (by omega), fun q => (nsp hsp q).elim, y1, y2⟩
    · intro I L dp fu e hM hR hq hse he
      have hm := hM
      obtain ⟨m1, m2, m3, m4, m5, m6, m7⟩ := hm
      obtain ⟨g1, g2⟩ := hag _ m6
      have hsay := (M_says (b := b) (F := F) (E := E) (I := I) (L := L) (P := P) (nx := nx) (us := us) (t := Int32.ofNat v) (x := smV R A.1 W H s 0) (y := smV R A.1 W H s 1) (wd := Wd s) hK hr hs hl m1 (by rw [hR.1 6 (by decide) (by decide)]; exact h6) (by rw [hR.1 2 (by decide) (by decide)]; exact h2) hA.2.2.1 m4 (by rw [hR.2])).1 (by
        rcases hor with q | ⟨j, j1, j2⟩
        · exact Or.inl (g1.trans q)
        · exact Or.inr ⟨j, j1, by rw [m7 j j1]; exact j2⟩)
      obtain ⟨y1, y2⟩ := e106 I L _ hM g2
      exact ⟨_, L, fun q => (nsp hsp q).elim, fun _ => mtl I L dp fu e _ _ hR y2 hsay, y1, y2⟩
