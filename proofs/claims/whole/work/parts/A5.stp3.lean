/-! ===== drawing: the reference reads a step ===== -/
theorem dt_as {o : DOut} {k g : Nat → DSt → DOut} : dThen (dThen o k) g = dThen o fun i D => dThen (k i D) g := by
  cases o with
  | inl e => rfl
  | inr q => rfl
theorem dt_r {o : DOut} : (dThen o fun i D => .inr (i, D)) = o := by
  cases o with
  | inl e => rfl
  | inr q => rfl
section STP3
variable {b : Nat} {F : Nat → Option AE} {D E : Nat → Option KD} {I : Nat → Nat → Int32} {L : Nat → Nat → Int64} {P : Nat → Nat → Option Nat} {nx us : Nat}
theorem M_deach {z : ZX} {t : RW} {n nd la i bl s : Nat} {D : DSt} (hz : GZ b F z) (hn : n ≤ 400) (hB : BY t n) (hnd : 93 ≤ nd) (hP : P 72 40 = some nd) (hK : K12 E nd) (hLA : LA t n la) (hla : la ≤ 400) (hD : DB la i D) (hs : s < 40) (h : MD t n nd i bl D I L) : DSim b F E P nx us nd t n bl I L (f_X15_readEach z (ad b 72) (Int32.ofNat s) (lay b F E I L P nx us)) (dThen (dVar t n i s D) fun i D => dThen (dNeed t n i 9 D) fun i D => dThen (dSum t n i s 0 D) fun i D => dThen (dNeed t n i 10 D) fun i D => dSum t n i s 1 D) := by
  have hv := M_var (b := b) (F := F) (E := E) (P := P) (nx := nx) (us := us) h.1.1
  have st := M_stopF (b := b) (F := F) (E := E) (P := P) (nx := nx) (us := us) 1 h.1
  have hgA : gA 15 (lay b F E I L P nx us) (ad b 72) 40 = some (ad b nd) := by rw [gA_sP (by decide) (by decide) (by decide), hP]; rfl
  by_cases c : varV t n i = -1
  · have e : dVar t n i s D = .inl (1, i) := by unfold dVar; rw [if_pos c]
    rw [e]
    refine MD.stop hnd 1 h ?_
    simp (decide := true) only [f_X15_readEach, hv, c, st, isO_s, gI_s, gA_s, gL_s, pI_s, pZ_s, pL_s, aI_s, aL_s, aN_s, aQ_s, sI_s, sL_s, cr, LNs, Option.map_some, Option.map_none, Option.bind_some, b2, tr, lt, if_true, if_false, ckZ, X_within, M_in, inR_z, X_refuse, X_tell, X_deny, X_grant, M_refused, M_denied, M_done, M_granted, u2_same, u2_ne, u2_u2, upd_same, upd_ne, aW0, ixR_z, ixR_1, M_isWall, M_isPainter, M_isWork, X_has4, X_has10, X_at, or_false, false_or, or_true, true_or, not_true, not_false_iff, Option.isSome_some, isO_d, gI_d, gA_d, pI_d, ne_eq, not_false_eq_true, u2_hi, u2_hj, u2_dyn, u2_dynj, Nat.reduceAdd, mX_r, mX_rD, mX_rDj, mM_r, mX_u, mX_uM, mX_uD, mX_uDj, mM_u, mM_uX, mM_uD, mM_uDj, u2_dd, u2_d0, u2_0d]
  · have e : dVar t n i s D = .inr (i + 1, dR D 3 s (varV t n i)) := by unfold dVar; rw [if_neg c]
    have hb := dVar_b hLA hD e
    rw [e]
    have e1 : iN (Int32.ofNat s) 40 = some s := iN_oN hs (by omega)
    have hg : gA 12 (lay b F E I L P nx us) (ad b nd) 4 = some (ad b (nd + 3)) := by rw [gA_d hK.1 (by decide) rfl]; rfl
    have hss : sI 0 (lay b F E I L P nx us) (ad b (nd + 3)) (Int32.ofNat s) (varV t n i) = some (lay b F E (u2 I (nd + 3) (upd (I (nd + 3)) s (varV t n i))) L P nx us) := by rw [sI_d (hK.2.1 3 (by decide) (by decide)) (by decide), e1]; rfl
    have h2 := h.row (j := 3) (k := s) (x := varV t n i) hnd (by decide) (by decide)
    have k2 := varV_2 c
    obtain ⟨r, l, m1, m2, m3⟩ := MD.nxt (b := b) (F := F) (E := E) (P := P) (nx := nx) (us := us) hn hB hnd h2 (by omega) (by omega) (cm_k (by omega))
    refine dsim_f ((FDd_r hnd (by decide)).trans m2) ?_
    have hrun : f_X15_readEach z (ad b 72) (Int32.ofNat s) (lay b F E I L P nx us) = (b2 (f_X15_needWord z (ad b 72) (z.1 21) (lay b F E (u2 (u2 I (nd + 3) (upd (I (nd + 3)) s (varV t n i))) 72 r) (u2 L 72 l) P nx us)) fun q9 h10 => tr q9 (b2 (f_X15_readSum z (ad b 72) (Int32.ofNat s) 0 h10) fun q12 h13 => tr q12 (b2 (f_X15_needWord z (ad b 72) (z.1 22) h13) fun q15 h16 => tr q15 (b2 (f_X15_readSum z (ad b 72) (Int32.ofNat s) 1 h16) fun q18 h19 => tr q18 (some (none, h19)) fun a20 => some (some a20, h19)) fun a17 => some (some a17, h16)) fun a14 => some (some a14, h13)) fun a11 => some (some a11, h10)) := by
      simp (decide := true) only [f_X15_readEach, hv, c, hgA, hg, hss, m1, isO_s, gI_s, gL_s, pI_s, pZ_s, pL_s, aI_s, aL_s, aN_s, aQ_s, sI_s, sL_s, cr, LNs, Option.map_some, Option.map_none, Option.bind_some, b2, tr, lt, if_true, if_false, ckZ, X_within, M_in, inR_z, X_refuse, X_tell, X_deny, X_grant, M_refused, M_denied, M_done, M_granted, u2_same, u2_ne, u2_u2, upd_same, upd_ne, aW0, ixR_z, ixR_1, M_isWall, M_isPainter, M_isWork, X_has4, X_has10, X_at, or_false, false_or, or_true, true_or, not_true, not_false_iff, Option.isSome_some, isO_d, gI_d, gA_d, pI_d, ne_eq, not_false_eq_true, u2_hi, u2_hj, u2_dyn, u2_dynj, Nat.reduceAdd, mX_r, mX_rD, mX_rDj, mM_r, mX_u, mX_uM, mX_uD, mX_uDj, mM_u, mM_uX, mM_uD, mM_uDj, u2_dd, u2_d0, u2_0d]
    rw [hrun]
    show DSim _ _ _ _ _ _ _ _ _ _ _ _ _ (dThen (dNeed t n (i + 1) 9 (dR D 3 s (varV t n i))) _)
    refine dsim_b (M_dneed 9 21 hz hn hB hnd (by decide) rfl m3) ?_
    intro i2 D2 I2 L2 q2 _ g2
    have b2' := dNeed_b hLA hb.1 q2
    refine dsim_b (M_dsum (k := 0) hz hn hB hnd hP hK hLA hla b2'.1 hs (by decide) g2) ?_
    intro i3 D3 I3 L3 q3 _ g3
    have b3 := dSum_b hLA b2'.1 q3
    refine dsim_b (M_dneed 10 22 hz hn hB hnd (by decide) rfl g3) ?_
    intro i4 D4 I4 L4 q4 _ g4
    have b4 := dNeed_b hLA b3.1 q4
    have := dsim_b (b := b) (F := F) (E := E) (P := P) (nx := nx) (us := us) (r2 := fun h => some (none, h)) (k := fun i D => .inr (i, D)) (M_dsum (k := 1) hz hn hB hnd hP hK hLA hla b4.1 hs (by decide) g4) (by
      intro i5 D5 I5 L5 _ _ g5
      exact ⟨none, I5, L5, rfl, FDd.refl, rfl, g5⟩)
    rw [dt_r] at this
    exact this
theorem M_dtest {z : ZX} {t : RW} {n nd la i bl s : Nat} {D : DSt} (hz : GZ b F z) (hn : n ≤ 400) (hB : BY t n) (hnd : 93 ≤ nd) (hP : P 72 40 = some nd) (hK : K12 E nd) (hLA : LA t n la) (hla : la ≤ 400) (hD : DB la i D) (hs : s < 40) (h : MD t n nd i bl D I L) : DSim b F E P nx us nd t n bl I L (f_X15_readTest z (ad b 72) (Int32.ofNat s) (lay b F E I L P nx us)) (dThen (dSum t n i s 0 D) fun i D => dThen (dHow t n i s D) fun i D => dSum t n i s 1 D) := by
  have hgA : ∀ (J : Nat → Nat → Int32) (M : Nat → Nat → Int64), gA 15 (lay b F E J M P nx us) (ad b 72) 40 = some (ad b nd) := fun J M => by rw [gA_sP (by decide) (by decide) (by decide), hP]; rfl
  have e1 : iN (Int32.ofNat s) 40 = some s := iN_oN hs (by omega)
  have e10 : ((1 : Int32) = 0) = False := by decide
  unfold f_X15_readTest
  rw [isO_s (by decide), if_pos rfl]
  refine dsim_b (M_dsum (k := 0) hz hn hB hnd hP hK hLA hla hD hs (by decide) h) ?_
  intro i1 D1 J M q1 _ g1
  have b1 := dSum_b hLA hD q1
  have hg : ∀ (J : Nat → Nat → Int32), gA 12 (lay b F E J M P nx us) (ad b nd) 5 = some (ad b (nd + 4)) := fun J => by rw [gA_d hK.1 (by decide) rfl]; rfl
  have c60 := M_is (b := b) (F := F) (E := E) (P := P) (nx := nx) (us := us) 60 (fun _ => by decide) g1.1.1
  have c61 := M_is (b := b) (F := F) (E := E) (P := P) (nx := nx) (us := us) 61 (fun _ => by decide) g1.1.1
  have c62 := M_is (b := b) (F := F) (E := E) (P := P) (nx := nx) (us := us) 62 (fun _ => by decide) g1.1.1
  have hss : ∀ x, sI 0 (lay b F E J M P nx us) (ad b (nd + 4)) (Int32.ofNat s) x = some (lay b F E (u2 J (nd + 4) (upd (J (nd + 4)) s x)) M P nx us) := fun x => by rw [sI_d (hK.2.1 4 (by decide) (by decide)) (by decide), e1]; rfl
  have haI : ∀ x, aI 0 (lay b F E (u2 J (nd + 4) (upd (J (nd + 4)) s x)) M P nx us) (ad b (nd + 4)) (Int32.ofNat s) = some x := fun x => by rw [aI_d (hK.2.1 4 (by decide) (by decide)) (by decide), e1, u2_same]; show some (upd _ s x s) = _; rw [upd_same]
  -- a sign is there
  have good : ∀ (c x : Int32), isC t n i1 c → c ≠ 44 → c ≠ 37 → x ≠ -1 → dHow t n i1 s D1 = .inr (i1 + 1, dR D1 4 s x) → DSim b F E P nx us nd t n bl J M (f_X15_readTest_54 z (ad b 72) (Int32.ofNat s) x (Int32.ofNat s) (ad b (nd + 4)) (lay b F E J M P nx us)) (dThen (dHow t n i1 s D1) fun i D => dSum t n i s 1 D) := by
    intro c x hc h44 h37 hx hH
    have bh := dHow_b hLA b1.1 hH
    rw [hH]
    have h2 := g1.row (j := 4) (k := s) (x := x) hnd (by decide) (by decide)
    obtain ⟨r, l, m1, m2, m3⟩ := MD.nxt (b := b) (F := F) (E := E) (P := P) (nx := nx) (us := us) hn hB hnd h2 (by rw [hc.1]; decide) (by rw [hc.1]; decide) (cm_C hc h44 h37)
    refine dsim_f ((FDd_r hnd (by decide)).trans m2) ?_
    have hrun : f_X15_readTest_54 z (ad b 72) (Int32.ofNat s) x (Int32.ofNat s) (ad b (nd + 4)) (lay b F E J M P nx us) = (b2 (f_X15_readSum z (ad b 72) (Int32.ofNat s) 1 (lay b F E (u2 (u2 J (nd + 4) (upd (J (nd + 4)) s x)) 72 r) (u2 M 72 l) P nx us)) fun q6 h7 => tr q6 (some (none, h7)) fun a8 => some (some a8, h7)) := by
      unfold f_X15_readTest_54
      simp only [hss, hgA, hg, haI, hx, m1, if_false, Option.bind_some]
    rw [hrun]
    have := dsim_b (b := b) (F := F) (E := E) (P := P) (nx := nx) (us := us) (r2 := fun h => some (none, h)) (k := fun i D => .inr (i, D)) (M_dsum (k := 1) hz hn hB hnd hP hK hLA hla bh.1 hs (by decide) m3) (by
      intro i5 D5 I5 L5 _ _ g5
      exact ⟨none, I5, L5, rfl, FDd.refl, rfl, g5⟩)
    rw [dt_r] at this
    exact this
  simp only [hgA, hg, Option.bind_some]
  by_cases q60 : isC t n i1 60
  · rw [if_pos q60] at c60
    have := good 60 0 q60 (by decide) (by decide) (by decide) (by unfold dHow; rw [if_pos q60])
    simp only [c60, b2, e10, if_false]
    exact this
  · rw [if_neg q60] at c60
    by_cases q61 : isC t n i1 61
    · rw [if_pos q61] at c61
      have := good 61 1 q61 (by decide) (by decide) (by decide) (by unfold dHow; rw [if_neg q60, if_pos q61])
      simp only [c60, c61, b2, e10, if_true, if_false]
      exact this
    · rw [if_neg q61] at c61
      by_cases q62 : isC t n i1 62
      · rw [if_pos q62] at c62
        have := good 62 2 q62 (by decide) (by decide) (by decide) (by unfold dHow; rw [if_neg q60, if_neg q61, if_pos q62])
        simp only [c60, c61, c62, b2, e10, if_true, if_false]
        exact this
      · rw [if_neg q62] at c62
        have hH : dHow t n i1 s D1 = .inl (1, i1) := by unfold dHow; rw [if_neg q60, if_neg q61, if_neg q62]
        rw [hH]
        simp only [c60, c61, c62, b2, if_true]
        have h2 := g1.row (j := 4) (k := s) (x := -1) hnd (by decide) (by decide)
        have st := M_stopF (b := b) (F := F) (E := E) (P := P) (nx := nx) (us := us) 1 h2.1
        refine dsim_f (FDd_r hnd (by decide)) (MD.stop hnd 1 h2 ?_)
        unfold f_X15_readTest_54
        simp only [hss, hgA, hg, haI, st, b2, tr, if_true, Option.bind_some]
/-- the end of a step -/
theorem M_dend {z : ZX} {t : RW} {n nd i bl s : Nat} {D : DSt} {kX : Nat → AH → Option (Option Nat × AH)} (hnd : 93 ≤ nd) (hP : P 72 40 = some nd) (hK : K12 E nd) (hs : s < 40) (h : MD t n nd i bl D I L) : DSim b F E P nx us nd t n bl I L (f_X15_readStep_288 z kX (ad b 72) (Int32.ofNat s) (lay b F E I L P nx us)) (.inr (i, dEnd D s)) := by
  have hgA : gA 15 (lay b F E I L P nx us) (ad b 72) 40 = some (ad b nd) := by rw [gA_sP (by decide) (by decide) (by decide), hP]; rfl
  have e1 : iN (Int32.ofNat s) 40 = some s := iN_oN hs (by omega)
  have hg : gA 12 (lay b F E I L P nx us) (ad b nd) 6 = some (ad b (nd + 5)) := by rw [gA_d hK.1 (by decide) rfl]; rfl
  have hgi : gI 12 (lay b F E I L P nx us) (ad b nd) 0 = some (Int32.ofNat D.1) := by rw [gI_d hK.1 (by decide), h.2.2.2.2.1]
  have hss : sI 0 (lay b F E I L P nx us) (ad b (nd + 5)) (Int32.ofNat s) (Int32.ofNat D.1) = some (lay b F E (u2 I (nd + 5) (upd (I (nd + 5)) s (Int32.ofNat D.1))) L P nx us) := by rw [sI_d (hK.2.1 5 (by decide) (by decide)) (by decide), e1]; rfl
  refine ⟨none, _, L, ?_, FDd_r hnd (by decide), rfl, h.row (j := 5) hnd (by decide) (by decide)⟩
  unfold f_X15_readStep_288
  simp only [hgA, hg, hgi, hss, Option.bind_some]
/-- the body of a step -/
theorem M_dbody {z : ZX} {t : RW} {n nd la i bl : Nat} {D : DSt} {kX : Nat → AH → Option (Option Nat × AH)} {txt : Nat → DSt → DOut} (hn : n ≤ 400) (hB : BY t n) (hnd : 93 ≤ nd) (hLA : LA t n la) (hbl : bl ≤ 6) (hD : DB la i D) (h : MD t n nd i bl D I L) (hk : bl < 6 → ∀ I' L', MD t n nd (i + 1) (bl + 1) D I' L' → isC t n i 91 → DSim b F E P nx us nd t n (bl + 1) I' L' (kX (ad b 72) (lay b F E I' L' P nx us)) (txt (i + 1) D)) : DSim b F E P nx us nd t n bl I L (f_X15_readBody z kX (ad b 72) (lay b F E I L P nx us)) (if ¬ isC t n i 91 then .inl (1, i) else if bl = 6 then .inl (4, i) else dThen (txt (i + 1) D) fun i2 D2 => if isC t n i2 93 then .inr (i2 + 1, D2) else .inl (1, i2)) := by
  have hc := M_is (b := b) (F := F) (E := E) (P := P) (nx := nx) (us := us) 91 (fun _ => by decide) h.1.1
  have st := fun c => M_stopF (b := b) (F := F) (E := E) (P := P) (nx := nx) (us := us) c h.1
  have e10 : ((1 : Int32) = 0) = False := by decide
  by_cases c91 : isC t n i 91
  · rw [if_pos c91] at hc
    rw [if_neg (fun q => q c91)]
    have h33 := h.2.1
    by_cases h6 : bl = 6
    · rw [if_pos h6]
      have e6 : (Int32.ofNat bl = 6) = True := by rw [h6]; decide
      refine MD.stop hnd 4 h ?_
      simp (decide := true) only [f_X15_readBody, hc, e10, h33, e6, st 4, isO_s, gI_s, gA_s, gL_s, pI_s, pZ_s, pL_s, aI_s, aL_s, aN_s, aQ_s, sI_s, sL_s, cr, LNs, Option.map_some, Option.map_none, Option.bind_some, b2, tr, lt, if_true, if_false, ckZ, X_within, M_in, inR_z, X_refuse, X_tell, X_deny, X_grant, M_refused, M_denied, M_done, M_granted, u2_same, u2_ne, u2_u2, upd_same, upd_ne, aW0, ixR_z, ixR_1, M_isWall, M_isPainter, M_isWork, X_has4, X_has10, X_at, or_false, false_or, or_true, true_or, not_true, not_false_iff, Option.isSome_some, isO_d, gI_d, gA_d, pI_d, ne_eq, not_false_eq_true, u2_hi, u2_hj, u2_dyn, u2_dynj, Nat.reduceAdd, mX_r, mX_rD, mX_rDj, mM_r, mX_u, mX_uM, mX_uD, mX_uDj, mM_u, mM_uX, mM_uD, mM_uDj, u2_dd, u2_d0, u2_0d]
    · rw [if_neg h6]
      have e6 : (Int32.ofNat bl = 6) = False := oN_ne (c := 6) h6 (by omega) (by omega)
      have up33 : ∀ (J : Nat → Nat → Int32) (M : Nat → Nat → Int64) (j x y : Nat) (C : DSt), MD t n nd j x C J M → MD t n nd j y C (u2 J 72 (upd (J 72) 33 (Int32.ofNat y))) M := by
        intro J M j x y C hM
        obtain ⟨⟨q1, q2, q3, q4⟩, a1, a2, a3, a4, a5, a6, a7⟩ := hM
        refine ⟨⟨?_, ?_, ?_, ?_⟩, ?_, ?_, ?_, ?_, ?_, ?_, a7⟩
        · rw [u2_same]; exact TM_up q1 (by decide) (by decide) (by decide) (by decide) (by decide) (by decide)
        · simp (decide := true) only [u2_same, u2_ne, u2_u2, upd_same, upd_ne, mE, u2_dyn, dyn_u2, dyn_hi, u2_hi, u2_hj, u2_dynj, u2_dd, u2_d0, u2_0d]; exact q2
        · rw [u2_ne (by decide)]; exact q3
        · simp (decide := true) only [u2_same, u2_ne, u2_u2, upd_same, upd_ne, mE, u2_dyn, dyn_u2, dyn_hi, u2_hi, u2_hj, u2_dynj, u2_dd, u2_d0, u2_0d]; exact q4
        · simp (decide := true) only [u2_same, u2_ne, u2_u2, upd_same, upd_ne, mE, u2_dyn, dyn_u2, dyn_hi, u2_hi, u2_hj, u2_dynj, u2_dd, u2_d0, u2_0d]
        · simp (decide := true) only [u2_same, u2_ne, u2_u2, upd_same, upd_ne, mE, u2_dyn, dyn_u2, dyn_hi, u2_hi, u2_hj, u2_dynj, u2_dd, u2_d0, u2_0d]; exact a2
        · simp (decide := true) only [u2_same, u2_ne, u2_u2, upd_same, upd_ne, mE, u2_dyn, dyn_u2, dyn_hi, u2_hi, u2_hj, u2_dynj, u2_dd, u2_d0, u2_0d]; exact a3
        · rw [u2_ne (by omega)]; exact a4
        · rw [u2_ne (by omega)]; exact a5
        · intro j j1 j2; rw [u2_ne (by omega)]; exact a6 j j1 j2
      have f33 : ∀ (J : Nat → Nat → Int32) (M : Nat → Nat → Int64) (x : Int32), FDd nd J (u2 J 72 (upd (J 72) 33 x)) M M := fun J M x => ⟨fun c c1 _ _ => u2_ne c1, fun j hj => by rw [u2_same, upd_ne (by omega)], fun _ _ _ => rfl, fun _ _ => rfl⟩
      have h1 := up33 I L i bl (bl + 1) D h
      obtain ⟨r, l, m1, m2, m3⟩ := MD.nxt (b := b) (F := F) (E := E) (P := P) (nx := nx) (us := us) hn hB hnd h1 (by rw [c91.1]; decide) (by rw [c91.1]; decide) (cm_C c91 (by decide) (by decide))
      obtain ⟨o, J, M, z1, z2, z3⟩ := hk (by omega) _ _ m3 c91
      have hf := ((f33 I L (Int32.ofNat (bl + 1))).trans m2).trans z2
      have hrun : f_X15_readBody z kX (ad b 72) (lay b F E I L P nx us) = (tr o (b2 (f_X15_need (ad b 72) 93 (lay b F E J M P nx us)) fun q10 h11 => tr q10 ((gI 15 h11 (ad b 72) 33).bind fun x13 => (pI 15 h11 (ad b 72) 33 (x13 - 1)).bind fun h14 => some (none, h14)) fun a12 => some (some a12, h11)) fun a9 => some (some a9, lay b F E J M P nx us)) := by
        simp (decide := true) only [f_X15_readBody, hc, e10, h33, e6, oN_succ, m1, z1, isO_s, gI_s, gA_s, gL_s, pI_s, pZ_s, pL_s, aI_s, aL_s, aN_s, aQ_s, sI_s, sL_s, cr, LNs, Option.map_some, Option.map_none, Option.bind_some, b2, tr, lt, if_true, if_false, ckZ, X_within, M_in, inR_z, X_refuse, X_tell, X_deny, X_grant, M_refused, M_denied, M_done, M_granted, u2_same, u2_ne, upd_same, upd_ne, aW0, ixR_z, ixR_1, M_isWall, M_isPainter, M_isWork, X_has4, X_has10, X_at, or_false, false_or, or_true, true_or, not_true, not_false_iff, Option.isSome_some, isO_d, gI_d, gA_d, pI_d, ne_eq, not_false_eq_true, u2_hi, u2_hj, u2_dyn, u2_dynj, Nat.reduceAdd, mX_r, mX_rD, mX_rDj, mM_r, mX_u, mX_uM, mX_uD, mX_uDj, mM_u, mM_uX, mM_uD, mM_uDj, u2_dd, u2_d0, u2_0d]
      rw [hrun]
      generalize txt (i + 1) D = out at z3
      cases out with
      | inl e =>
        obtain ⟨c, j⟩ := e
        obtain ⟨rfl, z4⟩ := z3
        exact ⟨_, J, M, rfl, hf, rfl, z4⟩
      | inr q =>
        obtain ⟨i2, D2⟩ := q
        obtain ⟨rfl, z4⟩ := z3
        have hc93 := M_is (b := b) (F := F) (E := E) (P := P) (nx := nx) (us := us) 93 (fun _ => by decide) z4.1.1
        show DSim b F E P nx us nd t n bl I L (b2 (f_X15_need (ad b 72) 93 (lay b F E J M P nx us)) fun q10 h11 => tr q10 ((gI 15 h11 (ad b 72) 33).bind fun x13 => (pI 15 h11 (ad b 72) 33 (x13 - 1)).bind fun h14 => some (none, h14)) fun a12 => some (some a12, h11)) (if isC t n i2 93 then .inr (i2 + 1, D2) else .inl (1, i2))
        by_cases c93 : isC t n i2 93
        · rw [if_pos c93] at hc93 ⊢
          obtain ⟨r2, l2, n1, n2, n3⟩ := MD.nxt (b := b) (F := F) (E := E) (P := P) (nx := nx) (us := us) hn hB hnd z4 (by rw [c93.1]; decide) (by rw [c93.1]; decide) (cm_C c93 (by decide) (by decide))
          have h33' : u2 J 72 r2 72 33 = Int32.ofNat (bl + 1) := n3.2.1
          rw [u2_same] at h33'
          refine ⟨none, u2 (u2 J 72 r2) 72 (upd (u2 J 72 r2 72) 33 (Int32.ofNat bl)), u2 M 72 l2, ?_, (hf.trans n2).trans (f33 _ _ _), rfl, up33 _ _ _ _ _ _ n3⟩
          simp (decide := true) only [f_X15_need, hc93, e10, n1, h33', oN_pred, isO_s, gI_s, gA_s, gL_s, pI_s, pZ_s, pL_s, aI_s, aL_s, aN_s, aQ_s, sI_s, sL_s, cr, LNs, Option.map_some, Option.map_none, Option.bind_some, b2, tr, lt, if_true, if_false, ckZ, X_within, M_in, inR_z, X_refuse, X_tell, X_deny, X_grant, M_refused, M_denied, M_done, M_granted, u2_same, u2_ne, u2_u2, upd_same, upd_ne, aW0, ixR_z, ixR_1, M_isWall, M_isPainter, M_isWork, X_has4, X_has10, X_at, or_false, false_or, or_true, true_or, not_true, not_false_iff, Option.isSome_some, isO_d, gI_d, gA_d, pI_d, ne_eq, not_false_eq_true, u2_hi, u2_hj, u2_dyn, u2_dynj, Nat.reduceAdd, mX_r, mX_rD, mX_rDj, mM_r, mX_u, mX_uM, mX_uD, mX_uDj, mM_u, mM_uX, mM_uD, mM_uDj, u2_dd, u2_d0, u2_0d]
        · rw [if_neg c93] at hc93 ⊢
          have st2 := M_stopF (b := b) (F := F) (E := E) (P := P) (nx := nx) (us := us) 1 z4.1
          refine ⟨some (ad b 90), sF J 1 (pl t n i2), M, ?_, hf.trans (FDd_S hnd), rfl, sF_67⟩
          simp (decide := true) only [f_X15_need, hc93, st2, isO_s, gI_s, gA_s, gL_s, pI_s, pZ_s, pL_s, aI_s, aL_s, aN_s, aQ_s, sI_s, sL_s, cr, LNs, Option.map_some, Option.map_none, Option.bind_some, b2, tr, lt, if_true, if_false, ckZ, X_within, M_in, inR_z, X_refuse, X_tell, X_deny, X_grant, M_refused, M_denied, M_done, M_granted, u2_same, u2_ne, u2_u2, upd_same, upd_ne, aW0, ixR_z, ixR_1, M_isWall, M_isPainter, M_isWork, X_has4, X_has10, X_at, or_false, false_or, or_true, true_or, not_true, not_false_iff, Option.isSome_some, isO_d, gI_d, gA_d, pI_d, ne_eq, not_false_eq_true, u2_hi, u2_hj, u2_dyn, u2_dynj, Nat.reduceAdd, mX_r, mX_rD, mX_rDj, mM_r, mX_u, mX_uM, mX_uD, mX_uDj, mM_u, mM_uX, mM_uD, mM_uDj, u2_dd, u2_d0, u2_0d]
  · rw [if_neg c91] at hc
    rw [if_pos c91]
    refine MD.stop hnd 1 h ?_
    simp (decide := true) only [f_X15_readBody, hc, st 1, isO_s, gI_s, gA_s, gL_s, pI_s, pZ_s, pL_s, aI_s, aL_s, aN_s, aQ_s, sI_s, sL_s, cr, LNs, Option.map_some, Option.map_none, Option.bind_some, b2, tr, lt, if_true, if_false, ckZ, X_within, M_in, inR_z, X_refuse, X_tell, X_deny, X_grant, M_refused, M_denied, M_done, M_granted, u2_same, u2_ne, u2_u2, upd_same, upd_ne, aW0, ixR_z, ixR_1, M_isWall, M_isPainter, M_isWork, X_has4, X_has10, X_at, or_false, false_or, or_true, true_or, not_true, not_false_iff, Option.isSome_some, isO_d, gI_d, gA_d, pI_d, ne_eq, not_false_eq_true, u2_hi, u2_hj, u2_dyn, u2_dynj, Nat.reduceAdd, mX_r, mX_rD, mX_rDj, mM_r, mX_u, mX_uM, mX_uD, mX_uDj, mM_u, mM_uX, mM_uD, mM_uDj, u2_dd, u2_d0, u2_0d]
end STP3
