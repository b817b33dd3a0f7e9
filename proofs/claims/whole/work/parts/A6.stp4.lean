/-! ===== drawing: the reference reads a text ===== -/
def dSums (t : RW) (n s : Nat) (tl : Nat → DSt → DOut) : Nat → Nat → Nat → DSt → DOut
  | 0, _, i, D => tl i D
  | m + 1, k, i, D => dThen (dSum t n i s k D) fun i D => dSums t n s tl m (k + 1) i D
def muD (la m i : Nat) : Nat := 2 * (la - i) + (if m = 0 then 2 else 1)
section STP4
variable {b : Nat} {F : Nat → Option AE} {D E : Nat → Option KD} {I : Nat → Nat → Int32} {L : Nat → Nat → Int64} {P : Nat → Nat → Option Nat} {nx us : Nat}
theorem M_dsums {z : ZX} {t : RW} {n nd la bl s N : Nat} {w : Int32} {kX : Nat → AH → Option (Option Nat × AH)} {tl : Nat → DSt → DOut} (hz : GZ b F z) (hn : n ≤ 400) (hB : BY t n) (hnd : 93 ≤ nd) (hP : P 72 40 = some nd) (hK : K12 E nd) (hLA : LA t n la) (hla : la ≤ 400) (hs : s < 40) (hN : N ≤ 4) (st0 : Nat) (hst : ∀ (i : Nat) (D : DSt) (I : Nat → Nat → Int32) (L : Nat → Nat → Int64) (fu i0 : Nat), i0 ≤ i → D.1 = st0 → DB la i D → MD t n nd i bl D I L → DSim b F E P nx us nd t n bl I L (f_X15_readStep_240 z kX (fu + 1) (ad b 72) w (Int32.ofNat s) (Int32.ofNat N) (Int32.ofNat N) (lay b F E I L P nx us)) (tl i D)) : ∀ (m k : Nat), k + m = N → ∀ (fu i : Nat) (D : DSt) (I : Nat → Nat → Int32) (L : Nat → Nat → Int64), m < fu → D.1 = st0 → DB la i D → MD t n nd i bl D I L → DSim b F E P nx us nd t n bl I L (f_X15_readStep_240 z kX fu (ad b 72) w (Int32.ofNat s) (Int32.ofNat N) (Int32.ofNat k) (lay b F E I L P nx us)) (dSums t n s tl m k i D) := by
  intro m
  induction m with
  | zero =>
    intro k hk fu i D I L hf h0 hD h
    obtain ⟨fu, rfl⟩ : ∃ e, fu = e + 1 := ⟨fu - 1, by omega⟩
    have : k = N := by omega
    subst this
    exact hst i D I L fu i (Nat.le_refl _) h0 hD h
  | succ m ih =>
    intro k hk fu i D I L hf h0 hD h
    obtain ⟨fu, rfl⟩ : ∃ e, fu = e + 1 := ⟨fu - 1, by omega⟩
    have e := oN_leF (show k < N by omega) (by omega)
    have hrun : f_X15_readStep_240 z kX (fu + 1) (ad b 72) w (Int32.ofNat s) (Int32.ofNat N) (Int32.ofNat k) (lay b F E I L P nx us) = (b2 (f_X15_readSum z (ad b 72) (Int32.ofNat s) (Int32.ofNat k) (lay b F E I L P nx us)) fun q5 h6 => tr q5 (f_X15_readStep_240 z kX fu (ad b 72) w (Int32.ofNat s) (Int32.ofNat N) (Int32.ofNat (k + 1)) h6) fun a7 => some (some a7, h6)) := by
      rw [f_X15_readStep_240, if_neg (by rw [e]; exact id), oN_succ]
    rw [hrun]
    refine dsim_b (M_dsum hz hn hB hnd hP hK hLA hla hD hs (by omega) h) ?_
    intro i1 D1 J M q1 _ g1
    have b1 := dSum_b hLA hD q1
    exact ih (k + 1) (by omega) fu i1 D1 J M (by omega) (b1.2.2.trans h0) b1.1 g1
theorem M_dword {z : ZX} {t : RW} {n nd la i bl s : Nat} {D : DSt} {kX : Nat → AH → Option (Option Nat × AH)} {tl : Nat → DSt → DOut} (hn : n ≤ 400) (hB : BY t n) (hnd : 93 ≤ nd) (hP : P 72 40 = some nd) (hK : K12 E nd) (hs : s < 40) (h : MD t n nd i bl D I L) (ht : ∀ D' I' L', dWrd t n i s D = .inr (i + 1, D') → MD t n nd (i + 1) bl D' I' L' → DSim b F E P nx us nd t n bl I' L' (f_X15_readStep_209 z kX (ad b 72) 2 (Int32.ofNat s) (lay b F E I' L' P nx us)) (tl (i + 1) D')) : DSim b F E P nx us nd t n bl I L (f_X15_readStep_160 z kX (ad b 72) 2 (Int32.ofNat s) (lay b F E I L P nx us)) (dThen (dWrd t n i s D) tl) := by
  have r2 := (M_srt h.1.1).1
  have st := M_stopF (b := b) (F := F) (E := E) (P := P) (nx := nx) (us := us) 1 h.1
  by_cases c2 : kd t n (pl t n i) = 2
  · have r2T : (I 72 28 = 2) = True := by rw [r2]; exact eq_true c2
    have e : dWrd t n i s D = .inr (i + 1, dR (dW D s (vl t n (pl t n i))) 6 s (Int32.ofNat (en t n (pl t n i) - pl t n i))) := by unfold dWrd; rw [if_neg (fun q => q c2)]
    obtain ⟨-, hv, h32, -⟩ := h.1.1.2.2.2.1 c2
    have e1 : iN (Int32.ofNat s) 40 = some s := iN_oN hs (by omega)
    have hgA : ∀ (M : Nat → Nat → Int64), gA 15 (lay b F E I M P nx us) (ad b 72) 40 = some (ad b nd) := fun M => by rw [gA_sP (by decide) (by decide) (by decide), hP]; rfl
    have hg12 : gA 12 (lay b F E I L P nx us) (ad b nd) 12 = some (ad b (nd + 11)) := by rw [gA_d hK.1 (by decide) rfl]; rfl
    have hgL : gL 15 (lay b F E I L P nx us) (ad b 72) 37 = some (vl t n (pl t n i)) := by rw [gL_s (by decide) (by decide), hv]
    have hsL : sL (lay b F E I L P nx us) (ad b (nd + 11)) (Int32.ofNat s) (vl t n (pl t n i)) = some (lay b F E I (u2 L (nd + 11) (vp_updL (L (nd + 11)) s (vl t n (pl t n i)))) P nx us) := by
      have := sL_lay (b := b) (F := F) (D := kdf E) (I := I) (L := L) (P := P) (nx := nx) (us := us) (c := nd + 11) (n := 40) (i := Int32.ofNat s) (x := vl t n (pl t n i)) hK.2.2.2.2.2.2
      rw [this, e1]
      rfl
    have hg7 : gA 12 (lay b F E I (u2 L (nd + 11) (vp_updL (L (nd + 11)) s (vl t n (pl t n i)))) P nx us) (ad b nd) 7 = some (ad b (nd + 6)) := by rw [gA_d hK.1 (by decide) rfl]; rfl
    have hss : sI 0 (lay b F E I (u2 L (nd + 11) (vp_updL (L (nd + 11)) s (vl t n (pl t n i)))) P nx us) (ad b (nd + 6)) (Int32.ofNat s) (Int32.ofNat (en t n (pl t n i) - pl t n i)) = some (lay b F E (u2 I (nd + 6) (upd (I (nd + 6)) s (Int32.ofNat (en t n (pl t n i) - pl t n i)))) (u2 L (nd + 11) (vp_updL (L (nd + 11)) s (vl t n (pl t n i)))) P nx us) := by rw [sI_d (hK.2.1 6 (by decide) (by decide)) (by decide), e1]; rfl
    have hMW : MD t n nd i bl (dW D s (vl t n (pl t n i))) I (u2 L (nd + 11) (vp_updL (L (nd + 11)) s (vl t n (pl t n i)))) := by
      obtain ⟨⟨q1, q2⟩, a1, a2, a3, a4, a5, a6, a7⟩ := h
      refine ⟨⟨by rw [u2_ne (by omega)]; exact q1, q2⟩, a1, a2, a3, a4, a5, a6, ?_⟩
      rw [u2_same, a7]
      rfl
    have h2 := hMW.row (j := 6) (k := s) (x := Int32.ofNat (en t n (pl t n i) - pl t n i)) hnd (by decide) (by decide)
    obtain ⟨r, l, m1, m2, m3⟩ := MD.nxt (b := b) (F := F) (E := E) (P := P) (nx := nx) (us := us) hn hB hnd h2 (by omega) (by omega) (cm_k (by omega))
    have hfW : FDd nd I I L (u2 L (nd + 11) (vp_updL (L (nd + 11)) s (vl t n (pl t n i)))) := ⟨fun _ _ _ _ => rfl, fun _ _ => rfl, fun c _ c2 => u2_ne c2, fun j _ => by rw [u2_ne (by omega)]⟩
    rw [e]
    refine dsim_f ((hfW.trans (FDd_r hnd (by decide))).trans m2) ?_
    have hrun : f_X15_readStep_160 z kX (ad b 72) 2 (Int32.ofNat s) (lay b F E I L P nx us) = f_X15_readStep_209 z kX (ad b 72) 2 (Int32.ofNat s) (lay b F E (u2 (u2 I (nd + 6) (upd (I (nd + 6)) s (Int32.ofNat (en t n (pl t n i) - pl t n i)))) 72 r) (u2 (u2 L (nd + 11) (vp_updL (L (nd + 11)) s (vl t n (pl t n i)))) 72 l) P nx us) := by
      simp (decide := true) only [f_X15_readStep_160, r2T, hgA, hg12, hgL, hsL, hg7, h32, hss, m1, isO_s, gI_s, pI_s, pZ_s, pL_s, aI_s, aL_s, aN_s, aQ_s, sI_s, cr, LNs, Option.map_some, Option.map_none, Option.bind_some, b2, tr, lt, if_true, if_false, ckZ, X_within, M_in, inR_z, X_refuse, X_tell, X_deny, X_grant, M_refused, M_denied, M_done, M_granted, u2_same, u2_ne, u2_u2, upd_same, upd_ne, aW0, ixR_z, ixR_1, M_isWall, M_isPainter, M_isWork, X_has4, X_has10, X_at, or_false, false_or, or_true, true_or, not_true, not_false_iff, Option.isSome_some, isO_d, gI_d, gA_d, pI_d, ne_eq, not_false_eq_true, u2_hi, u2_hj, u2_dyn, u2_dynj, Nat.reduceAdd, mX_r, mX_rD, mX_rDj, mM_r, mX_u, mX_uM, mX_uD, mX_uDj, mM_u, mM_uX, mM_uD, mM_uDj, u2_dd, u2_d0, u2_0d]
    rw [hrun]
    exact ht _ _ _ e m3
  · have r2T : (I 72 28 = 2) = False := by rw [r2]; exact eq_false c2
    have e : dWrd t n i s D = .inl (1, i) := by unfold dWrd; rw [if_pos c2]
    rw [e]
    refine MD.stop hnd 1 h ?_
    simp (decide := true) only [f_X15_readStep_160, r2T, st, isO_s, gI_s, gA_s, gL_s, pI_s, pZ_s, pL_s, aI_s, aL_s, aN_s, aQ_s, sI_s, sL_s, cr, LNs, Option.map_some, Option.map_none, Option.bind_some, b2, tr, lt, if_true, if_false, ckZ, X_within, M_in, inR_z, X_refuse, X_tell, X_deny, X_grant, M_refused, M_denied, M_done, M_granted, u2_same, u2_ne, u2_u2, upd_same, upd_ne, aW0, ixR_z, ixR_1, M_isWall, M_isPainter, M_isWork, X_has4, X_has10, X_at, or_false, false_or, or_true, true_or, not_true, not_false_iff, Option.isSome_some, isO_d, gI_d, gA_d, pI_d, ne_eq, not_false_eq_true, u2_hi, u2_hj, u2_dyn, u2_dynj, Nat.reduceAdd, mX_r, mX_rD, mX_rDj, mM_r, mX_u, mX_uM, mX_uD, mX_uDj, mM_u, mM_uX, mM_uD, mM_uDj, u2_dd, u2_d0, u2_0d]
theorem body_eq {t : RW} {n i bl s : Nat} {o : DOut} : (dThen (if ¬ isC t n i 91 then .inl (1, i) else if bl = 6 then .inl (4, i) else dThen o fun i2 D2 => if isC t n i2 93 then .inr (i2 + 1, D2) else .inl (1, i2)) fun i D => .inr (i, dEnd D s)) = (if ¬ isC t n i 91 then .inl (1, i) else if bl = 6 then .inl (4, i) else dThen o fun i2 D2 => if isC t n i2 93 then .inr (i2 + 1, dEnd D2 s) else .inl (1, i2)) := by
  by_cases h1 : isC t n i 91
  · have n1 : (¬ isC t n i 91) = False := eq_false (fun q => q h1)
    simp only [n1, if_false]
    by_cases h2 : bl = 6
    · simp only [h2, if_true]
      rfl
    · simp only [h2, if_false, dt_as]
      cases o with
      | inl e => rfl
      | inr q =>
        obtain ⟨i2, D2⟩ := q
        show dThen (if isC t n i2 93 then .inr (i2 + 1, D2) else .inl (1, i2)) _ = (if isC t n i2 93 then .inr (i2 + 1, dEnd D2 s) else .inl (1, i2))
        by_cases h3 : isC t n i2 93
        · rw [if_pos h3, if_pos h3]; rfl
        · rw [if_neg h3, if_neg h3]; rfl
  · have n1 : (¬ isC t n i 91) = True := eq_true h1
    simp only [n1, if_true]
    rfl
theorem r160 (z : ZX) (kX : Nat → AH → Option (Option Nat × AH)) (a : Nat) (s : Int32) (h : AH) : f_X15_readStep_160 z kX a 0 s h = f_X15_readStep_240 z kX FU a 0 s (Int32.ofNat 4) 0 h ∧ f_X15_readStep_160 z kX a 1 s h = f_X15_readStep_240 z kX FU a 1 s (Int32.ofNat 3) 0 h ∧ f_X15_readStep_209 z kX a 2 s h = f_X15_readStep_240 z kX FU a 2 s (Int32.ofNat 2) 0 h := by
  refine ⟨?_, ?_, ?_⟩
  · unfold f_X15_readStep_160 f_X15_readStep_209 f_X15_readStep_236
    rw [if_neg (by decide), if_pos rfl]
    rfl
  · unfold f_X15_readStep_160 f_X15_readStep_209 f_X15_readStep_236
    rw [if_neg (by decide), if_neg (by decide), if_pos rfl]
    rfl
  · unfold f_X15_readStep_209 f_X15_readStep_236
    rw [if_neg (by decide), if_neg (by decide), if_pos rfl]
    rfl
theorem r160e (z : ZX) (kX : Nat → AH → Option (Option Nat × AH)) (a : Nat) (s : Int32) (h : AH) : f_X15_readStep_160 z kX a 3 s h = b2 (f_X15_readEach z a s h) fun q1 h2 => tr q1 (f_X15_readStep_279 z kX a 3 s h2) fun a3 => some (some a3, h2) := by
  have e : f_X15_readStep_160 z kX a 3 s h = f_X15_readStep_240 z kX ((FU - 1) + 1) a 3 s 0 0 h := by
    unfold f_X15_readStep_160 f_X15_readStep_209 f_X15_readStep_236
    rw [if_neg (by decide), if_neg (by decide), if_neg (by decide), if_neg (by decide), show FU - 1 + 1 = FU from rfl]
  rw [e, f_X15_readStep_240, if_pos (Int32.le_refl _), if_pos rfl]
  simp (decide := true) only [f_X15_readStep_269, if_false]
theorem r160i (z : ZX) (kX : Nat → AH → Option (Option Nat × AH)) (a : Nat) (s : Int32) (h : AH) : f_X15_readStep_160 z kX a 4 s h = b2 (f_X15_readTest z a s h) fun q1 h2 => tr q1 (f_X15_readStep_279 z kX a 4 s h2) fun a3 => some (some a3, h2) := by
  have e : f_X15_readStep_160 z kX a 4 s h = f_X15_readStep_240 z kX ((FU - 1) + 1) a 4 s 0 0 h := by
    unfold f_X15_readStep_160 f_X15_readStep_209 f_X15_readStep_236
    rw [if_neg (by decide), if_neg (by decide), if_neg (by decide), if_neg (by decide), show FU - 1 + 1 = FU from rfl]
  rw [e, f_X15_readStep_240, if_pos (Int32.le_refl _), if_neg (by decide)]
  simp (decide := true) only [f_X15_readStep_269, if_true]
/-- a step, given how texts within it are read -/
theorem M_dstep {z : ZX} {t : RW} {n nd la f i bl : Nat} {D : DSt} {kX : Nat → AH → Option (Option Nat × AH)} (hz : GZ b F z) (hn : n ≤ 400) (hB : BY t n) (hnd : 93 ≤ nd) (hP : P 72 40 = some nd) (hK : K12 E nd) (hLA : LA t n la) (hla : la ≤ 400) (hbl : bl ≤ 6) (hD : DB la i D) (h : MD t n nd i bl D I L) (hk : bl < 6 → ∀ (j : Nat) (C : DSt) (I' : Nat → Nat → Int32) (L' : Nat → Nat → Int64), i < j → DB la j C → MD t n nd j (bl + 1) C I' L' → DSim b F E P nx us nd t n (bl + 1) I' L' (kX (ad b 72) (lay b F E I' L' P nx us)) (dS t n f 0 j (bl + 1) C)) : DSim b F E P nx us nd t n bl I L (f_X15_readStep z kX (ad b 72) (lay b F E I L P nx us)) (dS t n (f + 1) 1 i bl D) := by
  have r2 := (M_srt h.1.1).1
  have st := fun c => M_stopF (b := b) (F := F) (E := E) (P := P) (nx := nx) (us := us) c h.1
  have e10 : ((1 : Int32) = 0) = False := by decide
  simp only [dS]
  by_cases c2 : kd t n (pl t n i) = 2
  · have r2T : (I 72 28 = 2) = True := by rw [r2]; exact eq_true c2
    rw [if_neg (fun q => q c2)]
    have hil := LA_lt hLA hD.1 (show kd t n (pl t n i) ≠ 0 by omega) (show kd t n (pl t n i) ≠ 1 by omega)
    have w1 : f_X15_isWord z (ad b 72) (z.1 16) (lay b F E I L P nx us) = some (if isW t n i 1 then 1 else 0, (lay b F E I L P nx us)) := M_isW (k := 16) hz (by decide) h.1.1
    have w2 : f_X15_isWord z (ad b 72) (z.1 17) (lay b F E I L P nx us) = some (if isW t n i 2 then 1 else 0, (lay b F E I L P nx us)) := M_isW (k := 17) hz (by decide) h.1.1
    have w3 : f_X15_isWord z (ad b 72) (z.1 18) (lay b F E I L P nx us) = some (if isW t n i 3 then 1 else 0, (lay b F E I L P nx us)) := M_isW (k := 18) hz (by decide) h.1.1
    have w4 : f_X15_isWord z (ad b 72) (z.1 19) (lay b F E I L P nx us) = some (if isW t n i 4 then 1 else 0, (lay b F E I L P nx us)) := M_isW (k := 19) hz (by decide) h.1.1
    have w5 : f_X15_isWord z (ad b 72) (z.1 20) (lay b F E I L P nx us) = some (if isW t n i 5 then 1 else 0, (lay b F E I L P nx us)) := M_isW (k := 20) hz (by decide) h.1.1
    have hgA : ∀ (J : Nat → Nat → Int32), gA 15 (lay b F E J L P nx us) (ad b 72) 40 = some (ad b nd) := fun J => by rw [gA_sP (by decide) (by decide) (by decide), hP]; rfl
    have hgi : gI 12 (lay b F E I L P nx us) (ad b nd) 0 = some (Int32.ofNat D.1) := by rw [gI_d hK.1 (by decide), h.2.2.2.2.1]
    -- how many steps
    have main : ∀ (x : Int32) (w : Int32), skV t n i = w → w ≠ -1 → x = mk w → x ≠ -1 → f_X15_readStep z kX (ad b 72) (lay b F E I L P nx us) = f_X15_readStep_85 z kX (ad b 72) x (lay b F E I L P nx us) → (∀ (I' : Nat → Nat → Int32) (L' : Nat → Nat → Int64), D.1 < 40 → DB la (i + 1) (dBeg D w) → MD t n nd (i + 1) bl (dBeg D w) I' L' → DSim b F E P nx us nd t n bl I' L' (if 2 < x then f_X15_readStep_160 z kX (ad b 72) x (Int32.ofNat D.1) (lay b F E I' L' P nx us) else b2 (f_X15_readTint (ad b 72) (Int32.ofNat D.1) (lay b F E I' L' P nx us)) fun q12 h13 => tr q12 (f_X15_readStep_160 z kX (ad b 72) x (Int32.ofNat D.1) h13) fun a14 => some (some a14, h13)) (dThen (dHd t n (i + 1) D.1 w (dBeg D w)) fun i1 D1 => if w = 9 ∨ w = 11 then (if ¬ isC t n i1 91 then .inl (1, i1) else if bl = 6 then .inl (4, i1) else dThen (dS t n f 0 (i1 + 1) (bl + 1) D1) fun i2 D2 => if isC t n i2 93 then .inr (i2 + 1, dEnd D2 D.1) else .inl (1, i2)) else .inr (i1, dEnd D1 D.1))) → DSim b F E P nx us nd t n bl I L (f_X15_readStep z kX (ad b 72) (lay b F E I L P nx us)) (if skV t n i = -1 then .inl (2, i) else if D.1 = 40 then .inl (4, i) else dThen (dHd t n (i + 1) D.1 (skV t n i) (dBeg D (skV t n i))) fun i1 D1 => if skV t n i = 9 ∨ skV t n i = 11 then (if ¬ isC t n i1 91 then .inl (1, i1) else if bl = 6 then .inl (4, i1) else dThen (dS t n f 0 (i1 + 1) (bl + 1) D1) fun i2 D2 => if isC t n i2 93 then .inr (i2 + 1, dEnd D2 D.1) else .inl (1, i2)) else .inr (i1, dEnd D1 D.1)) := by
      intro x w hw hw1 hx hx1 hrun hgo
      rw [hw, if_neg hw1, hrun]
      have ex1 : (x = -1) = False := eq_false hx1
      by_cases h40 : D.1 = 40
      · rw [if_pos h40]
        have e40 : (Int32.ofNat D.1 = 40) = True := by rw [h40]; decide
        refine MD.stop hnd 4 h ?_
        simp (decide := true) only [f_X15_readStep_85, ex1, hgA, hgi, e40, st 4, isO_s, gI_s, gL_s, pI_s, pZ_s, pL_s, aI_s, aL_s, aN_s, aQ_s, sI_s, sL_s, cr, LNs, Option.map_some, Option.map_none, Option.bind_some, b2, tr, lt, if_true, if_false, ckZ, X_within, M_in, inR_z, X_refuse, X_tell, X_deny, X_grant, M_refused, M_denied, M_done, M_granted, u2_same, u2_ne, u2_u2, upd_same, upd_ne, aW0, ixR_z, ixR_1, M_isWall, M_isPainter, M_isWork, X_has4, X_has10, X_at, or_false, false_or, or_true, true_or, not_true, not_false_iff, Option.isSome_some, isO_d, gI_d, gA_d, pI_d, ne_eq, not_false_eq_true, u2_hi, u2_hj, u2_dyn, u2_dynj, Nat.reduceAdd, mX_r, mX_rD, mX_rDj, mM_r, mX_u, mX_uM, mX_uD, mX_uDj, mM_u, mM_uX, mM_uD, mM_uDj, u2_dd, u2_d0, u2_0d]
      · rw [if_neg h40]
        have hD40 : D.1 < 40 := by have := hD.2.1; omega
        have e40 : (Int32.ofNat D.1 = 40) = False := oN_ne (c := 40) h40 (by omega) (by omega)
        have e1 : iN (Int32.ofNat D.1) 40 = some D.1 := iN_oN hD40 (by omega)
        have h0 : MD t n nd i bl (D.1 + 1, D.2) (u2 I nd (upd (I nd) 0 (Int32.ofNat (D.1 + 1)))) L := by
          obtain ⟨q, a1, a2, a3, a4, a5, a6, a7⟩ := h
          refine ⟨q.fr (u2_ne (by omega)) (u2_ne (by omega)), by rw [u2_ne (by omega)]; exact a1, by rw [u2_ne (by omega)]; exact a2, by rw [u2_ne (by omega)]; exact a3, by rw [u2_same, upd_same], by rw [u2_same, upd_ne (by decide)]; exact a5, ?_, a7⟩
          intro j j1 j2
          rw [u2_ne (by omega)]
          exact a6 j j1 j2
        have h1 := h0.row (j := 1) (k := D.1) (x := x) hnd (by decide) (by decide)
        have hpi : pI 12 (lay b F E I L P nx us) (ad b nd) 0 (Int32.ofNat (D.1 + 1)) = some (lay b F E (u2 I nd (upd (I nd) 0 (Int32.ofNat (D.1 + 1)))) L P nx us) := pI_d hK.1 (by decide)
        have hg2 : gA 12 (lay b F E (u2 I nd (upd (I nd) 0 (Int32.ofNat (D.1 + 1)))) L P nx us) (ad b nd) 2 = some (ad b (nd + 1)) := by rw [gA_d hK.1 (by decide) rfl]; rfl
        have hss : sI 0 (lay b F E (u2 I nd (upd (I nd) 0 (Int32.ofNat (D.1 + 1)))) L P nx us) (ad b (nd + 1)) (Int32.ofNat D.1) x = some (lay b F E (u2 (u2 I nd (upd (I nd) 0 (Int32.ofNat (D.1 + 1)))) (nd + 1) (upd (u2 I nd (upd (I nd) 0 (Int32.ofNat (D.1 + 1))) (nd + 1)) D.1 x)) L P nx us) := by rw [sI_d (hK.2.1 1 (by decide) (by decide)) (by decide), e1]; rfl
        obtain ⟨r, l, m1, m2, m3⟩ := MD.nxt (b := b) (F := F) (E := E) (P := P) (nx := nx) (us := us) hn hB hnd h1 (by omega) (by omega) (cm_k (by omega))
        have hf0 : FDd nd I (u2 I nd (upd (I nd) 0 (Int32.ofNat (D.1 + 1)))) L L := FDd_r (j := 0) hnd (by decide)
        have hM : MD t n nd (i + 1) bl (dBeg D w) (u2 (u2 (u2 I nd (upd (I nd) 0 (Int32.ofNat (D.1 + 1)))) (nd + 1) (upd (u2 I nd (upd (I nd) 0 (Int32.ofNat (D.1 + 1))) (nd + 1)) D.1 x)) 72 r) (u2 L 72 l) := by
          unfold dBeg
          rw [← hx]
          exact m3
        have hrun2 : f_X15_readStep_85 z kX (ad b 72) x (lay b F E I L P nx us) = (if 2 < x then f_X15_readStep_160 z kX (ad b 72) x (Int32.ofNat D.1) (lay b F E (u2 (u2 (u2 I nd (upd (I nd) 0 (Int32.ofNat (D.1 + 1)))) (nd + 1) (upd (u2 I nd (upd (I nd) 0 (Int32.ofNat (D.1 + 1))) (nd + 1)) D.1 x)) 72 r) (u2 L 72 l) P nx us) else b2 (f_X15_readTint (ad b 72) (Int32.ofNat D.1) (lay b F E (u2 (u2 (u2 I nd (upd (I nd) 0 (Int32.ofNat (D.1 + 1)))) (nd + 1) (upd (u2 I nd (upd (I nd) 0 (Int32.ofNat (D.1 + 1))) (nd + 1)) D.1 x)) 72 r) (u2 L 72 l) P nx us)) fun q12 h13 => tr q12 (f_X15_readStep_160 z kX (ad b 72) x (Int32.ofNat D.1) h13) fun a14 => some (some a14, h13)) := by
          unfold f_X15_readStep_85
          simp only [hgA, hgi, ex1, e40, oN_succ, hpi, hg2, hss, m1, if_false, Option.bind_some]
        rw [hrun2]
        exact dsim_f ((hf0.trans (FDd_r (j := 1) hnd (by decide))).trans m2) (hgo _ _ hD40 ⟨hil, show D.1 + 1 ≤ 40 by omega, hD.2.2⟩ hM)
    -- the body and the end of a block
    have blk : ∀ (x : Int32) (i1 : Nat) (D1 : DSt) (J : Nat → Nat → Int32) (M : Nat → Nat → Int64), ¬ x < 3 → D.1 < 40 → i < i1 → DB la i1 D1 → MD t n nd i1 bl D1 J M → DSim b F E P nx us nd t n bl J M (f_X15_readStep_279 z kX (ad b 72) x (Int32.ofNat D.1) (lay b F E J M P nx us)) (if ¬ isC t n i1 91 then .inl (1, i1) else if bl = 6 then .inl (4, i1) else dThen (dS t n f 0 (i1 + 1) (bl + 1) D1) fun i2 D2 => if isC t n i2 93 then .inr (i2 + 1, dEnd D2 D.1) else .inl (1, i2)) := by
      intro x i1 D1 J M hx hD40 hii hD1 g1
      rw [← body_eq]
      unfold f_X15_readStep_279
      rw [if_neg hx]
      refine dsim_b (M_dbody (txt := fun j C => dS t n f 0 j (bl + 1) C) hn hB hnd hLA hbl hD1 g1 (fun hb6 I' L' hM hc => hk hb6 (i1 + 1) D1 I' L' (by omega) ⟨isC_lt hLA hD1.1 hc, hD1.2⟩ hM)) ?_
      intro i2 D2 J2 M2 _ _ g2
      exact M_dend hnd hP hK hD40 g2
    -- the end of a shape
    have shp : ∀ (x : Int32) (N : Nat), (x = 0 ∨ x = 1 ∨ x = 2) → N ≤ 4 → D.1 < 40 → ∀ (i1 : Nat) (D1 : DSt) (J : Nat → Nat → Int32) (M : Nat → Nat → Int64), DB la i1 D1 → MD t n nd i1 bl D1 J M → DSim b F E P nx us nd t n bl J M (f_X15_readStep_240 z kX FU (ad b 72) x (Int32.ofNat D.1) (Int32.ofNat N) 0 (lay b F E J M P nx us)) (dSums t n D.1 (fun i D' => .inr (i, dEnd D' D.1)) N 0 i1 D1) := by
      intro x N hx hN hD40 i1 D1 J M hD1 g1
      refine M_dsums (tl := fun i D' => .inr (i, dEnd D' D.1)) hz hn hB hnd hP hK hLA hla hD40 hN D1.1 ?_ N 0 (by omega) FU i1 D1 J M (by unfold FU; omega) rfl hD1 g1
      intro i2 D2 J2 M2 fu i0 _ _ hD2 g2
      have hrun : f_X15_readStep_240 z kX (fu + 1) (ad b 72) x (Int32.ofNat D.1) (Int32.ofNat N) (Int32.ofNat N) (lay b F E J2 M2 P nx us) = f_X15_readStep_288 z kX (ad b 72) (Int32.ofNat D.1) (lay b F E J2 M2 P nx us) := by
        rw [f_X15_readStep_240, if_pos (Int32.le_refl _)]
        unfold f_X15_readStep_269 f_X15_readStep_279
        rcases hx with rfl | rfl | rfl
        · rw [if_neg (by decide), if_neg (by decide), if_pos (by decide)]
        · rw [if_neg (by decide), if_neg (by decide), if_pos (by decide)]
        · rw [if_neg (by decide), if_neg (by decide), if_pos (by decide)]
      rw [hrun]
      exact M_dend hnd hP hK hD40 g2
    by_cases q1 : isW t n i 1
    · rw [if_pos q1] at w1
      refine main 0 6 (by unfold skV; rw [if_pos q1]) (by decide) (by decide) (by decide) (by simp (decide := true) only [f_X15_readStep, r2T, w1, e10, isO_s, gI_s, gA_s, gL_s, pI_s, pZ_s, pL_s, aI_s, aL_s, aN_s, aQ_s, sI_s, sL_s, cr, LNs, Option.map_some, Option.map_none, Option.bind_some, b2, tr, lt, if_true, if_false, ckZ, X_within, M_in, inR_z, X_refuse, X_tell, X_deny, X_grant, M_refused, M_denied, M_done, M_granted, u2_same, u2_ne, u2_u2, upd_same, upd_ne, aW0, ixR_z, ixR_1, M_isWall, M_isPainter, M_isWork, X_has4, X_has10, X_at, or_false, false_or, or_true, true_or, not_true, not_false_iff, Option.isSome_some, isO_d, gI_d, gA_d, pI_d, ne_eq, not_false_eq_true, u2_hi, u2_hj, u2_dyn, u2_dynj, Nat.reduceAdd, mX_r, mX_rD, mX_rDj, mM_r, mX_u, mX_uM, mX_uD, mX_uDj, mM_u, mM_uX, mM_uD, mM_uDj, u2_dd, u2_d0, u2_0d]) ?_
      intro I' L' hD40 hDB hM
      rw [if_neg (by decide)]
      have e : dHd t n (i + 1) D.1 6 (dBeg D 6) = dThen (dTint t n (i + 1) D.1 (dBeg D 6)) fun i D' => dThen (dSum t n i D.1 0 D') fun i D' => dThen (dSum t n i D.1 1 D') fun i D' => dThen (dSum t n i D.1 2 D') fun i D' => dSum t n i D.1 3 D' := by unfold dHd; rw [if_pos rfl]
      rw [e, dt_as]
      refine dsim_b (M_dtint (la := la) hn hB hnd hP hK hD40 hM) ?_
      intro i1 D1 J M q1 _ g1
      have b1 := dTint_b hLA hDB q1
      have := shp 0 4 (Or.inl rfl) (by decide) hD40 i1 D1 J M b1.1 g1
      simp only [dt_as]
      rw [(r160 z kX (ad b 72) (Int32.ofNat D.1) (lay b F E J M P nx us)).1]
      exact this
    · rw [if_neg q1] at w1
      by_cases q2 : isW t n i 2
      · rw [if_pos q2] at w2
        refine main 1 7 (by unfold skV; rw [if_neg q1, if_pos q2]) (by decide) (by decide) (by decide) (by simp (decide := true) only [f_X15_readStep, r2T, w1, w2, e10, isO_s, gI_s, gA_s, gL_s, pI_s, pZ_s, pL_s, aI_s, aL_s, aN_s, aQ_s, sI_s, sL_s, cr, LNs, Option.map_some, Option.map_none, Option.bind_some, b2, tr, lt, if_true, if_false, ckZ, X_within, M_in, inR_z, X_refuse, X_tell, X_deny, X_grant, M_refused, M_denied, M_done, M_granted, u2_same, u2_ne, u2_u2, upd_same, upd_ne, aW0, ixR_z, ixR_1, M_isWall, M_isPainter, M_isWork, X_has4, X_has10, X_at, or_false, false_or, or_true, true_or, not_true, not_false_iff, Option.isSome_some, isO_d, gI_d, gA_d, pI_d, ne_eq, not_false_eq_true, u2_hi, u2_hj, u2_dyn, u2_dynj, Nat.reduceAdd, mX_r, mX_rD, mX_rDj, mM_r, mX_u, mX_uM, mX_uD, mX_uDj, mM_u, mM_uX, mM_uD, mM_uDj, u2_dd, u2_d0, u2_0d]) ?_
        intro I' L' hD40 hDB hM
        rw [if_neg (by decide)]
        have e : dHd t n (i + 1) D.1 7 (dBeg D 7) = dThen (dTint t n (i + 1) D.1 (dBeg D 7)) fun i D' => dThen (dSum t n i D.1 0 D') fun i D' => dThen (dSum t n i D.1 1 D') fun i D' => dSum t n i D.1 2 D' := by unfold dHd; rw [if_neg (by decide), if_pos rfl]
        rw [e, dt_as]
        refine dsim_b (M_dtint (la := la) hn hB hnd hP hK hD40 hM) ?_
        intro i1 D1 J M q1 _ g1
        have b1 := dTint_b hLA hDB q1
        have := shp 1 3 (Or.inr (Or.inl rfl)) (by decide) hD40 i1 D1 J M b1.1 g1
        simp only [dt_as]
        rw [(r160 z kX (ad b 72) (Int32.ofNat D.1) (lay b F E J M P nx us)).2.1]
        exact this
      · rw [if_neg q2] at w2
        by_cases q3 : isW t n i 3
        · rw [if_pos q3] at w3
          refine main 2 8 (by unfold skV; rw [if_neg q1, if_neg q2, if_pos q3]) (by decide) (by decide) (by decide) (by simp (decide := true) only [f_X15_readStep, r2T, w1, w2, w3, e10, isO_s, gI_s, gA_s, gL_s, pI_s, pZ_s, pL_s, aI_s, aL_s, aN_s, aQ_s, sI_s, sL_s, cr, LNs, Option.map_some, Option.map_none, Option.bind_some, b2, tr, lt, if_true, if_false, ckZ, X_within, M_in, inR_z, X_refuse, X_tell, X_deny, X_grant, M_refused, M_denied, M_done, M_granted, u2_same, u2_ne, u2_u2, upd_same, upd_ne, aW0, ixR_z, ixR_1, M_isWall, M_isPainter, M_isWork, X_has4, X_has10, X_at, or_false, false_or, or_true, true_or, not_true, not_false_iff, Option.isSome_some, isO_d, gI_d, gA_d, pI_d, ne_eq, not_false_eq_true, u2_hi, u2_hj, u2_dyn, u2_dynj, Nat.reduceAdd, mX_r, mX_rD, mX_rDj, mM_r, mX_u, mX_uM, mX_uD, mX_uDj, mM_u, mM_uX, mM_uD, mM_uDj, u2_dd, u2_d0, u2_0d]) ?_
          intro I' L' hD40 hDB hM
          rw [if_neg (by decide)]
          have e : dHd t n (i + 1) D.1 8 (dBeg D 8) = dThen (dTint t n (i + 1) D.1 (dBeg D 8)) fun i D' => dThen (dWrd t n i D.1 D') fun i D' => dThen (dSum t n i D.1 0 D') fun i D' => dSum t n i D.1 1 D' := by unfold dHd; rw [if_neg (by decide), if_neg (by decide), if_pos rfl]
          rw [e, dt_as]
          refine dsim_b (M_dtint (la := la) hn hB hnd hP hK hD40 hM) ?_
          intro i1 D1 J M q1 _ g1
          have b1 := dTint_b hLA hDB q1
          simp only [dt_as]
          refine M_dword (la := la) hn hB hnd hP hK hD40 g1 ?_
          intro D2 J2 M2 q2 g2
          have b2' := dWrd_b hLA b1.1 q2
          rw [(r160 z kX (ad b 72) (Int32.ofNat D.1) (lay b F E J2 M2 P nx us)).2.2]
          exact shp 2 2 (Or.inr (Or.inr rfl)) (by decide) hD40 (i1 + 1) D2 J2 M2 b2'.1 g2
        · rw [if_neg q3] at w3
          by_cases q4 : isW t n i 4
          · rw [if_pos q4] at w4
            refine main 3 9 (by unfold skV; rw [if_neg q1, if_neg q2, if_neg q3, if_pos q4]) (by decide) (by decide) (by decide) (by simp (decide := true) only [f_X15_readStep, r2T, w1, w2, w3, w4, e10, isO_s, gI_s, gA_s, gL_s, pI_s, pZ_s, pL_s, aI_s, aL_s, aN_s, aQ_s, sI_s, sL_s, cr, LNs, Option.map_some, Option.map_none, Option.bind_some, b2, tr, lt, if_true, if_false, ckZ, X_within, M_in, inR_z, X_refuse, X_tell, X_deny, X_grant, M_refused, M_denied, M_done, M_granted, u2_same, u2_ne, u2_u2, upd_same, upd_ne, aW0, ixR_z, ixR_1, M_isWall, M_isPainter, M_isWork, X_has4, X_has10, X_at, or_false, false_or, or_true, true_or, not_true, not_false_iff, Option.isSome_some, isO_d, gI_d, gA_d, pI_d, ne_eq, not_false_eq_true, u2_hi, u2_hj, u2_dyn, u2_dynj, Nat.reduceAdd, mX_r, mX_rD, mX_rDj, mM_r, mX_u, mX_uM, mX_uD, mX_uDj, mM_u, mM_uX, mM_uD, mM_uDj, u2_dd, u2_d0, u2_0d]) ?_
            intro I' L' hD40 hDB hM
            rw [if_pos (by decide)]
            have e : dHd t n (i + 1) D.1 9 (dBeg D 9) = dThen (dVar t n (i + 1) D.1 (dBeg D 9)) fun i D' => dThen (dNeed t n i 9 D') fun i D' => dThen (dSum t n i D.1 0 D') fun i D' => dThen (dNeed t n i 10 D') fun i D' => dSum t n i D.1 1 D' := by unfold dHd; rw [if_neg (by decide), if_neg (by decide), if_neg (by decide), if_pos rfl]
            rw [r160e]
            rw [e]
            refine dsim_b (M_deach hz hn hB hnd hP hK hLA hla hDB hD40 hM) ?_
            intro i1 D1 J M q1 _ g1
            have b1 := dHd_b hLA hDB (e.trans q1)
            rw [if_pos (Or.inl rfl)]
            exact blk 3 i1 D1 J M (by decide) hD40 (by omega) b1.1 g1
          · rw [if_neg q4] at w4
            by_cases q5 : isW t n i 5
            · rw [if_pos q5] at w5
              refine main 4 11 (by unfold skV; rw [if_neg q1, if_neg q2, if_neg q3, if_neg q4, if_pos q5]) (by decide) (by decide) (by decide) (by simp (decide := true) only [f_X15_readStep, r2T, w1, w2, w3, w4, w5, e10, isO_s, gI_s, gA_s, gL_s, pI_s, pZ_s, pL_s, aI_s, aL_s, aN_s, aQ_s, sI_s, sL_s, cr, LNs, Option.map_some, Option.map_none, Option.bind_some, b2, tr, lt, if_true, if_false, ckZ, X_within, M_in, inR_z, X_refuse, X_tell, X_deny, X_grant, M_refused, M_denied, M_done, M_granted, u2_same, u2_ne, u2_u2, upd_same, upd_ne, aW0, ixR_z, ixR_1, M_isWall, M_isPainter, M_isWork, X_has4, X_has10, X_at, or_false, false_or, or_true, true_or, not_true, not_false_iff, Option.isSome_some, isO_d, gI_d, gA_d, pI_d, ne_eq, not_false_eq_true, u2_hi, u2_hj, u2_dyn, u2_dynj, Nat.reduceAdd, mX_r, mX_rD, mX_rDj, mM_r, mX_u, mX_uM, mX_uD, mX_uDj, mM_u, mM_uX, mM_uD, mM_uDj, u2_dd, u2_d0, u2_0d]) ?_
              intro I' L' hD40 hDB hM
              rw [if_pos (by decide)]
              have e : dHd t n (i + 1) D.1 11 (dBeg D 11) = dThen (dSum t n (i + 1) D.1 0 (dBeg D 11)) fun i D' => dThen (dHow t n i D.1 D') fun i D' => dSum t n i D.1 1 D' := by unfold dHd; rw [if_neg (by decide), if_neg (by decide), if_neg (by decide), if_neg (by decide)]
              rw [r160i]
              rw [e]
              refine dsim_b (M_dtest hz hn hB hnd hP hK hLA hla hDB hD40 hM) ?_
              intro i1 D1 J M q1 _ g1
              have b1 := dHd_b hLA hDB (e.trans q1)
              rw [if_pos (Or.inr rfl)]
              exact blk 4 i1 D1 J M (by decide) hD40 (by omega) b1.1 g1
            · rw [if_neg q5] at w5
              have hsk : skV t n i = -1 := by unfold skV; rw [if_neg q1, if_neg q2, if_neg q3, if_neg q4, if_neg q5]
              rw [if_pos hsk]
              refine MD.stop hnd 2 h ?_
              simp (decide := true) only [f_X15_readStep, f_X15_readStep_85, r2T, w1, w2, w3, w4, w5, st 2, isO_s, gI_s, gA_s, gL_s, pI_s, pZ_s, pL_s, aI_s, aL_s, aN_s, aQ_s, sI_s, sL_s, cr, LNs, Option.map_some, Option.map_none, Option.bind_some, b2, tr, lt, if_true, if_false, ckZ, X_within, M_in, inR_z, X_refuse, X_tell, X_deny, X_grant, M_refused, M_denied, M_done, M_granted, u2_same, u2_ne, u2_u2, upd_same, upd_ne, aW0, ixR_z, ixR_1, M_isWall, M_isPainter, M_isWork, X_has4, X_has10, X_at, or_false, false_or, or_true, true_or, not_true, not_false_iff, Option.isSome_some, isO_d, gI_d, gA_d, pI_d, ne_eq, not_false_eq_true, u2_hi, u2_hj, u2_dyn, u2_dynj, Nat.reduceAdd, mX_r, mX_rD, mX_rDj, mM_r, mX_u, mX_uM, mX_uD, mX_uDj, mM_u, mM_uX, mM_uD, mM_uDj, u2_dd, u2_d0, u2_0d]
  · have r2T : (I 72 28 = 2) = False := by rw [r2]; exact eq_false c2
    rw [if_pos c2]
    refine MD.stop hnd 1 h ?_
    simp (decide := true) only [f_X15_readStep, r2T, st 1, isO_s, gI_s, gA_s, gL_s, pI_s, pZ_s, pL_s, aI_s, aL_s, aN_s, aQ_s, sI_s, sL_s, cr, LNs, Option.map_some, Option.map_none, Option.bind_some, b2, tr, lt, if_true, if_false, ckZ, X_within, M_in, inR_z, X_refuse, X_tell, X_deny, X_grant, M_refused, M_denied, M_done, M_granted, u2_same, u2_ne, u2_u2, upd_same, upd_ne, aW0, ixR_z, ixR_1, M_isWall, M_isPainter, M_isWork, X_has4, X_has10, X_at, or_false, false_or, or_true, true_or, not_true, not_false_iff, Option.isSome_some, isO_d, gI_d, gA_d, pI_d, ne_eq, not_false_eq_true, u2_hi, u2_hj, u2_dyn, u2_dynj, Nat.reduceAdd, mX_r, mX_rD, mX_rDj, mM_r, mX_u, mX_uM, mX_uD, mX_uDj, mM_u, mM_uX, mM_uD, mM_uDj, u2_dd, u2_d0, u2_0d]
/-- a text, with all that stands in it -/
theorem M_text {z : ZX} {t : RW} {n nd la : Nat} (hz : GZ b F z) (hn : n ≤ 400) (hB : BY t n) (hnd : 93 ≤ nd) (hP : P 72 40 = some nd) (hK : K12 E nd) (hLA : LA t n la) (hla : la ≤ 400) : ∀ f, f ≤ 5000 → ∀ bl, bl ≤ 6 →
    (∀ (d fu i : Nat) (D : DSt) (I : Nat → Nat → Int32) (L : Nat → Nat → Int64), 6 ≤ d + bl → f < fu → muD la 0 i ≤ f → DB la i D → MD t n nd i bl D I L → DSim b F E P nx us nd t n bl I L (f_X15_readText_2 z (f_X15_readText z d) fu (ad b 72) 1 (lay b F E I L P nx us)) (dS t n f 0 i bl D)) ∧
    (∀ (d i : Nat) (D : DSt) (I : Nat → Nat → Int32) (L : Nat → Nat → Int64), 6 ≤ d + bl → muD la 1 i ≤ f → DB la i D → MD t n nd i bl D I L → DSim b F E P nx us nd t n bl I L (f_X15_readStep z (f_X15_readText z d) (ad b 72) (lay b F E I L P nx us)) (dS t n f 1 i bl D)) := by
  intro f
  induction f with
  | zero =>
    intro hf bl hbl
    refine ⟨?_, ?_⟩
    · intro d fu i D I L _ _ hm; unfold muD at hm; simp at hm
    · intro d i D I L _ hm; unfold muD at hm; simp at hm
  | succ f ih =>
    intro hf bl hbl
    obtain ⟨t0, t1⟩ := ih (by omega) bl hbl
    refine ⟨?_, ?_⟩
    · intro d fu i D I L hd hfu hm hD h
      obtain ⟨fu, rfl⟩ : ∃ e, fu = e + 1 := ⟨fu - 1, by omega⟩
      obtain ⟨fu, rfl⟩ : ∃ e, fu = e + 1 := ⟨fu - 1, by unfold muD at hm; simp at hm; omega⟩
      unfold muD at hm
      simp at hm
      have e10 : ((1 : Int32) = 0) = False := by decide
      simp only [dS]
      rw [f_X15_readText_2, if_neg (by decide)]
      refine dsim_b (t1 d i D I L hd (by unfold muD; simp; omega) hD h) ?_
      intro i1 D1 J M q1 _ g1
      have b1 := dS_b hLA f 1 i bl D i1 D1 hD q1
      have hc := M_is (b := b) (F := F) (E := E) (P := P) (nx := nx) (us := us) 59 (fun _ => by decide) g1.1.1
      by_cases c : isC t n i1 59
      · rw [if_pos c] at hc ⊢
        have hil := isC_lt hLA b1.1.1 c
        obtain ⟨r, l, m1, m2, m3⟩ := MD.nxt (b := b) (F := F) (E := E) (P := P) (nx := nx) (us := us) hn hB hnd g1 (by rw [c.1]; decide) (by rw [c.1]; decide) (cm_C c (by decide) (by decide))
        simp only [hc, b2, e10, if_false, m1, Option.bind_some]
        exact dsim_f m2 (t0 d (fu + 1) (i1 + 1) D1 _ _ hd (by omega) (by unfold muD; simp; omega) ⟨hil, b1.1.2⟩ m3)
      · rw [if_neg c] at hc ⊢
        simp only [hc, b2, if_true]
        rw [f_X15_readText_2, if_pos rfl]
        exact ⟨none, J, M, rfl, FDd.refl, rfl, g1⟩
    · intro d i D I L hd hm hD h
      unfold muD at hm
      simp at hm
      refine M_dstep hz hn hB hnd hP hK hLA hla hbl hD h ?_
      intro hb6 j C I' L' hij hC hM
      obtain ⟨d, rfl⟩ : ∃ e, d = e + 1 := ⟨d - 1, by omega⟩
      obtain ⟨u0, -⟩ := ih (by omega) (bl + 1) (by omega)
      have := u0 d FU j C I' L' (by omega) (by unfold FU; omega) (by unfold muD; simp; have := hC.1; omega) hC hM
      show DSim b F E P nx us nd t n (bl + 1) I' L' (f_X15_readText_b z (f_X15_readText z d) (ad b 72) (lay b F E I' L' P nx us)) _
      unfold f_X15_readText_b
      rw [isO_s (by decide), if_pos rfl]
      exact this
end STP4
