/-! ===== drawing: the reference reads the pieces of a step ===== -/
def MD (t : RW) (n nd i bl : Nat) (D : DSt) (I : Nat → Nat → Int32) (L : Nat → Nat → Int64) : Prop := QM t n 0 i I L ∧ I 72 33 = Int32.ofNat bl ∧ I 72 34 = 0 ∧ I 72 35 = Int32.ofNat D.2.1 ∧ I nd 0 = Int32.ofNat D.1 ∧ I nd 1 = Int32.ofNat D.2.2.1 ∧ (∀ j, 1 ≤ j → j ≤ 10 → I (nd + j) = D.2.2.2.1 j) ∧ L (nd + 11) = D.2.2.2.2
def FDd (nd : Nat) (I J : Nat → Nat → Int32) (L M : Nat → Nat → Int64) : Prop := (∀ c, c ≠ 72 → c ≠ 90 → (c < nd ∨ nd + 11 ≤ c) → J c = I c) ∧ (∀ j, (j < 27 ∨ 35 < j) → J 72 j = I 72 j) ∧ (∀ c, c ≠ 72 → c ≠ nd + 11 → M c = L c) ∧ ∀ j, j ≠ 37 → M 72 j = L 72 j
theorem FDd.refl {nd : Nat} {I : Nat → Nat → Int32} {L : Nat → Nat → Int64} : FDd nd I I L L := ⟨fun _ _ _ _ => rfl, fun _ _ => rfl, fun _ _ _ => rfl, fun _ _ => rfl⟩
theorem FDd.trans {nd : Nat} {I J K : Nat → Nat → Int32} {L M N : Nat → Nat → Int64} (h : FDd nd I J L M) (h' : FDd nd J K M N) : FDd nd I K L N := ⟨fun c c1 c2 c3 => (h'.1 c c1 c2 c3).trans (h.1 c c1 c2 c3), fun j hj => (h'.2.1 j hj).trans (h.2.1 j hj), fun c c1 c2 => (h'.2.2.1 c c1 c2).trans (h.2.2.1 c c1 c2), fun j hj => (h'.2.2.2 j hj).trans (h.2.2.2 j hj)⟩
theorem FD.d {nd : Nat} {I J : Nat → Nat → Int32} {L M : Nat → Nat → Int64} (h : FD nd I J L M) : FDd nd I J L M := ⟨fun c c1 c2 c3 => h.1 c c1 c2 (by omega) (by omega) (by omega), fun j hj => h.2.2.1 j (by omega) (by omega) (by omega) (by omega) (by omega) (by omega) (by omega) (by omega), fun c c1 _ => h.2.2.2.1 c c1, h.2.2.2.2⟩
theorem FDd_r {nd j : Nat} {f : RW} {I : Nat → Nat → Int32} {L : Nat → Nat → Int64} (hn : 93 ≤ nd) (hj : j ≤ 10) : FDd nd I (u2 I (nd + j) f) L L := ⟨fun c _ _ c3 => u2_ne (by omega), fun k _ => by rw [u2_ne (by omega)], fun _ _ _ => rfl, fun _ _ => rfl⟩
theorem FDd_S {nd s : Nat} {c : Int32} {I : Nat → Nat → Int32} {L : Nat → Nat → Int64} (hn : 93 ≤ nd) : FDd nd I (sF I c s) L L := ⟨fun c _ c2 _ => u2_ne c2, fun j _ => by unfold sF; rw [u2_ne (by decide)], fun _ _ _ => rfl, fun _ _ => rfl⟩
def DR (b nd : Nat) (t : RW) (n bl : Nat) (out : DOut) (o : Option Nat) (I : Nat → Nat → Int32) (L : Nat → Nat → Int64) : Prop := match out with
  | .inl (c, j) => o = some (ad b 90) ∧ I 90 6 = c ∧ I 90 7 = Int32.ofNat (pl t n j)
  | .inr (i, D) => o = none ∧ MD t n nd i bl D I L
def DSim (b : Nat) (F : Nat → Option AE) (E : Nat → Option KD) (P : Nat → Nat → Option Nat) (nx us nd : Nat) (t : RW) (n bl : Nat) (I : Nat → Nat → Int32) (L : Nat → Nat → Int64) (r : Option (Option Nat × AH)) (out : DOut) : Prop := ∃ o I' L', r = some (o, lay b F E I' L' P nx us) ∧ FDd nd I I' L L' ∧ DR b nd t n bl out o I' L'
theorem MD.row {t : RW} {n nd i bl j k : Nat} {D : DSt} {x : Int32} {I : Nat → Nat → Int32} {L : Nat → Nat → Int64} (hn : 93 ≤ nd) (h : MD t n nd i bl D I L) (h1 : 1 ≤ j) (h2 : j ≤ 10) : MD t n nd i bl (dR D j k x) (u2 I (nd + j) (upd (I (nd + j)) k x)) L := by
  obtain ⟨q, a1, a2, a3, a4, a5, a6, a7⟩ := h
  refine ⟨q.fr (u2_ne (by omega)) (u2_ne (by omega)), by rw [u2_ne (by omega)]; exact a1, by rw [u2_ne (by omega)]; exact a2, by rw [u2_ne (by omega)]; exact a3, by rw [u2_ne (by omega)]; exact a4, by rw [u2_ne (by omega)]; exact a5, ?_, a7⟩
  intro j' h1' h2'
  show _ = u2 D.2.2.2.1 j (upd (D.2.2.2.1 j) k x) j'
  by_cases hj : j' = j
  · subst hj
    rw [u2_same, u2_same, a6 j' h1 h2]
  · rw [u2_ne (by omega), u2_ne hj]
    exact a6 j' h1' h2'
theorem MD.ss {t : RW} {n nd i bl : Nat} {D : DSt} {I : Nat → Nat → Int32} {L : Nat → Nat → Int64} (h : MD t n nd i bl D I L) : MS t n nd i 0 (dSs D) I L := ⟨h.1, h.2.2.2.1, h.2.2.1, h.2.2.2.2.2.1, h.2.2.2.2.2.2.1 9 (by decide) (by decide), h.2.2.2.2.2.2.1 10 (by decide) (by decide)⟩
section STP2
variable {b : Nat} {F : Nat → Option AE} {D E : Nat → Option KD} {I : Nat → Nat → Int32} {L : Nat → Nat → Int64} {P : Nat → Nat → Option Nat} {nx us : Nat}
theorem dsim_b {nd n bl : Nat} {t : RW} {r1 : Option (Option Nat × AH)} {r2 : AH → Option (Option Nat × AH)} {out1 : DOut} {k : Nat → DSt → DOut} (h1 : DSim b F E P nx us nd t n bl I L r1 out1) (h2 : ∀ i D I' L', out1 = .inr (i, D) → FDd nd I I' L L' → MD t n nd i bl D I' L' → DSim b F E P nx us nd t n bl I' L' (r2 (lay b F E I' L' P nx us)) (k i D)) : DSim b F E P nx us nd t n bl I L (b2 r1 fun q h => tr q (r2 h) fun a => some (some a, h)) (dThen out1 k) := by
  obtain ⟨o, J, M, z1, z2, z3⟩ := h1
  rw [z1]
  cases out1 with
  | inl e =>
    obtain ⟨c, j⟩ := e
    obtain ⟨rfl, z4⟩ := z3
    exact ⟨_, J, M, rfl, z2, rfl, z4⟩
  | inr q =>
    obtain ⟨i, D⟩ := q
    obtain ⟨rfl, z4⟩ := z3
    obtain ⟨o2, K, N, y1, y2, y3⟩ := h2 i D J M rfl z2 z4
    exact ⟨o2, K, N, y1, z2.trans y2, y3⟩
theorem dsim_f {nd n bl : Nat} {t : RW} {r : Option (Option Nat × AH)} {out : DOut} {J : Nat → Nat → Int32} {M : Nat → Nat → Int64} (hf : FDd nd I J L M) (h : DSim b F E P nx us nd t n bl J M r out) : DSim b F E P nx us nd t n bl I L r out := by
  obtain ⟨o, K, N, y1, y2, y3⟩ := h
  exact ⟨o, K, N, y1, hf.trans y2, y3⟩
theorem MD.stop {nd n bl i : Nat} {t : RW} {D : DSt} {r : Option (Option Nat × AH)} (hn : 93 ≤ nd) (c : Int32) (h : MD t n nd i bl D I L) (hr : r = some (some (ad b 90), lay b F E (sF I c (pl t n i)) L P nx us)) : DSim b F E P nx us nd t n bl I L r (.inl (c, i)) := ⟨_, _, _, hr, FDd_S hn, rfl, sF_67⟩
theorem MD.nxt {t : RW} {n nd i bl : Nat} {D : DSt} (hn : n ≤ 400) (hB : BY t n) (hnd : 93 ≤ nd) (h : MD t n nd i bl D I L) (h0 : kd t n (pl t n i) ≠ 0) (h1 : kd t n (pl t n i) ≠ 1) (hr : ¬ cm t n i 0) : ∃ r l, f_X15_next (ad b 72) (lay b F E I L P nx us) = some (lay b F E (u2 I 72 r) (u2 L 72 l) P nx us) ∧ FDd nd I (u2 I 72 r) L (u2 L 72 l) ∧ MD t n nd (i + 1) bl D (u2 I 72 r) (u2 L 72 l) := by
  obtain ⟨q, a1, a2, a3, a4, a5, a6, a7⟩ := h
  obtain ⟨r, l, z1, z2, z3, z4⟩ := M_nq (b := b) (F := F) (E := E) (P := P) (nx := nx) (us := us) hn hB q h0 h1 hr
  refine ⟨r, l, z1, (FD_72 (nd := nd) hnd (fun j a c d e f g _ _ => z2 j a c d e f g) z3).d, z4, ?_, ?_, ?_, ?_, ?_, ?_, ?_⟩
  · rw [u2_same, z2 33 (by decide) (by decide) (by decide) (by decide) (by decide) (by decide)]; exact a1
  · rw [u2_same, z2 34 (by decide) (by decide) (by decide) (by decide) (by decide) (by decide)]; exact a2
  · rw [u2_same, z2 35 (by decide) (by decide) (by decide) (by decide) (by decide) (by decide)]; exact a3
  · rw [u2_ne (by omega)]; exact a4
  · rw [u2_ne (by omega)]; exact a5
  · intro j j1 j2; rw [u2_ne (by omega)]; exact a6 j j1 j2
  · rw [u2_ne (by omega)]; exact a7
theorem M_dsum {z : ZX} {t : RW} {n nd la i bl s k : Nat} {D : DSt} (hz : GZ b F z) (hn : n ≤ 400) (hB : BY t n) (hnd : 93 ≤ nd) (hP : P 72 40 = some nd) (hK : K12 E nd) (hLA : LA t n la) (hla : la ≤ 400) (hD : DB la i D) (hs : s < 40) (hk : k < 4) (h : MD t n nd i bl D I L) : DSim b F E P nx us nd t n bl I L (f_X15_readSum z (ad b 72) (Int32.ofNat s) (Int32.ofNat k) (lay b F E I L P nx us)) (dSum t n i s k D) := by
  have hgA : ∀ (J : Nat → Nat → Int32) (M : Nat → Nat → Int64), gA 15 (lay b F E J M P nx us) (ad b 72) 40 = some (ad b nd) := fun J M => by rw [gA_sP (by decide) (by decide) (by decide), hP]; rfl
  have eix : 4 * Int32.ofNat s + Int32.ofNat k = Int32.ofNat (4 * s + k) := by rw [show (4 : Int32) = Int32.ofNat 4 from rfl, oN_mul, oN_add]
  have e1 : iN (Int32.ofNat (4 * s + k)) 160 = some (4 * s + k) := iN_oN (by omega) (by omega)
  have h1 := h.row (j := 7) (k := 4 * s + k) (x := Int32.ofNat D.2.2.1) hnd (by decide) (by decide)
  have hg7 : gA 12 (lay b F E I L P nx us) (ad b nd) 8 = some (ad b (nd + 7)) := by rw [gA_d hK.1 (by decide) rfl]; rfl
  have hgi : gI 12 (lay b F E I L P nx us) (ad b nd) 1 = some (Int32.ofNat D.2.2.1) := by rw [gI_d hK.1 (by decide), h.2.2.2.2.2.1]
  have hs7 : sI 0 (lay b F E I L P nx us) (ad b (nd + 7)) (Int32.ofNat (4 * s + k)) (Int32.ofNat D.2.2.1) = some (lay b F E (u2 I (nd + 7) (upd (I (nd + 7)) (4 * s + k) (Int32.ofNat D.2.2.1))) L P nx us) := by rw [sI_d hK.2.2.1 (by decide), e1]; rfl
  obtain ⟨m0, -⟩ := M_sum (b := b) (F := F) (E := E) (P := P) (nx := nx) (us := us) hz hn hB hnd hP hK hLA 5000 (Nat.le_refl _) 0 (by decide)
  have hmu : mu la 0 i ≤ 5000 := by unfold mu; simp; omega
  have ess : dSs (dR D 7 (4 * s + k) (Int32.ofNat D.2.2.1)) = dSs D := by
    show (D.2.1, D.2.2.1, u2 D.2.2.2.1 7 (upd (D.2.2.2.1 7) (4 * s + k) (Int32.ofNat D.2.2.1)) 9, u2 D.2.2.2.1 7 (upd (D.2.2.2.1 7) (4 * s + k) (Int32.ofNat D.2.2.1)) 10) = dSs D
    rw [u2_ne (by decide), u2_ne (by decide)]
    rfl
  have hss := h1.ss
  rw [ess] at hss
  obtain ⟨o, J, M, z1, z2, z3⟩ := m0 8 (by decide) i (dSs D) _ _ hmu hD.1 hD.2.2.1 hD.2.2.2 hss
  have hrun : f_X15_readSum z (ad b 72) (Int32.ofNat s) (Int32.ofNat k) (lay b F E I L P nx us) = (tr o ((gA 15 (lay b F E J M P nx us) (ad b 72) 40).bind fun a9 => (gA 12 (lay b F E J M P nx us) a9 9).bind fun a10 => (gA 15 (lay b F E J M P nx us) (ad b 72) 40).bind fun a11 => (gI 12 (lay b F E J M P nx us) a11 1).bind fun x12 => (sI 0 (lay b F E J M P nx us) a10 (Int32.ofNat (4 * s + k)) x12).bind fun h13 => some (none, h13)) fun a8 => some (some a8, lay b F E J M P nx us)) := by
    unfold f_X15_readSum
    rw [isO_s (by decide), if_pos rfl]
    simp only [hgA, hg7, hgi, eix, hs7, z1, b2, Option.bind_some]
  rw [hrun]
  unfold dSum
  cases hout : pS t n 5000 0 i 0 (dSs D) with
  | inl e =>
    obtain ⟨c, j⟩ := e
    rw [hout] at z3
    obtain ⟨rfl, z4⟩ := z3
    exact ⟨_, J, M, rfl, (FDd_r hnd (by decide)).trans z2.d, rfl, z4⟩
  | inr q =>
    obtain ⟨i1, s1⟩ := q
    rw [hout] at z3
    obtain ⟨rfl, y1, y2, y3, y4, y5, y6⟩ := z3
    have hg8 : gA 12 (lay b F E J M P nx us) (ad b nd) 9 = some (ad b (nd + 8)) := by rw [gA_d hK.1 (by decide) rfl]; rfl
    have hgi8 : gI 12 (lay b F E J M P nx us) (ad b nd) 1 = some (Int32.ofNat s1.2.1) := by rw [gI_d hK.1 (by decide), y4]
    have hs8 : sI 0 (lay b F E J M P nx us) (ad b (nd + 8)) (Int32.ofNat (4 * s + k)) (Int32.ofNat s1.2.1) = some (lay b F E (u2 J (nd + 8) (upd (J (nd + 8)) (4 * s + k) (Int32.ofNat s1.2.1))) M P nx us) := by rw [sI_d hK.2.2.2.1 (by decide), e1]; rfl
    have hMD : MD t n nd i1 bl (dIt (dR D 7 (4 * s + k) (Int32.ofNat D.2.2.1)) s1) J M := by
      refine ⟨y1, ?_, y3, y2, ?_, y4, ?_, ?_⟩
      · rw [z2.2.2.1 33 (by decide) (by decide) (by decide) (by decide) (by decide) (by decide) (by decide) (by decide)]; exact h1.2.1
      · rw [z2.2.1 0 (by decide)]; exact h1.2.2.2.2.1
      · intro j j1 j2
        show J (nd + j) = u2 (u2 _ 9 s1.2.2.1) 10 s1.2.2.2 j
        by_cases j9 : j = 9
        · subst j9; rw [u2_ne (by decide), u2_same]; exact y5
        · by_cases j10 : j = 10
          · subst j10; rw [u2_same]; exact y6
          · rw [u2_ne j10, u2_ne j9, z2.1 (nd + j) (by omega) (by omega) (by omega) (by omega) (by omega)]
            exact h1.2.2.2.2.2.2.1 j j1 j2
      · rw [z2.2.2.2.1 (nd + 11) (by omega)]; exact h1.2.2.2.2.2.2.2
    refine ⟨none, _, M, ?_, ((FDd_r hnd (by decide)).trans z2.d).trans (FDd_r hnd (by decide)), rfl, hMD.row (j := 8) hnd (by decide) (by decide)⟩
    show ((gA 15 (lay b F E J M P nx us) (ad b 72) 40).bind fun a9 => (gA 12 (lay b F E J M P nx us) a9 9).bind fun a10 => (gA 15 (lay b F E J M P nx us) (ad b 72) 40).bind fun a11 => (gI 12 (lay b F E J M P nx us) a11 1).bind fun x12 => (sI 0 (lay b F E J M P nx us) a10 (Int32.ofNat (4 * s + k)) x12).bind fun h13 => some (none, h13)) = _
    simp only [hgA, hg8, hgi8, hs8, Option.bind_some]
theorem M_dtint {t : RW} {n nd la i bl s : Nat} {D : DSt} (hn : n ≤ 400) (hB : BY t n) (hnd : 93 ≤ nd) (hP : P 72 40 = some nd) (hK : K12 E nd) (hs : s < 40) (h : MD t n nd i bl D I L) : DSim b F E P nx us nd t n bl I L (f_X15_readTint (ad b 72) (Int32.ofNat s) (lay b F E I L P nx us)) (dTint t n i s D) := by
  have hgA : gA 15 (lay b F E I L P nx us) (ad b 72) 40 = some (ad b nd) := by rw [gA_sP (by decide) (by decide) (by decide), hP]; rfl
  have r3 := (M_srt h.1.1).2.1
  have st := fun c => M_stopF (b := b) (F := F) (E := E) (P := P) (nx := nx) (us := us) c h.1
  unfold dTint
  by_cases c3 : kd t n (pl t n i) = 3
  · rw [if_neg (fun q => q c3)]
    have r3T : (I 72 28 = 3) = True := by rw [r3]; exact eq_true c3
    have h31 : I 72 31 = num t n i := (h.1.1.2.2.2.2.1 c3).2.1
    by_cases c8 : num t n i < 8
    · rw [if_neg (fun q => q c8)]
      have e1 : iN (Int32.ofNat s) 40 = some s := iN_oN hs (by omega)
      have hg : gA 12 (lay b F E I L P nx us) (ad b nd) 3 = some (ad b (nd + 2)) := by rw [gA_d hK.1 (by decide) rfl]; rfl
      have hss : sI 0 (lay b F E I L P nx us) (ad b (nd + 2)) (Int32.ofNat s) (num t n i) = some (lay b F E (u2 I (nd + 2) (upd (I (nd + 2)) s (num t n i))) L P nx us) := by rw [sI_d (hK.2.1 2 (by decide) (by decide)) (by decide), e1]; rfl
      have h2 := h.row (j := 2) (k := s) (x := num t n i) hnd (by decide) (by decide)
      obtain ⟨r, l, m1, m2, m3⟩ := MD.nxt (b := b) (F := F) (E := E) (P := P) (nx := nx) (us := us) hn hB hnd h2 (by omega) (by omega) (cm_k (by omega))
      refine ⟨none, _, _, ?_, (FDd_r hnd (by decide)).trans m2, rfl, m3⟩
      simp (decide := true) only [f_X15_readTint, r3T, h31, c8, hgA, hg, hss, m1, isO_s, gI_s, gL_s, pI_s, pZ_s, pL_s, aI_s, aL_s, aN_s, aQ_s, sI_s, sL_s, cr, LNs, Option.map_some, Option.map_none, Option.bind_some, b2, tr, lt, if_true, if_false, ckZ, X_within, M_in, inR_z, X_refuse, X_tell, X_deny, X_grant, M_refused, M_denied, M_done, M_granted, u2_same, u2_ne, u2_u2, upd_same, upd_ne, aW0, ixR_z, ixR_1, M_isWall, M_isPainter, M_isWork, X_has4, X_has10, X_at, or_false, false_or, or_true, true_or, not_true, not_false_iff, Option.isSome_some, isO_d, gI_d, gA_d, pI_d, ne_eq, not_false_eq_true, u2_hi, u2_hj, u2_dyn, u2_dynj, Nat.reduceAdd, mX_r, mX_rD, mX_rDj, mM_r, mX_u, mX_uM, mX_uD, mX_uDj, mM_u, mM_uX, mM_uD, mM_uDj, u2_dd, u2_d0, u2_0d]
    · rw [if_pos c8]
      refine MD.stop hnd 3 h ?_
      simp (decide := true) only [f_X15_readTint, r3T, h31, c8, st 3, isO_s, gI_s, gA_s, gL_s, pI_s, pZ_s, pL_s, aI_s, aL_s, aN_s, aQ_s, sI_s, sL_s, cr, LNs, Option.map_some, Option.map_none, Option.bind_some, b2, tr, lt, if_true, if_false, ckZ, X_within, M_in, inR_z, X_refuse, X_tell, X_deny, X_grant, M_refused, M_denied, M_done, M_granted, u2_same, u2_ne, u2_u2, upd_same, upd_ne, aW0, ixR_z, ixR_1, M_isWall, M_isPainter, M_isWork, X_has4, X_has10, X_at, or_false, false_or, or_true, true_or, not_true, not_false_iff, Option.isSome_some, isO_d, gI_d, gA_d, pI_d, ne_eq, not_false_eq_true, u2_hi, u2_hj, u2_dyn, u2_dynj, Nat.reduceAdd, mX_r, mX_rD, mX_rDj, mM_r, mX_u, mX_uM, mX_uD, mX_uDj, mM_u, mM_uX, mM_uD, mM_uDj, u2_dd, u2_d0, u2_0d]
  · rw [if_pos c3]
    have r3T : (I 72 28 = 3) = False := by rw [r3]; exact eq_false c3
    refine MD.stop hnd 1 h ?_
    simp (decide := true) only [f_X15_readTint, r3T, st 1, isO_s, gI_s, gA_s, gL_s, pI_s, pZ_s, pL_s, aI_s, aL_s, aN_s, aQ_s, sI_s, sL_s, cr, LNs, Option.map_some, Option.map_none, Option.bind_some, b2, tr, lt, if_true, if_false, ckZ, X_within, M_in, inR_z, X_refuse, X_tell, X_deny, X_grant, M_refused, M_denied, M_done, M_granted, u2_same, u2_ne, u2_u2, upd_same, upd_ne, aW0, ixR_z, ixR_1, M_isWall, M_isPainter, M_isWork, X_has4, X_has10, X_at, or_false, false_or, or_true, true_or, not_true, not_false_iff, Option.isSome_some, isO_d, gI_d, gA_d, pI_d, ne_eq, not_false_eq_true, u2_hi, u2_hj, u2_dyn, u2_dynj, Nat.reduceAdd, mX_r, mX_rD, mX_rDj, mM_r, mX_u, mX_uM, mX_uD, mX_uDj, mM_u, mM_uX, mM_uD, mM_uDj, u2_dd, u2_d0, u2_0d]
theorem M_dneed {z : ZX} {t : RW} {n nd i bl : Nat} {D : DSt} (k k' : Nat) (hz : GZ b F z) (hn : n ≤ 400) (hB : BY t n) (hnd : 93 ≤ nd) (hk : k' < 30) (hkk : zw k' = zw k) (h : MD t n nd i bl D I L) : DSim b F E P nx us nd t n bl I L (f_X15_needWord z (ad b 72) (z.1 k') (lay b F E I L P nx us)) (dNeed t n i k D) := by
  have w := M_isW (b := b) (F := F) (E := E) (P := P) (nx := nx) (us := us) (k := k') hz hk h.1.1
  have st := M_stopF (b := b) (F := F) (E := E) (P := P) (nx := nx) (us := us) 1 h.1
  have e10 : ((1 : Int32) = 0) = False := by decide
  have hw : isW t n i k' ↔ isW t n i k := by unfold isW; rw [hkk]
  unfold dNeed
  by_cases c : isW t n i k
  · rw [if_pos c]
    rw [if_pos (hw.mpr c)] at w
    obtain ⟨r, l, m1, m2, m3⟩ := MD.nxt (b := b) (F := F) (E := E) (P := P) (nx := nx) (us := us) hn hB hnd h (by have := c.1; omega) (by have := c.1; omega) (cm_k (by have := c.1; omega))
    refine ⟨none, _, _, ?_, m2, rfl, m3⟩
    simp (decide := true) only [f_X15_needWord, w, e10, m1, isO_s, gI_s, gA_s, gL_s, pI_s, pZ_s, pL_s, aI_s, aL_s, aN_s, aQ_s, sI_s, sL_s, cr, LNs, Option.map_some, Option.map_none, Option.bind_some, b2, tr, lt, if_true, if_false, ckZ, X_within, M_in, inR_z, X_refuse, X_tell, X_deny, X_grant, M_refused, M_denied, M_done, M_granted, u2_same, u2_ne, u2_u2, upd_same, upd_ne, aW0, ixR_z, ixR_1, M_isWall, M_isPainter, M_isWork, X_has4, X_has10, X_at, or_false, false_or, or_true, true_or, not_true, not_false_iff, Option.isSome_some, isO_d, gI_d, gA_d, pI_d, ne_eq, not_false_eq_true, u2_hi, u2_hj, u2_dyn, u2_dynj, Nat.reduceAdd, mX_r, mX_rD, mX_rDj, mM_r, mX_u, mX_uM, mX_uD, mX_uDj, mM_u, mM_uX, mM_uD, mM_uDj, u2_dd, u2_d0, u2_0d]
  · rw [if_neg c]
    rw [if_neg (fun q => c (hw.mp q))] at w
    refine MD.stop hnd 1 h ?_
    simp (decide := true) only [f_X15_needWord, w, st, isO_s, gI_s, gA_s, gL_s, pI_s, pZ_s, pL_s, aI_s, aL_s, aN_s, aQ_s, sI_s, sL_s, cr, LNs, Option.map_some, Option.map_none, Option.bind_some, b2, tr, lt, if_true, if_false, ckZ, X_within, M_in, inR_z, X_refuse, X_tell, X_deny, X_grant, M_refused, M_denied, M_done, M_granted, u2_same, u2_ne, u2_u2, upd_same, upd_ne, aW0, ixR_z, ixR_1, M_isWall, M_isPainter, M_isWork, X_has4, X_has10, X_at, or_false, false_or, or_true, true_or, not_true, not_false_iff, Option.isSome_some, isO_d, gI_d, gA_d, pI_d, ne_eq, not_false_eq_true, u2_hi, u2_hj, u2_dyn, u2_dynj, Nat.reduceAdd, mX_r, mX_rD, mX_rDj, mM_r, mX_u, mX_uM, mX_uD, mX_uDj, mM_u, mM_uX, mM_uD, mM_uDj, u2_dd, u2_d0, u2_0d]
end STP2
