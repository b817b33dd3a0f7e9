/-! ===== drawing: the class reads shapes ===== -/
def FXd (bl wc dl : Nat) (I J : Nat → Nat → Int32) (L M : Nat → Nat → Int64) : Prop := (∀ c, c ≠ 40 → c ≠ 44 → c ≠ 45 → c ≠ 46 → c ≠ 47 → c ≠ 48 → c ≠ 50 → c ≠ 51 → J c = I c) ∧ J 40 3 = I 40 3 ∧ (∀ j, j < dl → J 46 j = I 46 j ∧ J 47 j = I 47 j ∧ J 48 j = I 48 j) ∧ (∀ j, j < bl → J 50 j = I 50 j) ∧ (∀ c, c ≠ 49 → M c = L c) ∧ (∀ j, j < wc → M 49 j = L 49 j) ∧ (TYp I → TYp J)
theorem FXd.refl {bl wc dl : Nat} {I : Nat → Nat → Int32} {L : Nat → Nat → Int64} : FXd bl wc dl I I L L := ⟨fun _ _ _ _ _ _ _ _ _ => rfl, rfl, fun _ _ => ⟨rfl, rfl, rfl⟩, fun _ _ => rfl, fun _ _ => rfl, fun _ _ => rfl, fun h => h⟩
theorem FXd.trans {bl wc dl bl2 wc2 dl2 : Nat} {I J K : Nat → Nat → Int32} {L M N : Nat → Nat → Int64} (h : FXd bl wc dl I J L M) (h' : FXd bl2 wc2 dl2 J K M N) (h1 : bl ≤ bl2) (h2 : wc ≤ wc2) (h3 : dl ≤ dl2) : FXd bl wc dl I K L N := ⟨fun c c1 c2 c3 c4 c5 c6 c7 c8 => (h'.1 c c1 c2 c3 c4 c5 c6 c7 c8).trans (h.1 c c1 c2 c3 c4 c5 c6 c7 c8), h'.2.1.trans h.2.1, fun j hj => ⟨(h'.2.2.1 j (by omega)).1.trans (h.2.2.1 j hj).1, (h'.2.2.1 j (by omega)).2.1.trans (h.2.2.1 j hj).2.1, (h'.2.2.1 j (by omega)).2.2.trans (h.2.2.1 j hj).2.2⟩, fun j hj => (h'.2.2.2.1 j (by omega)).trans (h.2.2.2.1 j hj), fun c hc => (h'.2.2.2.2.1 c hc).trans (h.2.2.2.2.1 c hc), fun j hj => (h'.2.2.2.2.2.1 j (by omega)).trans (h.2.2.2.2.2.1 j hj), fun q => h'.2.2.2.2.2.2 (h.2.2.2.2.2.2 q)⟩
theorem FXs.d {sc dl bl wc : Nat} {I J : Nat → Nat → Int32} {L : Nat → Nat → Int64} (h : FXs sc dl I J) : FXd bl wc dl I J L L := ⟨fun c c1 c2 c3 c4 c5 c6 _ c8 => h.1 c c1 c2 c3 c4 c5 c6 c8, h.2.1, h.2.2.2.2.1, fun j _ => by rw [h.1 50 (by decide) (by decide) (by decide) (by decide) (by decide) (by decide) (by decide)], fun _ _ => rfl, fun _ _ => rfl, h.2.2.2.2.2.2⟩
/-- sums one behind the other; ib bounds their items -/
def SumsAt (R : Nat → RW) (dd dv : RW) (ib s : Nat) : Nat → Nat → Nat → Nat → Prop
  | 0, _, o, o' => o = o'
  | m + 1, k, o, o' => ∃ o1, (∃ e, R 8 (4 * s + k) = Int32.ofNat e ∧ e ≤ ib ∧ e ≤ 240) ∧ SumAt R dd dv s k o o1 ∧ o ≤ o1 ∧ SumsAt R dd dv ib s m (k + 1) o1 o'
theorem SumsAt_le {R : Nat → RW} {dd dv : RW} {ib s : Nat} : ∀ (m k o o' : Nat), SumsAt R dd dv ib s m k o o' → o ≤ o' := by
  intro m
  induction m with
  | zero => intro k o o' h; exact Nat.le_of_eq h
  | succ m ih =>
    intro k o o' h
    obtain ⟨o1, -, -, h1, h2⟩ := h
    have := ih _ _ _ h2
    omega
/-- sums stay where their rows stay -/
theorem SumsAt_fr {R R' : Nat → RW} {dd dv dd' dv' : RW} {ib ib' s : Nat} (hib : ib ≤ ib') (h9 : ∀ x, x < ib → R' 9 x = R 9 x ∧ R' 10 x = R 10 x) : ∀ (m k o o' : Nat), (∀ x, k ≤ x → x < k + m → R' 7 (4 * s + x) = R 7 (4 * s + x) ∧ R' 8 (4 * s + x) = R 8 (4 * s + x)) → (∀ j, o ≤ j → j < o' → dd' j = dd j ∧ dv' j = dv j) → SumsAt R dd dv ib s m k o o' → SumsAt R' dd' dv' ib' s m k o o' := by
  intro m
  induction m with
  | zero => intro k o o' _ _ h; exact h
  | succ m ih =>
    intro k o o' h7 hd h
    obtain ⟨o1, ⟨e, e1, e2, e3⟩, ⟨a, e', s1, s2, s3, s4, s5, s6, s7⟩, h1, h2⟩ := h
    have hle := SumsAt_le _ _ _ _ h2
    obtain ⟨g7, g8⟩ := h7 k (Nat.le_refl _) (by omega)
    have hee : e' = e := (oN_eq (by omega) (by omega)).mp (s2.symm.trans e1)
    subst hee
    refine ⟨o1, ⟨e', g8.trans e1, by omega, e3⟩, ⟨a, e', g7.trans s1, g8.trans s2, s3, s4, s5, ?_, dOK_fr _ _ _ _ (fun j _ j2 => h9 j (by omega)) s7⟩, h1, ih (k + 1) o1 o' (fun x x1 x2 => h7 x (by omega) (by omega)) (fun j j1 j2 => hd j (by omega) j2) h2⟩
    intro j hj
    obtain ⟨d1, d2⟩ := hd (o + j) (by omega) (by omega)
    obtain ⟨r1, r2⟩ := h9 (a + j) (by omega)
    rw [d1, d2, r1, r2]
    exact s6 j hj
theorem SumsAt_snoc {R : Nat → RW} {dd dv : RW} {ib s : Nat} : ∀ (m k o o1 o2 : Nat), SumsAt R dd dv ib s m k o o1 → (∃ e, R 8 (4 * s + (k + m)) = Int32.ofNat e ∧ e ≤ ib ∧ e ≤ 240) → SumAt R dd dv s (k + m) o1 o2 → o1 ≤ o2 → SumsAt R dd dv ib s (m + 1) k o o2 := by
  intro m
  induction m with
  | zero =>
    intro k o o1 o2 h he h1 h2
    have : o = o1 := h
    subst this
    exact ⟨o2, he, h1, h2, rfl⟩
  | succ m ih =>
    intro k o o1 o2 h he h1 h2
    obtain ⟨o3, g1, g2, g3, g4⟩ := h
    refine ⟨o3, g1, g2, g3, ih (k + 1) o3 o1 o2 g4 ?_ ?_ h2⟩
    · rw [show k + 1 + m = k + (m + 1) by omega]; exact he
    · rw [show k + 1 + m = k + (m + 1) by omega]; exact h1
theorem XDs.adv {t : RW} {n la i st pa bl dl wc : Nat} {I : Nat → Nat → Int32} {L : Nat → Nat → Int64} (h : XDs t n la i st pa bl dl wc I L) (hi : i < la) : XDs t n la (i + 1) st pa bl dl wc (aVv I (i + 1)) L := by
  obtain ⟨a1, a2, a3, a4, a5, a6, a7, a8, a9⟩ := h
  exact ⟨aVv_TX a1, by omega, aVv_4, by rw [aVv_40 (by decide)]; exact a4, by rw [aVv_ne (by decide)]; exact a5, by rw [aVv_ne (by decide)]; exact a6, by rw [aVv_ne (by decide)]; exact a7, by rw [aVv_ne (by decide)]; exact a8, by rw [aVv_ne (by decide)]; exact a9⟩
theorem XDs.put {t : RW} {n la i st pa bl dl wc : Nat} {d v : Int32} {I : Nat → Nat → Int32} {L : Nat → Nat → Int64} (h : XDs t n la i st pa bl dl wc I L) : XDs t n la i st pa bl (dl + 1) wc (xPt dl d v I) L := by
  obtain ⟨a1, a2, a3, a4, a5, a6, a7, a8, a9⟩ := h
  have e : ∀ c, c ≠ 45 → c ≠ 46 → c ≠ 47 → c ≠ 48 → xPt dl d v I c = I c := fun c a b c d => xPt_ne a b c d
  have e40 := e 40 (by decide) (by decide) (by decide) (by decide)
  have e44 := e 44 (by decide) (by decide) (by decide) (by decide)
  exact ⟨a1.fr (by rw [e40]) (e 41 (by decide) (by decide) (by decide) (by decide)) (e 42 (by decide) (by decide) (by decide) (by decide)) (e 148 (by decide) (by decide) (by decide) (by decide)), a2, by rw [e40]; exact a3, by rw [e40]; exact a4, by rw [e44]; exact a5, by rw [e44]; exact a6, by rw [e44]; exact a7, by rw [xPt_r.1, upd_same], by rw [xPt_r.1, upd_ne (by decide)]; exact a9⟩
section STP6
variable {b : Nat} {F : Nat → Option AE} {D E : Nat → Option KD} {I : Nat → Nat → Int32} {L : Nat → Nat → Int64} {P : Nat → Nat → Option Nat} {nx us : Nat}
theorem X_colour {t : RW} {n la i st pa bl dl wc : Nat} (hLA : LA t n la) (h : XDs t n la i st pa bl dl wc I L) : f_X2_readColour (ad b 44) (lay b F E I L P nx us) = if kd t n (pl t n i) ≠ 3 then some (-1, lay b F E (aF I 1 (pl t n i)) L P nx us) else if ¬ num t n i < 8 then some (-1, lay b F E (aF I 3 (pl t n i)) L P nx us) else some (num t n i, lay b F E (aVv I (i + 1)) L P nx us) := by
  obtain ⟨a1, a2, a3, a4, a5, a6, a7, a8, a9⟩ := h
  have hkd := X_kind (b := b) (F := F) (E := E) (P := P) (nx := nx) (us := us) a1 a2 a3
  have hvl := X_value (b := b) (F := F) (E := E) (P := P) (nx := nx) (us := us) a1 a2 a3
  have hfl := fun c => X_failF (b := b) (F := F) (E := E) (P := P) (nx := nx) (us := us) c a1 a2 a3
  have hle := kd_le (t := t) (n := n) (k := pl t n i)
  have h3 : (Int32.ofNat (kd t n (pl t n i)) = 3) = (kd t n (pl t n i) = 3) := propext (oN_eq (c := 3) (by omega) (by omega))
  by_cases c3 : kd t n (pl t n i) = 3
  · have hv2 : (L 43 i).toInt32 = num t n i := by
      rw [(a1.2.2.1 i a2).2.2 (by omega), kd_3 c3]
      exact i6432 _
    have hil := LA_lt hLA a2 (show kd t n (pl t n i) ≠ 0 by omega) (show kd t n (pl t n i) ≠ 1 by omega)
    have hav := X_advV (b := b) (F := F) (E := E) (P := P) (nx := nx) (us := us) a1 hil a3
    rw [if_neg (fun q => q c3)]
    by_cases c8 : num t n i < 8
    · rw [if_neg (fun q => q c8)]
      simp (decide := true) only [f_X2_readColour, hkd, h3, c3, hvl, hv2, c8, hav, isO_s, gI_s, gA_s, gL_s, pI_s, pZ_s, pL_s, aI_s, aL_s, aN_s, aQ_s, sI_s, sL_s, cr, LNs, Option.map_some, Option.map_none, Option.bind_some, b2, tr, lt, if_true, if_false, ckZ, X_within, M_in, inR_z, X_refuse, X_tell, X_deny, X_grant, M_refused, M_denied, M_done, M_granted, u2_same, u2_ne, u2_u2, upd_same, upd_ne, aW0, ixR_z, ixR_1, M_isWall, M_isPainter, M_isWork, X_has4, X_has10, X_at, or_false, false_or, or_true, true_or, not_true, not_false_iff, Option.isSome_some, isO_d, gI_d, gA_d, pI_d, ne_eq, not_false_eq_true, u2_hi, u2_hj, u2_dyn, u2_dynj, Nat.reduceAdd, mX_r, mX_rD, mX_rDj, mM_r, mX_u, mX_uM, mX_uD, mX_uDj, mM_u, mM_uX, mM_uD, mM_uDj, u2_dd, u2_d0, u2_0d]
    · rw [if_pos c8]
      simp (decide := true) only [f_X2_readColour, hkd, h3, c3, hvl, hv2, c8, hfl 3, isO_s, gI_s, gA_s, gL_s, pI_s, pZ_s, pL_s, aI_s, aL_s, aN_s, aQ_s, sI_s, sL_s, cr, LNs, Option.map_some, Option.map_none, Option.bind_some, b2, tr, lt, if_true, if_false, ckZ, X_within, M_in, inR_z, X_refuse, X_tell, X_deny, X_grant, M_refused, M_denied, M_done, M_granted, u2_same, u2_ne, u2_u2, upd_same, upd_ne, aW0, ixR_z, ixR_1, M_isWall, M_isPainter, M_isWork, X_has4, X_has10, X_at, or_false, false_or, or_true, true_or, not_true, not_false_iff, Option.isSome_some, isO_d, gI_d, gA_d, pI_d, ne_eq, not_false_eq_true, u2_hi, u2_hj, u2_dyn, u2_dynj, Nat.reduceAdd, mX_r, mX_rD, mX_rDj, mM_r, mX_u, mX_uM, mX_uD, mX_uDj, mM_u, mM_uX, mM_uD, mM_uDj, u2_dd, u2_d0, u2_0d]
  · rw [if_pos c3]
    simp (decide := true) only [f_X2_readColour, hkd, h3, c3, hfl 1, isO_s, gI_s, gA_s, gL_s, pI_s, pZ_s, pL_s, aI_s, aL_s, aN_s, aQ_s, sI_s, sL_s, cr, LNs, Option.map_some, Option.map_none, Option.bind_some, b2, tr, lt, if_true, if_false, ckZ, X_within, M_in, inR_z, X_refuse, X_tell, X_deny, X_grant, M_refused, M_denied, M_done, M_granted, u2_same, u2_ne, u2_u2, upd_same, upd_ne, aW0, ixR_z, ixR_1, M_isWall, M_isPainter, M_isWork, X_has4, X_has10, X_at, or_false, false_or, or_true, true_or, not_true, not_false_iff, Option.isSome_some, isO_d, gI_d, gA_d, pI_d, ne_eq, not_false_eq_true, u2_hi, u2_hj, u2_dyn, u2_dynj, Nat.reduceAdd, mX_r, mX_rD, mX_rDj, mM_r, mX_u, mX_uM, mX_uD, mX_uDj, mM_u, mM_uX, mM_uD, mM_uDj, u2_dd, u2_d0, u2_0d]
/-- the sums of a shape, then its deed -/
theorem X_shp {z : ZX} {t : RW} {n la s bl wc N w : Nat} {c : Int32} (hz : GZ b F z) (hLA : LA t n la) (hla : la ≤ 400) (hN : N ≤ 4) (hw : w < 100) (hc : VL c) : ∀ (m k : Nat), k + m = N → ∀ (fu i o dl : Nat) (D : DSt) (I : Nat → Nat → Int32), m < fu → DB la i D → dl ≤ 118 + D.2.2.1 → XDs t n la i D.1 D.2.1 bl dl wc I L → SumsAt D.2.2.2.1 (I 46) (I 47) D.2.2.1 s k 0 o dl → match dSums t n s (fun i D => .inr (i, D)) m k i D with
    | .inl (x, j) => ∃ K, f_X2_readShape_15 fu (ad b 44) (Int32.ofNat w) (Int32.ofNat N) c (Int32.ofNat k) (lay b F E I L P nx us) = some (0, lay b F E (aF K x (pl t n j)) L P nx us) ∧ FXs 0 dl I K
    | .inr (i1, D1) => ∃ K d, f_X2_readShape_15 fu (ad b 44) (Int32.ofNat w) (Int32.ofNat N) c (Int32.ofNat k) (lay b F E I L P nx us) = some (1, lay b F E K L P nx us) ∧ XDs t n la i1 D1.1 D1.2.1 bl (d + 1) wc K L ∧ FXs 0 dl I K ∧ dl ≤ d ∧ d + D.2.2.1 = dl + D1.2.2.1 ∧ SumsAt D1.2.2.2.1 (K 46) (K 47) D1.2.2.1 s N 0 o d ∧ K 46 d = Int32.ofNat w ∧ K 47 d = c ∧ D1.1 = D.1 ∧ D1.2.2.2.2 = D.2.2.2.2 ∧ (∀ j, j ≠ 7 → j ≠ 8 → j ≠ 9 → j ≠ 10 → D1.2.2.2.1 j = D.2.2.2.1 j) ∧ (∀ x, (x < 4 * s + k ∨ 4 * s + N ≤ x) → D1.2.2.2.1 7 x = D.2.2.2.1 7 x ∧ D1.2.2.2.1 8 x = D.2.2.2.1 8 x) ∧ D.2.2.1 ≤ D1.2.2.1 ∧ (∀ x, x < D.2.2.1 → D1.2.2.2.1 9 x = D.2.2.2.1 9 x ∧ D1.2.2.2.1 10 x = D.2.2.2.1 10 x) ∧ DB la i1 D1 := by
  intro m
  induction m with
  | zero =>
    intro k hk fu i o dl D I hf hD hdl h hS
    obtain ⟨fu, rfl⟩ : ∃ e, fu = e + 1 := ⟨fu - 1, by omega⟩
    have : k = N := by omega
    subst this
    have hit := hD.2.2.2
    have hpa := hD.2.2.1
    have hpt := X_dput (b := b) (F := F) (E := E) (L := L) (P := P) (nx := nx) (us := us) (I := I) (dl := dl) w hw hc h.2.2.2.2.2.2.2.1 (by omega)
    refine ⟨xPt dl (Int32.ofNat w) c I, dl, ?_, h.put, FXs_P (fb_d w hw) hc (Nat.le_refl _), Nat.le_refl _, by omega, ?_, ?_, ?_, rfl, rfl, fun _ _ _ _ _ => rfl, fun _ _ => ⟨rfl, rfl⟩, Nat.le_refl _, fun _ _ => ⟨rfl, rfl⟩, hD⟩
    · simp (decide := true) only [f_X2_readShape_15, Int32.le_refl, hpt, isO_s, gI_s, gA_s, gL_s, pI_s, pZ_s, pL_s, aI_s, aL_s, aN_s, aQ_s, sI_s, sL_s, cr, LNs, Option.map_some, Option.map_none, Option.bind_some, b2, tr, lt, if_true, if_false, ckZ, X_within, M_in, inR_z, X_refuse, X_tell, X_deny, X_grant, M_refused, M_denied, M_done, M_granted, u2_same, u2_ne, u2_u2, upd_same, upd_ne, aW0, ixR_z, ixR_1, M_isWall, M_isPainter, M_isWork, X_has4, X_has10, X_at, or_false, false_or, or_true, true_or, not_true, not_false_iff, Option.isSome_some, isO_d, gI_d, gA_d, pI_d, ne_eq, not_false_eq_true, u2_hi, u2_hj, u2_dyn, u2_dynj, Nat.reduceAdd, mX_r, mX_rD, mX_rDj, mM_r, mX_u, mX_uM, mX_uD, mX_uDj, mM_u, mM_uX, mM_uD, mM_uDj, u2_dd, u2_d0, u2_0d]
    · refine SumsAt_fr (Nat.le_refl _) (fun _ _ => ⟨rfl, rfl⟩) k 0 o dl (fun _ _ _ => ⟨rfl, rfl⟩) ?_ hS
      intro j _ j2
      rw [xPt_r.2.1, xPt_r.2.2.1, upd_ne (by omega), upd_ne (by omega)]
      exact ⟨rfl, rfl⟩
    · rw [xPt_r.2.1, upd_same]
    · rw [xPt_r.2.2.1, upd_same]
  | succ m ih =>
    intro k hk fu i o dl D I hf hD hdl h hS
    obtain ⟨fu, rfl⟩ : ∃ e, fu = e + 1 := ⟨fu - 1, by omega⟩
    have e := oN_leF (show k < N by omega) (by omega)
    have e10 : ((1 : Int32) = 0) = False := by decide
    have g := X_rs (b := b) (F := F) (E := E) (L := L) (P := P) (nx := nx) (us := us) (s := s) (k := k) hz hLA hla hD hdl h
    show match dThen (dSum t n i s k D) (fun i D => dSums t n s (fun i D => .inr (i, D)) m (k + 1) i D) with
      | .inl (x, j) => _
      | .inr (i1, D1) => _
    cases hout : dSum t n i s k D with
    | inl q =>
      obtain ⟨x, j⟩ := q
      rw [hout] at g
      obtain ⟨K, g1, g2⟩ := g
      refine ⟨K, ?_, g2⟩
      simp (decide := true) only [f_X2_readShape_15, e, g1, isO_s, gI_s, gA_s, gL_s, pI_s, pZ_s, pL_s, aI_s, aL_s, aN_s, aQ_s, sI_s, sL_s, cr, LNs, Option.map_some, Option.map_none, Option.bind_some, b2, tr, lt, if_true, if_false, ckZ, X_within, M_in, inR_z, X_refuse, X_tell, X_deny, X_grant, M_refused, M_denied, M_done, M_granted, u2_same, u2_ne, u2_u2, upd_same, upd_ne, aW0, ixR_z, ixR_1, M_isWall, M_isPainter, M_isWork, X_has4, X_has10, X_at, or_false, false_or, or_true, true_or, not_true, not_false_iff, Option.isSome_some, isO_d, gI_d, gA_d, pI_d, ne_eq, not_false_eq_true, u2_hi, u2_hj, u2_dyn, u2_dynj, Nat.reduceAdd, mX_r, mX_rD, mX_rDj, mM_r, mX_u, mX_uM, mX_uD, mX_uDj, mM_u, mM_uX, mM_uD, mM_uDj, u2_dd, u2_d0, u2_0d]
    | inr q =>
      obtain ⟨i1, D1⟩ := q
      rw [hout] at g
      obtain ⟨K, dl1, g1, g2, g3, g4, g5, g6⟩ := g
      have hb := dSum_b hLA hD hout
      obtain ⟨s1, f1, f2, f3, f4, f5, f6, f7, f8, f9, f10⟩ := dSum_fr hout
      have hfr := pS_fr 5000 0 i 0 (dSs D) i1 s1 f1
      have hfr1 : D.2.2.1 ≤ D1.2.2.1 := by rw [f3]; exact hfr.1
      have hfr2 : ∀ x, x < D.2.2.1 → D1.2.2.2.1 9 x = D.2.2.2.1 9 x ∧ D1.2.2.2.1 10 x = D.2.2.2.1 10 x := fun x hx => by rw [f4, f5]; exact hfr.2 x hx
      have hb2 : D1.2.2.1 ≤ 240 := by have a := hb.1.2.2.2; have c := hb.1.2.2.1; omega
      have hS1 : SumsAt D1.2.2.2.1 (K 46) (K 47) D1.2.2.1 s k 0 o dl := by
        refine SumsAt_fr hfr1 hfr2 k 0 o dl ?_ ?_ hS
        · intro x _ x2
          rw [f9, f10, upd_ne (by omega), upd_ne (by omega)]
          exact ⟨rfl, rfl⟩
        · intro j _ j2
          exact ⟨(g3.2.2.2.2.1 j j2).1, (g3.2.2.2.2.1 j j2).2.1⟩
      have hS2 : SumsAt D1.2.2.2.1 (K 46) (K 47) D1.2.2.1 s (k + 1) 0 o dl1 := SumsAt_snoc k 0 o dl dl1 hS1 (by rw [Nat.zero_add]; exact ⟨D1.2.2.1, by rw [f10, upd_same, f3], Nat.le_refl _, hb2⟩) (by rw [Nat.zero_add]; exact g6) g4
      have ih' := ih (k + 1) (by omega) fu i1 o dl1 D1 K (by omega) hb.1 (by omega) g2 hS2
      have hrun : f_X2_readShape_15 (fu + 1) (ad b 44) (Int32.ofNat w) (Int32.ofNat N) c (Int32.ofNat k) (lay b F E I L P nx us) = f_X2_readShape_15 fu (ad b 44) (Int32.ofNat w) (Int32.ofNat N) c (Int32.ofNat (k + 1)) (lay b F E K L P nx us) := by
        simp (decide := true) only [f_X2_readShape_15, e, g1, e10, oN_succ, isO_s, gI_s, gA_s, gL_s, pI_s, pZ_s, pL_s, aI_s, aL_s, aN_s, aQ_s, sI_s, sL_s, cr, LNs, Option.map_some, Option.map_none, Option.bind_some, b2, tr, lt, if_true, if_false, ckZ, X_within, M_in, inR_z, X_refuse, X_tell, X_deny, X_grant, M_refused, M_denied, M_done, M_granted, u2_same, u2_ne, u2_u2, upd_same, upd_ne, aW0, ixR_z, ixR_1, M_isWall, M_isPainter, M_isWork, X_has4, X_has10, X_at, or_false, false_or, or_true, true_or, not_true, not_false_iff, Option.isSome_some, isO_d, gI_d, gA_d, pI_d, ne_eq, not_false_eq_true, u2_hi, u2_hj, u2_dyn, u2_dynj, Nat.reduceAdd, mX_r, mX_rD, mX_rDj, mM_r, mX_u, mX_uM, mX_uD, mX_uDj, mM_u, mM_uX, mM_uD, mM_uDj, u2_dd, u2_d0, u2_0d]
      rw [hrun]
      show match dSums t n s (fun i D => .inr (i, D)) m (k + 1) i1 D1 with
        | .inl (x, j) => _
        | .inr (i1, D1) => _
      cases hout2 : dSums t n s (fun i D => .inr (i, D)) m (k + 1) i1 D1 with
      | inl q =>
        obtain ⟨x, j⟩ := q
        rw [hout2] at ih'
        obtain ⟨K2, y1, y2⟩ := ih'
        exact ⟨K2, y1, g3.trans y2 (Nat.le_refl _) g4⟩
      | inr q =>
        obtain ⟨i2, D2⟩ := q
        rw [hout2] at ih'
        obtain ⟨K2, d, y1, y2, y3, y4, y5, y6, y7, y8, y9, ya, yb, yc, yd, ye, yf⟩ := ih'
        refine ⟨K2, d, y1, y2, g3.trans y3 (Nat.le_refl _) g4, by omega, by omega, y6, y7, y8, y9.trans f6, ya.trans f7, ?_, ?_, by omega, ?_, yf⟩
        · intro j j7 j8 j9 j10
          rw [yb j j7 j8 j9 j10, f8 j j7 j8 j9 j10]
        · intro x hx
          rw [(yc x (by omega)).1, (yc x (by omega)).2, f9, f10, upd_ne (by omega), upd_ne (by omega)]
          exact ⟨rfl, rfl⟩
        · intro x hx
          rw [(ye x (by omega)).1, (ye x (by omega)).2]
          exact hfr2 x hx
end STP6
