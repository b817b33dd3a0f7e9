/-! ===== painting: say, whole ===== -/
theorem inW {p : Int32} {m : Nat} (m1 : 1 ≤ m) (m2 : m ≤ 16) : (inR p 0 (Int32.ofNat m - 1) = 0) = ¬ (¬ p < 0 ∧ p < Int32.ofNat m) := by
  have e : Int32.ofNat m - 1 = Int32.ofNat (m - 1) := by
    obtain ⟨k, rfl⟩ : ∃ k, m = k + 1 := ⟨m - 1, by omega⟩
    exact oN_pred k
  rw [inR_z, e]
  apply propext
  constructor
  · intro h1 h2
    obtain ⟨k, hk, rfl⟩ := nn_oN h2.1
    have h3 := (oN_lt hk (by omega)).mp h2.2
    rcases h1 with h1 | h1
    · exact h2.1 h1
    · have := (oN_lt (by omega) hk).mp h1
      omega
  · intro h
    by_cases c : p < 0
    · exact Or.inl c
    · obtain ⟨k, hk, rfl⟩ := nn_oN c
      refine Or.inr ((oN_lt (by omega) hk).mpr ?_)
      have : ¬ k < m := fun q => h ⟨c, (oN_lt hk (by omega)).mpr q⟩
      omega
theorem cr12 {r : Nat} : ∀ j, 1 ≤ j → j ≤ 11 → fk 12 (j + 1) = 2 ∧ cr 12 r (j + 1) = some (r + j) := by
  intro j h1 h2
  rcases (show j = 1 ∨ j = 2 ∨ j = 3 ∨ j = 4 ∨ j = 5 ∨ j = 6 ∨ j = 7 ∨ j = 8 ∨ j = 9 ∨ j = 10 ∨ j = 11 by omega) with rfl | rfl | rfl | rfl | rfl | rfl | rfl | rfl | rfl | rfl | rfl <;> exact ⟨by decide, rfl⟩
theorem K12.row {E : Nat → Option KD} {r j : Nat} (h : K12 E r) (h1 : 1 ≤ j) (h2 : j ≤ 10) : ∃ n, kdf E (r + j) = some (.inl (0, n)) ∧ 40 ≤ n ∧ n ≤ 400 ∧ (7 ≤ j → 160 ≤ n) ∧ (9 ≤ j → 400 ≤ n) := by
  obtain ⟨a0, a1, a7, a8, a9, aa, ab⟩ := h
  rcases (show j ≤ 6 ∨ j = 7 ∨ j = 8 ∨ j = 9 ∨ j = 10 by omega) with q | rfl | rfl | rfl | rfl
  · exact ⟨40, a1 j h1 q, by omega, by omega, by omega, by omega⟩
  · exact ⟨160, a7, by omega, by omega, by omega, by omega⟩
  · exact ⟨160, a8, by omega, by omega, by omega, by omega⟩
  · exact ⟨400, a9, by omega, by omega, by omega, by omega⟩
  · exact ⟨400, aa, by omega, by omega, by omega, by omega⟩
/-- where a drawing of the reference may lie -/
def RD (r : Nat) : Prop := r = 93 ∨ 149 ≤ r
section SAY2
variable {b : Nat} {F : Nat → Option AE} {D E : Nat → Option KD} {I : Nat → Nat → Int32} {L : Nat → Nat → Int64} {P : Nat → Nat → Option Nat} {nx us : Nat}
theorem M_ra {α : Type} {r k j i : Nat} (hK : K12 E r) (hk : k = j + 1) (h1 : 1 ≤ j) (h2 : j ≤ 10) (hi : i < 40 ∨ (7 ≤ j ∧ i < 160) ∨ (9 ≤ j ∧ i < 400)) (G : Int32 → Option α) : ((gA 12 (lay b F E I L P nx us) (ad b r) k).bind fun a => (aI 0 (lay b F E I L P nx us) a (Int32.ofNat i)).bind G) = G (I (r + j) i) := by
  subst hk
  obtain ⟨n, q1, q2, q3, q4, q5⟩ := hK.row h1 h2
  obtain ⟨c1, c2⟩ := cr12 (r := r) j h1 (by omega)
  have e : iN (Int32.ofNat i) n = some i := iN_oN (by omega) (by omega)
  rw [gA_cr hK.1 c1 c2, Option.bind_some, aI_lay q1 (by decide), e]
  rfl
theorem M_rw {α : Type} {r i : Nat} (hK : K12 E r) (hi : i < 40) (G : Int64 → Option α) : ((gA 12 (lay b F E I L P nx us) (ad b r) 12).bind fun a => (aL (lay b F E I L P nx us) a (Int32.ofNat i)).bind G) = G (L (r + 11) i) := by
  have e : iN (Int32.ofNat i) 40 = some i := iN_oN hi (by omega)
  rw [gA_cr hK.1 (cr12 (r := r) 11 (by decide) (by decide)).1 (cr12 (r := r) 11 (by decide) (by decide)).2, Option.bind_some, aL_lay hK.2.2.2.2.2.2, e]
  rfl
theorem M_saying {W H w r s len : Nat} {ho : RW} {t x y : Int32} (hK : K12 E r) (hr : RD r) (hs : s < 40) (hl : len ≤ 8) : ∀ (m k : Nat) (an : Bool) (I : Nat → Nat → Int32) (fu : Nat), k + m = len → m < fu → MW W H w ho I → I (r + 6) s = Int32.ofNat len → I (r + 2) s = t → f_X15_says_6 fu (ad b 72) (ad b r) (Int32.ofNat s) x y (bZ an) (Int32.ofNat k) (lay b F E I L P nx us) = f_X15_says_99 FU (ad b 72) (ad b r) (Int32.ofNat s) (bZ (syP W H ho t x y m k an (I 106)).1) 0 0 (lay b F E (u2 I 106 (syP W H ho t x y m k an (I 106)).2) L P nx us) := by
  intro m
  induction m with
  | zero =>
    intro k an I fu hk hfu h h6 h2
    obtain ⟨fu, rfl⟩ : ∃ z, fu = z + 1 := ⟨fu - 1, by omega⟩
    unfold f_X15_says_6 syP
    rw [M_ra hK (j := 6) rfl (by decide) (by decide) (Or.inl hs), h6, if_pos (oN_leL (by omega) (by omega)), u2_id]
  | succ m ih =>
    intro k an I fu hk hfu h h6 h2
    obtain ⟨fu, rfl⟩ : ∃ z, fu = z + 1 := ⟨fu - 1, by omega⟩
    have q69 : ∀ an' : Bool, f_X15_says_69 (f_X15_says_6 fu) (ad b 72) (ad b r) (Int32.ofNat s) x y (Int32.ofNat k) (bZ an') (lay b F E I L P nx us) = f_X15_says_6 fu (ad b 72) (ad b r) (Int32.ofNat s) x y (bZ an') (Int32.ofNat (k + 1)) (lay b F E (u2 I 106 (pd W H ho (I 106) (x + Int32.ofNat k) y t)) L P nx us) := by
      intro an'
      unfold f_X15_says_69
      rw [M_ra hK (j := 2) rfl (by decide) (by decide) (Or.inl hs), h2, h.dot, Option.bind_some, oN_succ]
    have go : ∀ an' : Bool, an' = (an || inB W H (x + Int32.ofNat k) y) → f_X15_says_69 (f_X15_says_6 fu) (ad b 72) (ad b r) (Int32.ofNat s) x y (Int32.ofNat k) (bZ an') (lay b F E I L P nx us) = f_X15_says_99 FU (ad b 72) (ad b r) (Int32.ofNat s) (bZ (syP W H ho t x y (m + 1) k an (I 106)).1) 0 0 (lay b F E (u2 I 106 (syP W H ho t x y (m + 1) k an (I 106)).2) L P nx us) := by
      intro an' e
      have e2 : syP W H ho t x y (m + 1) k an (I 106) = syP W H ho t x y m (k + 1) an' (pd W H ho (I 106) (x + Int32.ofNat k) y t) := by rw [e]; rfl
      have := ih (k + 1) an' (u2 I 106 (pd W H ho (I 106) (x + Int32.ofNat k) y t)) fu (by omega) (by omega) h.u6 (by rw [u2_ne (by unfold RD at hr; omega)]; exact h6) (by rw [u2_ne (by unfold RD at hr; omega)]; exact h2)
      rw [u2_same, u2_u2] at this
      rw [q69, e2, this]
    unfold f_X15_says_6
    rw [M_ra hK (j := 6) rfl (by decide) (by decide) (Or.inl hs), h6, if_neg (fun q => by have := (oN_le (by omega) (by omega)).mp q; omega)]
    cases an with
    | true =>
      rw [if_neg (by decide)]
      exact go true rfl
    | false =>
      have g0 : inB W H (x + Int32.ofNat k) y = false → f_X15_says_68 (f_X15_says_6 fu) (ad b 72) (ad b r) (Int32.ofNat s) x y (Int32.ofNat k) (lay b F E I L P nx us) = _ := fun q => go false (by rw [q]; rfl)
      have g1 : inB W H (x + Int32.ofNat k) y = true → f_X15_says_64 (f_X15_says_6 fu) (ad b 72) (ad b r) (Int32.ofNat s) x y (Int32.ofNat k) (lay b F E I L P nx us) = _ := fun q => go true (by rw [q]; rfl)
      rw [if_pos (show bZ false = 0 from rfl), h.wd, M_in, b2_p, h.hg, M_in, b2_p]
      obtain ⟨w1, w2, w3, w4, -⟩ := h
      by_cases c1 : inR (x + Int32.ofNat k) 0 (Int32.ofNat W - 1) = 0
      · rw [if_pos c1]
        rw [inW w1 w2] at c1
        exact g0 (decide_eq_false (fun q => c1 ⟨q.1, q.2.1⟩))
      · rw [if_neg c1]
        rw [inW w1 w2] at c1
        have c1 := Classical.not_not.mp c1
        by_cases c2 : inR y 0 (Int32.ofNat H - 1) = 0
        · rw [if_pos c2]
          rw [inW w3 (by omega)] at c2
          exact g0 (decide_eq_false (fun q => c2 ⟨q.2.2.1, q.2.2.2⟩))
        · rw [if_neg c2]
          rw [inW w3 (by omega)] at c2
          have c2 := Classical.not_not.mp c2
          exact g1 (decide_eq_true ⟨c1.1, c1.2, c2.1, c2.2⟩)
theorem M_shown {r s sm : Nat} {wd : Int64} {an : Bool} (hK : K12 E r) (hs : s < 40) (hm : sm ≤ 40) (h49 : I 72 49 = Int32.ofNat sm) (hw : L (r + 11) s = wd) : ∀ (m k : Nat) (had : Bool) (fu : Nat), k + m = sm → m < fu → ((an = false ∨ had = true ∨ ∃ j, k ≤ j ∧ j < k + m ∧ L 109 j = wd) → f_X15_says_99 fu (ad b 72) (ad b r) (Int32.ofNat s) (bZ an) (bZ had) (Int32.ofNat k) (lay b F E I L P nx us) = some (lay b F E I L P nx us)) ∧ (an = true → ¬ (had = true ∨ ∃ j, k ≤ j ∧ j < k + m ∧ L 109 j = wd) → sm < 40 → f_X15_says_99 fu (ad b 72) (ad b r) (Int32.ofNat s) (bZ an) (bZ had) (Int32.ofNat k) (lay b F E I L P nx us) = some (lay b F E (u2 I 72 (upd (I 72) 49 (Int32.ofNat (sm + 1)))) (u2 L 109 (vp_updL (L 109) sm wd)) P nx us)) := by
  intro m
  have hg : gI 15 (lay b F E I L P nx us) (ad b 72) 49 = some (Int32.ofNat sm) := by simp (decide := true) only [h49, isO_s, gI_s, gA_s, gL_s, pI_s, pZ_s, pL_s, aI_s, aL_s, aN_s, aQ_s, sI_s, sL_s, cr, LNs, Option.map_some, Option.map_none, Option.bind_some, b2, tr, lt, if_true, if_false, ckZ, X_within, M_in, inR_z, X_refuse, X_tell, X_deny, X_grant, M_refused, M_denied, M_done, M_granted, u2_same, u2_ne, u2_u2, upd_same, upd_ne, aW0, ixR_z, ixR_1, M_isWall, M_isPainter, M_isWork, X_has4, X_has10, X_at, or_false, false_or, or_true, true_or, not_true, not_false_iff, Option.isSome_some, isO_d, gI_d, gA_d, pI_d, ne_eq, not_false_eq_true, u2_hi, u2_hj, u2_dyn, u2_dynj, Nat.reduceAdd, mX_r, mX_rD, mX_rDj, mM_r, mX_u, mX_uM, mX_uD, mX_uDj, mM_u, mM_uX, mM_uD, mM_uDj, u2_dd, u2_d0, u2_0d]
  induction m with
  | zero =>
    intro k had fu hk hfu
    obtain ⟨fu, rfl⟩ : ∃ z, fu = z + 1 := ⟨fu - 1, by omega⟩
    have hk' : k = sm := by omega
    subst hk'
    refine ⟨fun h => ?_, fun ha h hm2 => ?_⟩
    · unfold f_X15_says_99
      rw [hg, Option.bind_some, if_pos (Int32.le_refl _)]
      cases an with
      | false => rw [if_pos (show bZ false = 0 from rfl)]; rfl
      | true =>
        cases had with
        | true => rw [if_neg (by decide), if_neg (by decide)]; rfl
        | false =>
          exfalso
          rcases h with h | h | ⟨j, h1, h2, -⟩
          · cases h
          · cases h
          · omega
    · subst ha
      cases had with
      | true => exact absurd (Or.inl rfl) h
      | false =>
        have e1 : iN (Int32.ofNat k) 40 = some k := iN_oN hm2 (by omega)
        have e2 := M_rw (b := b) (F := F) (E := E) (I := I) (L := L) (P := P) (nx := nx) (us := us) hK hs (α := AH)
        unfold f_X15_says_99
        rw [hg, Option.bind_some, if_pos (Int32.le_refl _), if_neg (by decide), if_pos (show bZ false = 0 from rfl)]
        have hg46 : gA 15 (lay b F E I L P nx us) (ad b 72) 46 = some (ad b 109) := by simp (decide := true) only [isO_s, gI_s, gA_s, gL_s, pI_s, pZ_s, pL_s, aI_s, aL_s, aN_s, aQ_s, sI_s, sL_s, cr, LNs, Option.map_some, Option.map_none, Option.bind_some, b2, tr, lt, if_true, if_false, ckZ, X_within, M_in, inR_z, X_refuse, X_tell, X_deny, X_grant, M_refused, M_denied, M_done, M_granted, u2_same, u2_ne, u2_u2, upd_same, upd_ne, aW0, ixR_z, ixR_1, M_isWall, M_isPainter, M_isWork, X_has4, X_has10, X_at, or_false, false_or, or_true, true_or, not_true, not_false_iff, Option.isSome_some, isO_d, gI_d, gA_d, pI_d, ne_eq, not_false_eq_true, u2_hi, u2_hj, u2_dyn, u2_dynj, Nat.reduceAdd, mX_r, mX_rD, mX_rDj, mM_r, mX_u, mX_uM, mX_uD, mX_uDj, mM_u, mM_uX, mM_uD, mM_uDj, u2_dd, u2_d0, u2_0d]
        rw [hg46, Option.bind_some, Option.bind_some, e2, hw]
        simp (decide := true) only [e1, h49, oN_succ, isO_s, gI_s, gA_s, gL_s, pI_s, pZ_s, pL_s, aI_s, aL_s, aN_s, aQ_s, sI_s, sL_s, cr, LNs, Option.map_some, Option.map_none, Option.bind_some, b2, tr, lt, if_true, if_false, ckZ, X_within, M_in, inR_z, X_refuse, X_tell, X_deny, X_grant, M_refused, M_denied, M_done, M_granted, u2_same, u2_ne, u2_u2, upd_same, upd_ne, aW0, ixR_z, ixR_1, M_isWall, M_isPainter, M_isWork, X_has4, X_has10, X_at, or_false, false_or, or_true, true_or, not_true, not_false_iff, Option.isSome_some, isO_d, gI_d, gA_d, pI_d, ne_eq, not_false_eq_true, u2_hi, u2_hj, u2_dyn, u2_dynj, Nat.reduceAdd, mX_r, mX_rD, mX_rDj, mM_r, mX_u, mX_uM, mX_uD, mX_uDj, mM_u, mM_uX, mM_uD, mM_uDj, u2_dd, u2_d0, u2_0d]
  | succ m ih =>
    intro k had fu hk hfu
    obtain ⟨fu, rfl⟩ : ∃ z, fu = z + 1 := ⟨fu - 1, by omega⟩
    have e1 : iN (Int32.ofNat k) 40 = some k := iN_oN (by omega) (by omega)
    have e2 := M_rw (b := b) (F := F) (E := E) (I := I) (L := L) (P := P) (nx := nx) (us := us) hK hs (α := AH)
    have hl : aL (lay b F E I L P nx us) (ad b 109) (Int32.ofNat k) = some (L 109 k) := by simp (decide := true) only [e1, isO_s, gI_s, gA_s, gL_s, pI_s, pZ_s, pL_s, aI_s, aL_s, aN_s, aQ_s, sI_s, sL_s, cr, LNs, Option.map_some, Option.map_none, Option.bind_some, b2, tr, lt, if_true, if_false, ckZ, X_within, M_in, inR_z, X_refuse, X_tell, X_deny, X_grant, M_refused, M_denied, M_done, M_granted, u2_same, u2_ne, u2_u2, upd_same, upd_ne, aW0, ixR_z, ixR_1, M_isWall, M_isPainter, M_isWork, X_has4, X_has10, X_at, or_false, false_or, or_true, true_or, not_true, not_false_iff, Option.isSome_some, isO_d, gI_d, gA_d, pI_d, ne_eq, not_false_eq_true, u2_hi, u2_hj, u2_dyn, u2_dynj, Nat.reduceAdd, mX_r, mX_rD, mX_rDj, mM_r, mX_u, mX_uM, mX_uD, mX_uDj, mM_u, mM_uX, mM_uD, mM_uDj, u2_dd, u2_d0, u2_0d]
    have hg46 : gA 15 (lay b F E I L P nx us) (ad b 72) 46 = some (ad b 109) := by simp (decide := true) only [isO_s, gI_s, gA_s, gL_s, pI_s, pZ_s, pL_s, aI_s, aL_s, aN_s, aQ_s, sI_s, sL_s, cr, LNs, Option.map_some, Option.map_none, Option.bind_some, b2, tr, lt, if_true, if_false, ckZ, X_within, M_in, inR_z, X_refuse, X_tell, X_deny, X_grant, M_refused, M_denied, M_done, M_granted, u2_same, u2_ne, u2_u2, upd_same, upd_ne, aW0, ixR_z, ixR_1, M_isWall, M_isPainter, M_isWork, X_has4, X_has10, X_at, or_false, false_or, or_true, true_or, not_true, not_false_iff, Option.isSome_some, isO_d, gI_d, gA_d, pI_d, ne_eq, not_false_eq_true, u2_hi, u2_hj, u2_dyn, u2_dynj, Nat.reduceAdd, mX_r, mX_rD, mX_rDj, mM_r, mX_u, mX_uM, mX_uD, mX_uDj, mM_u, mM_uX, mM_uD, mM_uDj, u2_dd, u2_d0, u2_0d]
    have hrun : f_X15_says_99 (fu + 1) (ad b 72) (ad b r) (Int32.ofNat s) (bZ an) (bZ had) (Int32.ofNat k) (lay b F E I L P nx us) = f_X15_says_99 fu (ad b 72) (ad b r) (Int32.ofNat s) (bZ an) (bZ (had || decide (L 109 k = wd))) (Int32.ofNat (k + 1)) (lay b F E I L P nx us) := by
      conv => lhs; unfold f_X15_says_99 f_X15_says_130 f_X15_says_135
      rw [hg, Option.bind_some, if_neg (fun q => by have := (oN_le (by omega) (by omega)).mp q; omega), oN_succ]
      cases had with
      | true => rw [if_neg (by decide)]; rfl
      | false =>
        rw [if_pos (show bZ false = 0 from rfl), hg46, Option.bind_some, hl, Option.bind_some, e2, hw]
        by_cases c : L 109 k = wd
        · rw [if_pos ((cmp_eq _ _).mpr c), decide_eq_true c]; rfl
        · rw [if_neg (fun q => c ((cmp_eq _ _).mp q)), decide_eq_false c]; rfl
    obtain ⟨i1, i2⟩ := ih (k + 1) (had || decide (L 109 k = wd)) fu (by omega) (by omega)
    rw [hrun]
    refine ⟨fun h => i1 ?_, fun ha h hm2 => i2 ha ?_ hm2⟩
    · rcases h with h | h | ⟨j, h1, h2, h3⟩
      · exact Or.inl h
      · exact Or.inr (Or.inl (by rw [h]; rfl))
      · by_cases hj : j = k
        · subst hj
          exact Or.inr (Or.inl (by rw [decide_eq_true h3, Bool.or_true]))
        · exact Or.inr (Or.inr ⟨j, by omega, by omega, h3⟩)
    · intro q
      rcases q with q | ⟨j, h1, h2, h3⟩
      · rcases Bool.or_eq_true_iff.mp q with q | q
        · exact h (Or.inl q)
        · exact h (Or.inr ⟨k, Nat.le_refl _, by omega, of_decide_eq_true q⟩)
      · exact h (Or.inr ⟨j, by omega, by omega, h3⟩)
theorem M_says {W H w r s len sm : Nat} {ho : RW} {t x y : Int32} {wd : Int64} (hK : K12 E r) (hr : RD r) (hs : s < 40) (hl : len ≤ 8) (h : MW W H w ho I) (h6 : I (r + 6) s = Int32.ofNat len) (h2 : I (r + 2) s = t) (hm : sm ≤ 40) (h49 : I 72 49 = Int32.ofNat sm) (hw : L (r + 11) s = wd) : (((syP W H ho t x y len 0 false (I 106)).1 = false ∨ ∃ j, j < sm ∧ L 109 j = wd) → f_X15_says (ad b 72) (ad b r) (Int32.ofNat s) x y (lay b F E I L P nx us) = some (lay b F E (u2 I 106 (syP W H ho t x y len 0 false (I 106)).2) L P nx us)) ∧ ((syP W H ho t x y len 0 false (I 106)).1 = true → (¬ ∃ j, j < sm ∧ L 109 j = wd) → sm < 40 → f_X15_says (ad b 72) (ad b r) (Int32.ofNat s) x y (lay b F E I L P nx us) = some (lay b F E (u2 (u2 I 106 (syP W H ho t x y len 0 false (I 106)).2) 72 (upd (I 72) 49 (Int32.ofNat (sm + 1)))) (u2 L 109 (vp_updL (L 109) sm wd)) P nx us)) := by
  have hrun := M_saying (b := b) (F := F) (E := E) (L := L) (P := P) (nx := nx) (us := us) (t := t) (x := x) (y := y) hK hr hs hl len 0 false I FU (by omega) (by unfold FU; omega) h h6 h2
  have h0 : f_X15_says (ad b 72) (ad b r) (Int32.ofNat s) x y (lay b F E I L P nx us) = f_X15_says_6 FU (ad b 72) (ad b r) (Int32.ofNat s) x y (bZ false) (Int32.ofNat 0) (lay b F E I L P nx us) := by
    unfold f_X15_says
    rw [if_pos (isO_s (by decide))]
    rfl
  obtain ⟨i1, i2⟩ := M_shown (b := b) (F := F) (E := E) (L := L) (P := P) (nx := nx) (us := us) (I := u2 I 106 (syP W H ho t x y len 0 false (I 106)).2) (wd := wd) (an := (syP W H ho t x y len 0 false (I 106)).1) hK hs hm (by simp (decide := true) only [u2_same, u2_ne, u2_u2, upd_same, upd_ne, mE, u2_dyn, dyn_u2, dyn_hi, u2_hi, u2_hj, u2_dynj, u2_dd, u2_d0, u2_0d]; exact h49) hw sm 0 false FU (by omega) (by unfold FU; omega)
  have e72 : u2 I 106 (syP W H ho t x y len 0 false (I 106)).2 72 = I 72 := u2_ne (by decide)
  rw [e72] at i2
  rw [h0, hrun]
  refine ⟨fun q => i1 ?_, fun q1 q2 q3 => i2 q1 (fun q => q2 ?_) q3⟩
  · rcases q with q | ⟨j, j1, j2⟩
    · exact Or.inl q
    · exact Or.inr (Or.inr ⟨j, Nat.zero_le _, by omega, j2⟩)
  · rcases q with q | ⟨j, -, j1, j2⟩
    · cases q
    · exact ⟨j, by omega, j2⟩
/-- the class's state behind a say -/
def xSy (cv W H len nb tv : Nat) (x y : Int32) (bars : Nat → Int64) (wd : Int64) (I : Nat → Nat → Int32) : Nat → Nat → Int32 := u2 (u2 I cv (upd (upd (I cv) 12 (Int32.ofNat 0)) 6 (if (syP W H (I (cv + 2)) (Int32.ofNat tv) x y len 0 false (I (cv + 1))).1 = true then nsP bars wd nb 0 (I cv 6) else I cv 6))) (cv + 1) (syP W H (I (cv + 2)) (Int32.ofNat tv) x y len 0 false (I (cv + 1))).2
theorem X_says {cv c W H tv wh v len nb wc : Nat} (hcv : CV cv) (hc : 149 ≤ c) (hW : W ≤ 16) (hH : H ≤ 12) (hv : tv < 8) (hl1 : 1 ≤ len) (hl : len ≤ 8) (hv1 : v < 32 ^ len) (hv2 : 32 ^ (len - 1) ≤ v) (hnb : nb ≤ 12) (h1 : I cv 1 = Int32.ofNat W) (h2 : I cv 2 = Int32.ofNat H) (h8 : I cv 8 = Int32.ofNat nb) (h12 : I cv 12 = Int32.ofNat 2) (kc : kdf E c = some (.inr (1, true))) (kw : kdf E (c + 4) = some (.inl (4, wc))) (hwc : wc ≤ 40) (hwh : wh < wc) (h5 : I c 5 = Int32.ofNat wc) (hwd : L (c + 4) wh = Int64.ofNat v) : f_X0_say (ad b cv) (ad b c) (Int32.ofNat tv) (Int32.ofNat wh) (lay b F E I L P nx us) = some (lay b F E (xSy cv W H len nb tv (I (cv + 4) 0) (I (cv + 4) 1) (L 53) (Int64.ofNat v) I) L P nx us) := by
  have hcc : CV cv := hcv
  have cvn : cv = 58 ∨ cv = 65 := hcv
  have e1 := X_rel (b := b) (F := F) (E := E) (I := I) (L := L) (P := P) (nx := nx) (us := us) hcv (show 1 < 32 by decide) h12
  have e2 := X_rel (b := b) (F := F) (E := E) (I := u2 I cv (upd (I cv) 12 (Int32.ofNat 1))) (L := L) (P := P) (nx := nx) (us := us) hcv (show 0 < 32 by decide) (by rw [u2_same, upd_same])
  rw [u2_same, u2_u2, upd_upd, u2_ne (show cv + 4 ≠ cv by omega)] at e2
  generalize hK : u2 I cv (upd (I cv) 12 (Int32.ofNat 0)) = K at e2
  have kcv : K cv = upd (I cv) 12 (Int32.ofNat 0) := by rw [← hK, u2_same]
  have kne : ∀ q, q ≠ cv → K q = I q := fun q hq => by rw [← hK, u2_ne hq]
  have ewh : iN (Int32.ofNat wh) wc = some wh := iN_oN hwh (by omega)
  have hs := X_saying (b := b) (F := F) (E := E) (L := L) (P := P) (nx := nx) (us := us) (c := c) (wh := wh) (x := I (cv + 4) 0) (y := I (cv + 4) 1) hcv hW hH hv hl hv1 hv2 len 0 false K FU (by omega) (by unfold FU; omega) (by rw [kcv, upd_ne (by decide)]; exact h1) (by rw [kcv, upd_ne (by decide)]; exact h2)
  rw [kne (cv + 1) (by omega), kne (cv + 2) (by omega)] at hs
  have hx4 : ∀ (J : Nat → Nat → Int32), ((gA 1 (lay b F E J L P nx us) (ad b c) 3).bind fun a6 => (aL (lay b F E J L P nx us) a6 (Int32.ofNat wh))) = some (Int64.ofNat v) := fun J => by
    rw [gA_cr kc (by decide) (show cr 1 c 3 = some (c + 4) from rfl), Option.bind_some, aL_lay kw, ewh]
    exact congrArg some hwd
  have hx4' : ∀ {α : Type} (J : Nat → Nat → Int32) (G : Int64 → Option α), ((gA 1 (lay b F E J L P nx us) (ad b c) 3).bind fun a6 => (aL (lay b F E J L P nx us) a6 (Int32.ofNat wh)).bind G) = G (Int64.ofNat v) := fun J G => by
    have := hx4 J
    rw [gA_cr kc (by decide) (show cr 1 c 3 = some (c + 4) from rfl), Option.bind_some] at this
    rw [gA_cr kc (by decide) (show cr 1 c 3 = some (c + 4) from rfl), Option.bind_some, this, Option.bind_some]
  unfold f_X0_say
  rw [if_pos (isO_s (CV_k hcv)), e1, b2_p, e2, b2_p, if_neg (fun q => by have := (oN_lt (c := 0) (by omega) (by omega)).mp q; omega), gI_lay kc (by decide), Option.bind_some, kne c (by omega), h5, if_pos ((oN_lt (by omega) (by omega)).mpr hwh), hx4']
  have hv0 : v / 32 ^ 0 = v := by rw [Nat.pow_zero, Nat.div_one]
  rw [hv0] at hs
  refine hs.trans ?_
  unfold xSy f_X0_say_94
  generalize syP W H (I (cv + 2)) (Int32.ofNat tv) (I (cv + 4) 0) (I (cv + 4) 1) len 0 false (I (cv + 1)) = sy
  obtain ⟨an, row⟩ := sy
  cases an with
  | false =>
    have f1 : ¬ (false = true) := by decide
    rw [if_pos (show bZ false = 0 from rfl), if_neg f1]
    have : upd (upd (I cv) 12 (Int32.ofNat 0)) 6 (I cv 6) = upd (I cv) 12 (Int32.ofNat 0) := by
      have e : I cv 6 = upd (I cv) 12 (Int32.ofNat 0) 6 := by rw [upd_ne (by decide)]
      rw [e]
      exact upd_id rfl
    rw [this, hK]
    rfl
  | true =>
    have hn := X_note (b := b) (F := F) (E := E) (L := L) (P := P) (nx := nx) (us := us) (wd := Int64.ofNat v) hcv hnb nb 0 (u2 K (cv + 1) row) FU (by omega) (by unfold FU; omega) (by rw [u2_ne (by omega), kcv, upd_ne (by decide)]; exact h8)
    rw [u2_ne (show cv ≠ cv + 1 by omega), kcv, upd_ne (show 6 ≠ 12 by decide)] at hn
    have f1 : ¬ (bZ true = 0) := by decide
    rw [if_neg f1, if_pos rfl, hx4']
    unfold f_X0_noteShown
    rw [if_pos (isO_s (CV_k hcv))]
    have hn' : f_X0_noteShown_2 FU (ad b cv) (Int64.ofNat v) 0 (lay b F E (u2 K (cv + 1) row) L P nx us) = _ := hn
    rw [hn', Option.bind_some]
    unfold f_X0_say_109
    congr 1
    refine congrArg (fun z => lay b F E z L P nx us) ?_
    funext q
    by_cases q1 : q = cv
    · subst q1
      rw [u2_same, u2_ne (by omega), u2_same]
    · rw [u2_ne q1]
      by_cases q2 : q = cv + 1
      · subst q2
        rw [u2_same, u2_same]
      · rw [u2_ne q2, u2_ne q2, kne q q1, u2_ne q1]
end SAY2
