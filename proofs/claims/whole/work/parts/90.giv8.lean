/-! ===== give: what was tried before ===== -/
def TRd (np at0 : Nat) (T : RW) : Prop := ∀ i, i < at0 → T i = -2 ∨ ∃ p, p < np ∧ T i = Int32.ofNat p
/-- the i-th try stands against painter p0 at place at0 -/
def badT (np : Nat) (T m85 m111 : RW) (ak : Nat → Nat) (at0 p0 i : Nat) : Prop := T i = Int32.ofNat p0 ∨ ∃ p, p < np ∧ T i = Int32.ofNat p ∧ m85 (16 * ak at0 + ak i) ≠ 0 ∧ m111 p = m111 p0
section GIV8
variable {b : Nat} {F : Nat → Option AE} {D E : Nat → Option KD} {I : Nat → Nat → Int32} {L : Nat → Nat → Int64} {P : Nat → Nat → Option Nat} {nx us : Nat}
theorem M_tri0 {nw p0 at0 : Nat} (hn : I 72 4 = Int32.ofNat nw) (h16 : nw ≤ 16) (hat : at0 ≤ 6) : ∀ (m i : Nat), i + m = at0 → ∀ fu, m < fu → f_X15_mayHave_23 fu (ad b 72) (Int32.ofNat p0) (Int32.ofNat at0) 0 (Int32.ofNat i) (lay b F E I L P nx us) = some (0, (lay b F E I L P nx us)) := by
  intro m
  induction m with
  | zero =>
    intro i hi fu hf
    obtain ⟨fu, rfl⟩ : ∃ f, fu = f + 1 := ⟨fu - 1, by omega⟩
    have : i = at0 := by omega
    subst this
    have h0 := M_out0 (b := b) (F := F) (E := E) (L := L) (P := P) (nx := nx) (us := us) (I := I) (p0 := p0) (at0 := i) hn h16 nw 0 (by omega) FU (by unfold FU; omega)
    simp (decide := true) only [f_X15_mayHave_23, Int32.le_refl, isO_s, gI_s, gA_s, gL_s, pI_s, pZ_s, pL_s, aI_s, aL_s, aN_s, aQ_s, sI_s, sL_s, cr, LNs, Option.map_some, Option.map_none, Option.bind_some, b2, tr, lt, if_true, if_false, ckZ, X_within, M_in, inR_z, X_refuse, X_tell, X_deny, X_grant, M_refused, M_denied, M_done, M_granted, u2_same, u2_ne, u2_u2, upd_same, upd_ne, aW0, ixR_z, ixR_1, M_isWall, M_isPainter, M_isWork, X_has4, X_has10, X_at, or_false, false_or, or_true, true_or, not_true, not_false_iff, Option.isSome_some, isO_d, gI_d, gA_d, pI_d, ne_eq, not_false_eq_true, u2_hi, u2_hj, u2_dyn, u2_dynj, Nat.reduceAdd, mX_r, mX_rD, mX_rDj, mM_r, mX_u, mX_uM, mX_uD, mX_uDj, mM_u, mM_uX, mM_uD, mM_uDj, u2_dd, u2_d0, u2_0d]
    exact h0
  | succ m ih =>
    intro i hi fu hf
    obtain ⟨fu, rfl⟩ : ∃ f, fu = f + 1 := ⟨fu - 1, by omega⟩
    have e2 := oN_leF (show i < at0 by omega) (by omega)
    have ih' := ih (i + 1) (by omega) fu (by omega)
    simp (decide := true) only [f_X15_mayHave_23, f_X15_mayHave_106, f_X15_mayHave_107, e2, oN_succ, ih', isO_s, gI_s, gA_s, gL_s, pI_s, pZ_s, pL_s, aI_s, aL_s, aN_s, aQ_s, sI_s, sL_s, cr, LNs, Option.map_some, Option.map_none, Option.bind_some, b2, tr, lt, if_true, if_false, ckZ, X_within, M_in, inR_z, X_refuse, X_tell, X_deny, X_grant, M_refused, M_denied, M_done, M_granted, u2_same, u2_ne, u2_u2, upd_same, upd_ne, aW0, ixR_z, ixR_1, M_isWall, M_isPainter, M_isWork, X_has4, X_has10, X_at, or_false, false_or, or_true, true_or, not_true, not_false_iff, Option.isSome_some, isO_d, gI_d, gA_d, pI_d, ne_eq, not_false_eq_true, u2_hi, u2_hj, u2_dyn, u2_dynj, Nat.reduceAdd, mX_r, mX_rD, mX_rDj, mM_r, mX_u, mX_uM, mX_uD, mX_uDj, mM_u, mM_uX, mM_uD, mM_uDj, u2_dd, u2_d0, u2_0d]
theorem M_tri {s nw np n p0 at0 : Nat} {ak : Nat → Nat} (hn : I 72 4 = Int32.ofNat nw) (h16 : nw ≤ 16) (hp1 : np ≤ 10) (hn6 : n ≤ 6) (hK : AK s nw n ak) (hak : ∀ k, k < n → I 118 k = Int32.ofNat (ak k)) (hp0 : p0 < np) (hat : at0 < n) (hT : TRd np at0 (I 119)) : ∀ (m i : Nat), i + m = at0 → ∀ fu, m < fu → ((∃ j, i ≤ j ∧ j < at0 ∧ badT np (I 119) (I 85) (I 111) ak at0 p0 j) → f_X15_mayHave_23 fu (ad b 72) (Int32.ofNat p0) (Int32.ofNat at0) 1 (Int32.ofNat i) (lay b F E I L P nx us) = some (0, (lay b F E I L P nx us))) ∧ ((¬ ∃ j, i ≤ j ∧ j < at0 ∧ badT np (I 119) (I 85) (I 111) ak at0 p0 j) → f_X15_mayHave_23 fu (ad b 72) (Int32.ofNat p0) (Int32.ofNat at0) 1 (Int32.ofNat i) (lay b F E I L P nx us) = f_X15_mayHave_117 FU (ad b 72) (Int32.ofNat p0) (Int32.ofNat at0) 1 0 (lay b F E I L P nx us)) := by
  have e6 : iN (Int32.ofNat at0) 6 = some at0 := iN_oN (by omega) (by omega)
  have e10 : iN (Int32.ofNat p0) 10 = some p0 := iN_oN (by omega) (by omega)
  have hwa := (hK.1 at0 hat).1
  intro m
  induction m with
  | zero =>
    intro i hi fu hf
    obtain ⟨fu, rfl⟩ : ∃ f, fu = f + 1 := ⟨fu - 1, by omega⟩
    have : i = at0 := by omega
    subst this
    refine ⟨fun ⟨k, h1, h2, _⟩ => absurd h1 (by omega), fun _ => ?_⟩
    simp (decide := true) only [f_X15_mayHave_23, Int32.le_refl, isO_s, gI_s, gA_s, gL_s, pI_s, pZ_s, pL_s, aI_s, aL_s, aN_s, aQ_s, sI_s, sL_s, cr, LNs, Option.map_some, Option.map_none, Option.bind_some, b2, tr, lt, if_true, if_false, ckZ, X_within, M_in, inR_z, X_refuse, X_tell, X_deny, X_grant, M_refused, M_denied, M_done, M_granted, u2_same, u2_ne, u2_u2, upd_same, upd_ne, aW0, ixR_z, ixR_1, M_isWall, M_isPainter, M_isWork, X_has4, X_has10, X_at, or_false, false_or, or_true, true_or, not_true, not_false_iff, Option.isSome_some, isO_d, gI_d, gA_d, pI_d, ne_eq, not_false_eq_true, u2_hi, u2_hj, u2_dyn, u2_dynj, Nat.reduceAdd, mX_r, mX_rD, mX_rDj, mM_r, mX_u, mX_uM, mX_uD, mX_uDj, mM_u, mM_uX, mM_uD, mM_uDj, u2_dd, u2_d0, u2_0d]
  | succ m ih =>
    intro i hi fu hf
    obtain ⟨fu, rfl⟩ : ∃ f, fu = f + 1 := ⟨fu - 1, by omega⟩
    have hin : i < at0 := by omega
    have e2 := oN_leF hin (by omega)
    have e3 : iN (Int32.ofNat i) 6 = some i := iN_oN (by omega) (by omega)
    have hwi := (hK.1 i (by omega)).1
    have e4 : iN (Int32.ofNat (16 * ak at0 + ak i)) 256 = some (16 * ak at0 + ak i) := iN_oN (by omega) (by omega)
    have h0 := M_tri0 (b := b) (F := F) (E := E) (L := L) (P := P) (nx := nx) (us := us) (I := I) (p0 := p0) (at0 := at0) hn h16 (by omega) m (i + 1) (by omega) fu (by omega)
    obtain ⟨i1, i2⟩ := ih (i + 1) (by omega) fu (by omega)
    have fin : f_X15_mayHave_23 (fu + 1) (ad b 72) (Int32.ofNat p0) (Int32.ofNat at0) 1 (Int32.ofNat i) (lay b F E I L P nx us) = f_X15_mayHave_23 fu (ad b 72) (Int32.ofNat p0) (Int32.ofNat at0) 1 (Int32.ofNat (i + 1)) (lay b F E I L P nx us) → ¬ badT np (I 119) (I 85) (I 111) ak at0 p0 i → ((∃ j, i ≤ j ∧ j < at0 ∧ badT np (I 119) (I 85) (I 111) ak at0 p0 j) → f_X15_mayHave_23 (fu + 1) (ad b 72) (Int32.ofNat p0) (Int32.ofNat at0) 1 (Int32.ofNat i) (lay b F E I L P nx us) = some (0, (lay b F E I L P nx us))) ∧ ((¬ ∃ j, i ≤ j ∧ j < at0 ∧ badT np (I 119) (I 85) (I 111) ak at0 p0 j) → f_X15_mayHave_23 (fu + 1) (ad b 72) (Int32.ofNat p0) (Int32.ofNat at0) 1 (Int32.ofNat i) (lay b F E I L P nx us) = f_X15_mayHave_117 FU (ad b 72) (Int32.ofNat p0) (Int32.ofNat at0) 1 0 (lay b F E I L P nx us)) := by
      intro e hnot
      rw [e]
      refine ⟨?_, ?_⟩
      · rintro ⟨j, j1, j2, j3⟩
        have : j ≠ i := fun q => hnot (q ▸ j3)
        exact i1 ⟨j, by omega, j2, j3⟩
      · intro hq
        exact i2 fun ⟨j, j1, j2, j3⟩ => hq ⟨j, by omega, j2, j3⟩
    have bad : f_X15_mayHave_23 (fu + 1) (ad b 72) (Int32.ofNat p0) (Int32.ofNat at0) 1 (Int32.ofNat i) (lay b F E I L P nx us) = some (0, (lay b F E I L P nx us)) → badT np (I 119) (I 85) (I 111) ak at0 p0 i → ((∃ j, i ≤ j ∧ j < at0 ∧ badT np (I 119) (I 85) (I 111) ak at0 p0 j) → f_X15_mayHave_23 (fu + 1) (ad b 72) (Int32.ofNat p0) (Int32.ofNat at0) 1 (Int32.ofNat i) (lay b F E I L P nx us) = some (0, (lay b F E I L P nx us))) ∧ ((¬ ∃ j, i ≤ j ∧ j < at0 ∧ badT np (I 119) (I 85) (I 111) ak at0 p0 j) → f_X15_mayHave_23 (fu + 1) (ad b 72) (Int32.ofNat p0) (Int32.ofNat at0) 1 (Int32.ofNat i) (lay b F E I L P nx us) = f_X15_mayHave_117 FU (ad b 72) (Int32.ofNat p0) (Int32.ofNat at0) 1 0 (lay b F E I L P nx us)) := fun e hb => ⟨fun _ => e, fun hq => absurd ⟨i, Nat.le_refl _, hin, hb⟩ hq⟩
    have m2 : ¬ ((-2 : Int32) = Int32.ofNat p0) := fun q => (oN_m12 p0 (by omega)).1 q.symm
    rcases hT i hin with l1 | ⟨p, pp, l1⟩
    · refine fin ?_ ?_
      · simp (decide := true) only [f_X15_mayHave_23, f_X15_mayHave_102, f_X15_mayHave_106, f_X15_mayHave_107, e2, e3, l1, m2, oN_succ, isO_s, gI_s, gA_s, gL_s, pI_s, pZ_s, pL_s, aI_s, aL_s, aN_s, aQ_s, sI_s, sL_s, cr, LNs, Option.map_some, Option.map_none, Option.bind_some, b2, tr, lt, if_true, if_false, ckZ, X_within, M_in, inR_z, X_refuse, X_tell, X_deny, X_grant, M_refused, M_denied, M_done, M_granted, u2_same, u2_ne, u2_u2, upd_same, upd_ne, aW0, ixR_z, ixR_1, M_isWall, M_isPainter, M_isWork, X_has4, X_has10, X_at, or_false, false_or, or_true, true_or, not_true, not_false_iff, Option.isSome_some, isO_d, gI_d, gA_d, pI_d, ne_eq, not_false_eq_true, u2_hi, u2_hj, u2_dyn, u2_dynj, Nat.reduceAdd, mX_r, mX_rD, mX_rDj, mM_r, mX_u, mX_uM, mX_uD, mX_uDj, mM_u, mM_uX, mM_uD, mM_uDj, u2_dd, u2_d0, u2_0d]
      · rintro (h | ⟨p, pp, h, -⟩)
        · exact m2 (l1.symm.trans h)
        · exact (oN_m12 p (by omega)).1 (h.symm.trans l1)
    · have n2 := (oN_m12 p (by omega)).1
      have a6 : iN (Int32.ofNat p) 10 = some p := iN_oN (by omega) (by omega)
      by_cases hpp : p = p0
      · subst hpp
        refine bad ?_ (Or.inl l1)
        simp (decide := true) only [f_X15_mayHave_23, f_X15_mayHave_102, f_X15_mayHave_106, f_X15_mayHave_107, e2, e3, l1, oN_succ, h0, isO_s, gI_s, gA_s, gL_s, pI_s, pZ_s, pL_s, aI_s, aL_s, aN_s, aQ_s, sI_s, sL_s, cr, LNs, Option.map_some, Option.map_none, Option.bind_some, b2, tr, lt, if_true, if_false, ckZ, X_within, M_in, inR_z, X_refuse, X_tell, X_deny, X_grant, M_refused, M_denied, M_done, M_granted, u2_same, u2_ne, u2_u2, upd_same, upd_ne, aW0, ixR_z, ixR_1, M_isWall, M_isPainter, M_isWork, X_has4, X_has10, X_at, or_false, false_or, or_true, true_or, not_true, not_false_iff, Option.isSome_some, isO_d, gI_d, gA_d, pI_d, ne_eq, not_false_eq_true, u2_hi, u2_hj, u2_dyn, u2_dynj, Nat.reduceAdd, mX_r, mX_rD, mX_rDj, mM_r, mX_u, mX_uM, mX_uD, mX_uDj, mM_u, mM_uX, mM_uD, mM_uDj, u2_dd, u2_d0, u2_0d]
      · have n3 : ¬ Int32.ofNat p = Int32.ofNat p0 := fun q => hpp ((oN_eq (by omega) (by omega)).mp q)
        by_cases hm : I 85 (16 * ak at0 + ak i) = 0
        · refine fin ?_ ?_
          · simp (decide := true) only [f_X15_mayHave_23, f_X15_mayHave_102, f_X15_mayHave_106, f_X15_mayHave_107, e2, e3, e4, e6, hak at0 hat, hak i (by omega), ix16, l1, n2, n3, hm, oN_succ, isO_s, gI_s, gA_s, gL_s, pI_s, pZ_s, pL_s, aI_s, aL_s, aN_s, aQ_s, sI_s, sL_s, cr, LNs, Option.map_some, Option.map_none, Option.bind_some, b2, tr, lt, if_true, if_false, ckZ, X_within, M_in, inR_z, X_refuse, X_tell, X_deny, X_grant, M_refused, M_denied, M_done, M_granted, u2_same, u2_ne, u2_u2, upd_same, upd_ne, aW0, ixR_z, ixR_1, M_isWall, M_isPainter, M_isWork, X_has4, X_has10, X_at, or_false, false_or, or_true, true_or, not_true, not_false_iff, Option.isSome_some, isO_d, gI_d, gA_d, pI_d, ne_eq, not_false_eq_true, u2_hi, u2_hj, u2_dyn, u2_dynj, Nat.reduceAdd, mX_r, mX_rD, mX_rDj, mM_r, mX_u, mX_uM, mX_uD, mX_uDj, mM_u, mM_uX, mM_uD, mM_uDj, u2_dd, u2_d0, u2_0d]
          · rintro (h | ⟨p', pp', h, h5, -⟩)
            · exact n3 (l1.symm.trans h)
            · exact h5 hm
        · by_cases hst : I 111 p = I 111 p0
          · refine bad ?_ (Or.inr ⟨p, pp, l1, hm, hst⟩)
            simp (decide := true) only [f_X15_mayHave_23, f_X15_mayHave_102, f_X15_mayHave_106, f_X15_mayHave_107, e2, e3, e4, e6, e10, a6, hak at0 hat, hak i (by omega), ix16, l1, n2, n3, hm, hst, oN_succ, h0, isO_s, gI_s, gA_s, gL_s, pI_s, pZ_s, pL_s, aI_s, aL_s, aN_s, aQ_s, sI_s, sL_s, cr, LNs, Option.map_some, Option.map_none, Option.bind_some, b2, tr, lt, if_true, if_false, ckZ, X_within, M_in, inR_z, X_refuse, X_tell, X_deny, X_grant, M_refused, M_denied, M_done, M_granted, u2_same, u2_ne, u2_u2, upd_same, upd_ne, aW0, ixR_z, ixR_1, M_isWall, M_isPainter, M_isWork, X_has4, X_has10, X_at, or_false, false_or, or_true, true_or, not_true, not_false_iff, Option.isSome_some, isO_d, gI_d, gA_d, pI_d, ne_eq, not_false_eq_true, u2_hi, u2_hj, u2_dyn, u2_dynj, Nat.reduceAdd, mX_r, mX_rD, mX_rDj, mM_r, mX_u, mX_uM, mX_uD, mX_uDj, mM_u, mM_uX, mM_uD, mM_uDj, u2_dd, u2_d0, u2_0d]
          · refine fin ?_ ?_
            · simp (decide := true) only [f_X15_mayHave_23, f_X15_mayHave_102, f_X15_mayHave_106, f_X15_mayHave_107, e2, e3, e4, e6, e10, a6, hak at0 hat, hak i (by omega), ix16, l1, n2, n3, hm, hst, oN_succ, isO_s, gI_s, gA_s, gL_s, pI_s, pZ_s, pL_s, aI_s, aL_s, aN_s, aQ_s, sI_s, sL_s, cr, LNs, Option.map_some, Option.map_none, Option.bind_some, b2, tr, lt, if_true, if_false, ckZ, X_within, M_in, inR_z, X_refuse, X_tell, X_deny, X_grant, M_refused, M_denied, M_done, M_granted, u2_same, u2_ne, u2_u2, upd_same, upd_ne, aW0, ixR_z, ixR_1, M_isWall, M_isPainter, M_isWork, X_has4, X_has10, X_at, or_false, false_or, or_true, true_or, not_true, not_false_iff, Option.isSome_some, isO_d, gI_d, gA_d, pI_d, ne_eq, not_false_eq_true, u2_hi, u2_hj, u2_dyn, u2_dynj, Nat.reduceAdd, mX_r, mX_rD, mX_rDj, mM_r, mX_u, mX_uM, mX_uD, mX_uDj, mM_u, mM_uX, mM_uD, mM_uDj, u2_dd, u2_d0, u2_0d]
            · rintro (h | ⟨p', pp', h, h5, h6⟩)
              · exact n3 (l1.symm.trans h)
              · have ep : p' = p := (oN_eq (by omega) (by omega)).mp (h.symm.trans l1)
                subst ep
                exact hst h6
end GIV8
