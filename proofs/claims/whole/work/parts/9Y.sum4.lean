/-! ===== drawing: the reference reads a sum, whole ===== -/
def SimM (b : Nat) (F : Nat → Option AE) (E : Nat → Option KD) (P : Nat → Nat → Option Nat) (nx us : Nat) (nd : Nat) (t : RW) (n la f m br : Nat) (run : AH → Option (Option Nat × AH)) : Prop := ∀ (i : Nat) (s : SSt) (I : Nat → Nat → Int32) (L : Nat → Nat → Int64), mu la m i ≤ f → i ≤ la → s.1 ≤ 120 → s.2.1 ≤ 2 * s.1 → MS t n nd i br s I L → ∃ o I' L', run (lay b F E I L P nx us) = some (o, lay b F E I' L' P nx us) ∧ FD nd I I' L L' ∧ MR b nd t n br (pS t n f m i br s) o I' L'
section SUM4
variable {b : Nat} {F : Nat → Option AE} {D E : Nat → Option KD} {I : Nat → Nat → Int32} {L : Nat → Nat → Int64} {P : Nat → Nat → Option Nat} {nx us : Nat}
/-- one after the other -/
theorem sim_then {nd n la br f m1 m2 : Nat} {t : RW} {r1 : AH → Option (Option Nat × AH)} {r2 : AH → Option (Option Nat × AH)} (hLA : LA t n la) (h1 : SimM b F E P nx us nd t n la f m1 br r1) (h2 : SimM b F E P nx us nd t n la f m2 br r2) (hm1 : m1 = 2 ∨ m1 = 4) {i : Nat} {s : SSt} (hmu : mu la m1 i ≤ f) (hmu2 : ∀ j, i < j → j ≤ la → mu la m2 j ≤ f) (hi : i ≤ la) (hp : s.1 ≤ 120) (hit : s.2.1 ≤ 2 * s.1) (hS : MS t n nd i br s I L) : ∃ o I' L', (b2 (r1 (lay b F E I L P nx us)) fun q h => tr q (r2 h) fun a => some (some a, h)) = some (o, lay b F E I' L' P nx us) ∧ FD nd I I' L L' ∧ MR b nd t n br (andThen (pS t n f m1 i br s) fun i1 s1 => pS t n f m2 i1 br s1) o I' L' := by
  obtain ⟨o, J, M, z1, z2, z3⟩ := h1 i s I L hmu hi hp hit hS
  rw [z1]
  cases hout : pS t n f m1 i br s with
  | inl e =>
    obtain ⟨c, j⟩ := e
    rw [hout] at z3
    obtain ⟨rfl, z4⟩ := z3
    exact ⟨_, J, M, rfl, z2, rfl, z4⟩
  | inr q =>
    obtain ⟨i1, s1⟩ := q
    rw [hout] at z3
    obtain ⟨rfl, z4⟩ := z3
    have hb := pS_b hLA f m1 i br s i1 s1 hi hp hout
    obtain ⟨o2, K, N, y1, y2, y3⟩ := h2 i1 s1 J M (hmu2 i1 (hb.2.2.2.2.2.2 (by omega)).1 hb.1) hb.1 hb.2.2.1 (by omega) z4
    exact ⟨o2, K, N, y1, z2.trans y2, y3⟩
/-- a sign, then another, then the sign is put -/
theorem sim_op {nd n la br f m1 m2 : Nat} {t : RW} {r1 : AH → Option (Option Nat × AH)} {r2 : AH → Option (Option Nat × AH)} (x c : Int32) (hn : n ≤ 400) (hB : BY t n) (hnd : 93 ≤ nd) (hP : P 72 40 = some nd) (hK : K12 E nd) (hLA : LA t n la) (h1 : SimM b F E P nx us nd t n la f m1 br r1) (h2 : SimM b F E P nx us nd t n la f m2 br r2) (hm1 : m1 = 2 ∨ m1 = 4) {i : Nat} {s : SSt} (hc : isC t n i c) (hc1 : c ≠ 44) (hc2 : c ≠ 37) (hmu : mu la m1 (i + 1) ≤ f) (hmu2 : ∀ j, i + 1 < j → j ≤ la → mu la m2 j ≤ f) (hi : i ≤ la) (hp : s.1 ≤ 120) (hit : s.2.1 ≤ 2 * s.1) (hS : MS t n nd i br s I L) : ∃ o I' L', ((f_X15_next (ad b 72) (lay b F E I L P nx us)).bind fun h1 => b2 (r1 h1) fun q2 h3 => tr q2 ((gA 15 h3 (ad b 72) 40).bind fun a5 => (f_X12_put a5 x 0 h3).bind fun h6 => r2 h6) fun a4 => some (some a4, h3)) = some (o, lay b F E I' L' P nx us) ∧ FD nd I I' L L' ∧ MR b nd t n br (andThen (pS t n f m1 (i + 1) br s) fun i1 s1 => pS t n f m2 i1 br (sPut s1 x 0)) o I' L' := by
  have hil := isC_lt hLA hi hc
  obtain ⟨r, l, n1, n2, n3⟩ := MS.nxt (b := b) (F := F) (E := E) (P := P) (nx := nx) (us := us) hn hB hnd hS (by rw [hc.1]; decide) (by rw [hc.1]; decide) (cm_C hc hc1 hc2)
  obtain ⟨o, J, M, z1, z2, z3⟩ := h1 (i + 1) s _ _ hmu (by omega) hp hit n3
  rw [n1, Option.bind_some, z1]
  cases hout : pS t n f m1 (i + 1) br s with
  | inl e =>
    obtain ⟨c, j⟩ := e
    rw [hout] at z3
    obtain ⟨rfl, z4⟩ := z3
    exact ⟨_, J, M, rfl, n2.trans z2, rfl, z4⟩
  | inr q =>
    obtain ⟨i1, s1⟩ := q
    rw [hout] at z3
    obtain ⟨rfl, z4⟩ := z3
    have hb := pS_b hLA f m1 (i + 1) br s i1 s1 (by omega) hp hout
    have hb2 := hb.2.2.2.2.2.2 (by omega)
    have hpt := M_put (b := b) (F := F) (L := M) (P := P) (nx := nx) (us := us) (I := J) x 0 hK z4.2.2.2.1 (by omega)
    have hS2 := MS.put (x := x) (v := 0) hnd z4
    have hgA : gA 15 (lay b F E J M P nx us) (ad b 72) 40 = some (ad b nd) := by rw [gA_sP (by decide) (by decide) (by decide), hP]; rfl
    obtain ⟨o2, K, N, y1, y2, y3⟩ := h2 i1 (sPut s1 x 0) _ _ (hmu2 i1 hb2.1 hb.1) hb.1 hb.2.2.1 (show s1.2.1 + 1 ≤ 2 * s1.1 by omega) hS2
    refine ⟨o2, K, N, ?_, ((n2.trans z2).trans (FD_P hnd)).trans y2, y3⟩
    show ((gA 15 (lay b F E J M P nx us) (ad b 72) 40).bind fun a5 => (f_X12_put a5 x 0 (lay b F E J M P nx us)).bind fun h6 => r2 h6) = _
    rw [hgA, Option.bind_some, hpt, Option.bind_some]
    exact y1
theorem M_sum {z : ZX} {t : RW} {n nd la : Nat} (hz : GZ b F z) (hn : n ≤ 400) (hB : BY t n) (hnd : 93 ≤ nd) (hP : P 72 40 = some nd) (hK : K12 E nd) (hLA : LA t n la) : ∀ f, f ≤ 5000 → ∀ br, br ≤ 6 →
    (∀ d, 7 ≤ d + br → SimM b F E P nx us nd t n la f 0 br (f_X15_readTerms z d (ad b 72))) ∧
    (∀ d fu, 6 ≤ d + br → f < fu → SimM b F E P nx us nd t n la f 1 br (f_X15_readTerms_4 z (f_X15_readTerms z d) fu (ad b 72))) ∧
    (∀ d, 6 ≤ d + br → SimM b F E P nx us nd t n la f 2 br (f_X15_readTerm z (f_X15_readTerms z d) (ad b 72))) ∧
    (∀ d fu, 6 ≤ d + br → f < fu → SimM b F E P nx us nd t n la f 3 br (f_X15_readTerm_4 z (f_X15_readTerms z d) fu (ad b 72))) ∧
    (∀ d, 6 ≤ d + br → SimM b F E P nx us nd t n la f 4 br (f_X15_readPart z (f_X15_readTerms z d) (ad b 72))) := by
  intro f
  induction f with
  | zero =>
    intro hf br hbr
    refine ⟨?_, ?_, ?_, ?_, ?_⟩
    · intro d _ i s I L hm; unfold mu at hm; simp at hm
    · intro d fu _ _ i s I L hm; unfold mu at hm; simp at hm
    · intro d _ i s I L hm; unfold mu at hm; simp at hm
    · intro d fu _ _ i s I L hm; unfold mu at hm; simp at hm
    · intro d _ i s I L hm; unfold mu at hm; simp at hm
  | succ f ih =>
    intro hf br hbr
    obtain ⟨i0, i1, i2, i3, i4⟩ := ih (by omega) br hbr
    have hFU : f < FU := by unfold FU; omega
    refine ⟨?_, ?_, ?_, ?_, ?_⟩
    · intro d hd i s I L hm hi hp hit hS
      obtain ⟨d, rfl⟩ : ∃ e, d = e + 1 := ⟨d - 1, by omega⟩
      unfold mu at hm
      simp only [if_true] at hm
      obtain ⟨o, I', L', z1, z2⟩ := sim_then (b := b) (F := F) (E := E) (P := P) (nx := nx) (us := us) hLA (i2 d (by omega)) (i1 d FU (by omega) hFU) (Or.inl rfl) (by unfold mu; simp; omega) (by intro j j1 j2; unfold mu; simp; omega) hi hp hit hS
      refine ⟨o, I', L', ?_, z2⟩
      show f_X15_readTerms_b z (f_X15_readTerms z d) (ad b 72) (lay b F E I L P nx us) = _
      unfold f_X15_readTerms_b
      rw [isO_s (by decide), if_pos rfl]
      exact z1
    · intro d fu hd hfu i s I L hm hi hp hit hS
      obtain ⟨fu, rfl⟩ : ∃ e, fu = e + 1 := ⟨fu - 1, by omega⟩
      have c43 := M_is (b := b) (F := F) (E := E) (P := P) (nx := nx) (us := us) 43 (fun _ => by decide) hS.1.1
      have c45 := M_is (b := b) (F := F) (E := E) (P := P) (nx := nx) (us := us) 45 (fun _ => by decide) hS.1.1
      have e10 : ((1 : Int32) = 0) = False := by decide
      simp only [pS]
      unfold mu at hm
      simp at hm
      by_cases q1 : isC t n i 43
      · rw [if_pos q1] at c43
        rw [if_pos (Or.inl q1), if_pos q1]
        have hil := isC_lt hLA hi q1
        obtain ⟨o, I', L', z1, z2⟩ := sim_op (b := b) (F := F) (E := E) (P := P) (nx := nx) (us := us) 4 43 hn hB hnd hP hK hLA (i2 d hd) (i1 d fu hd (by omega)) (Or.inl rfl) q1 (by decide) (by decide) (by unfold mu; simp; omega) (by intro j j1 j2; unfold mu; simp; omega) hi hp hit hS
        refine ⟨o, I', L', ?_, z2⟩
        rw [← z1]
        simp (decide := true) only [f_X15_readTerms_4, f_X15_readTerms_22, f_X15_readTerms_36, c43, e10, isO_s, gI_s, gA_s, gL_s, pI_s, pZ_s, pL_s, aI_s, aL_s, aN_s, aQ_s, sI_s, sL_s, cr, LNs, Option.map_some, Option.map_none, Option.bind_some, b2, tr, lt, if_true, if_false, ckZ, X_within, M_in, inR_z, X_refuse, X_tell, X_deny, X_grant, M_refused, M_denied, M_done, M_granted, u2_same, u2_ne, u2_u2, upd_same, upd_ne, aW0, ixR_z, ixR_1, M_isWall, M_isPainter, M_isWork, X_has4, X_has10, X_at, or_false, false_or, or_true, true_or, not_true, not_false_iff, Option.isSome_some, isO_d, gI_d, gA_d, pI_d, ne_eq, not_false_eq_true, u2_hi, u2_hj, u2_dyn, u2_dynj, Nat.reduceAdd, mX_r, mX_rD, mX_rDj, mM_r, mX_u, mX_uM, mX_uD, mX_uDj, mM_u, mM_uX, mM_uD, mM_uDj, u2_dd, u2_d0, u2_0d]
      · rw [if_neg q1] at c43
        by_cases q2 : isC t n i 45
        · rw [if_pos q2] at c45
          rw [if_pos (Or.inr q2), if_neg q1]
          have hil := isC_lt hLA hi q2
          obtain ⟨o, I', L', z1, z2⟩ := sim_op (b := b) (F := F) (E := E) (P := P) (nx := nx) (us := us) 5 45 hn hB hnd hP hK hLA (i2 d hd) (i1 d fu hd (by omega)) (Or.inl rfl) q2 (by decide) (by decide) (by unfold mu; simp; omega) (by intro j j1 j2; unfold mu; simp; omega) hi hp hit hS
          refine ⟨o, I', L', ?_, z2⟩
          rw [← z1]
          simp (decide := true) only [f_X15_readTerms_4, f_X15_readTerms_22, f_X15_readTerms_36, c43, c45, e10, isO_s, gI_s, gA_s, gL_s, pI_s, pZ_s, pL_s, aI_s, aL_s, aN_s, aQ_s, sI_s, sL_s, cr, LNs, Option.map_some, Option.map_none, Option.bind_some, b2, tr, lt, if_true, if_false, ckZ, X_within, M_in, inR_z, X_refuse, X_tell, X_deny, X_grant, M_refused, M_denied, M_done, M_granted, u2_same, u2_ne, u2_u2, upd_same, upd_ne, aW0, ixR_z, ixR_1, M_isWall, M_isPainter, M_isWork, X_has4, X_has10, X_at, or_false, false_or, or_true, true_or, not_true, not_false_iff, Option.isSome_some, isO_d, gI_d, gA_d, pI_d, ne_eq, not_false_eq_true, u2_hi, u2_hj, u2_dyn, u2_dynj, Nat.reduceAdd, mX_r, mX_rD, mX_rDj, mM_r, mX_u, mX_uM, mX_uD, mX_uDj, mM_u, mM_uX, mM_uD, mM_uDj, u2_dd, u2_d0, u2_0d]
        · rw [if_neg q2] at c45
          rw [if_neg (by rintro (q | q); exact q1 q; exact q2 q)]
          refine ⟨none, I, L, ?_, FD.refl, rfl, hS⟩
          simp (decide := true) only [f_X15_readTerms_4, c43, c45, isO_s, gI_s, gA_s, gL_s, pI_s, pZ_s, pL_s, aI_s, aL_s, aN_s, aQ_s, sI_s, sL_s, cr, LNs, Option.map_some, Option.map_none, Option.bind_some, b2, tr, lt, if_true, if_false, ckZ, X_within, M_in, inR_z, X_refuse, X_tell, X_deny, X_grant, M_refused, M_denied, M_done, M_granted, u2_same, u2_ne, u2_u2, upd_same, upd_ne, aW0, ixR_z, ixR_1, M_isWall, M_isPainter, M_isWork, X_has4, X_has10, X_at, or_false, false_or, or_true, true_or, not_true, not_false_iff, Option.isSome_some, isO_d, gI_d, gA_d, pI_d, ne_eq, not_false_eq_true, u2_hi, u2_hj, u2_dyn, u2_dynj, Nat.reduceAdd, mX_r, mX_rD, mX_rDj, mM_r, mX_u, mX_uM, mX_uD, mX_uDj, mM_u, mM_uX, mM_uD, mM_uDj, u2_dd, u2_d0, u2_0d]
    · intro d hd i s I L hm hi hp hit hS
      unfold mu at hm
      simp at hm
      obtain ⟨o, I', L', z1, z2⟩ := sim_then (b := b) (F := F) (E := E) (P := P) (nx := nx) (us := us) hLA (i4 d (by omega)) (i3 d FU (by omega) hFU) (Or.inr rfl) (by unfold mu; simp; omega) (by intro j j1 j2; unfold mu; simp; omega) hi hp hit hS
      refine ⟨o, I', L', ?_, z2⟩
      unfold f_X15_readTerm
      rw [isO_s (by decide), if_pos rfl]
      exact z1
    · intro d fu hd hfu i s I L hm hi hp hit hS
      obtain ⟨fu, rfl⟩ : ∃ e, fu = e + 1 := ⟨fu - 1, by omega⟩
      have c43 := M_is (b := b) (F := F) (E := E) (P := P) (nx := nx) (us := us) 42 (fun _ => by decide) hS.1.1
      have c45 := M_is (b := b) (F := F) (E := E) (P := P) (nx := nx) (us := us) 47 (fun _ => by decide) hS.1.1
      have e10 : ((1 : Int32) = 0) = False := by decide
      simp only [pS]
      unfold mu at hm
      simp at hm
      by_cases q1 : isC t n i 42
      · rw [if_pos q1] at c43
        rw [if_pos (Or.inl q1), if_pos q1]
        have hil := isC_lt hLA hi q1
        obtain ⟨o, I', L', z1, z2⟩ := sim_op (b := b) (F := F) (E := E) (P := P) (nx := nx) (us := us) 6 42 hn hB hnd hP hK hLA (i4 d hd) (i3 d fu hd (by omega)) (Or.inr rfl) q1 (by decide) (by decide) (by unfold mu; simp; omega) (by intro j j1 j2; unfold mu; simp; omega) hi hp hit hS
        refine ⟨o, I', L', ?_, z2⟩
        rw [← z1]
        simp (decide := true) only [f_X15_readTerm_4, f_X15_readTerm_22, f_X15_readTerm_38, c43, e10, isO_s, gI_s, gA_s, gL_s, pI_s, pZ_s, pL_s, aI_s, aL_s, aN_s, aQ_s, sI_s, sL_s, cr, LNs, Option.map_some, Option.map_none, Option.bind_some, b2, tr, lt, if_true, if_false, ckZ, X_within, M_in, inR_z, X_refuse, X_tell, X_deny, X_grant, M_refused, M_denied, M_done, M_granted, u2_same, u2_ne, u2_u2, upd_same, upd_ne, aW0, ixR_z, ixR_1, M_isWall, M_isPainter, M_isWork, X_has4, X_has10, X_at, or_false, false_or, or_true, true_or, not_true, not_false_iff, Option.isSome_some, isO_d, gI_d, gA_d, pI_d, ne_eq, not_false_eq_true, u2_hi, u2_hj, u2_dyn, u2_dynj, Nat.reduceAdd, mX_r, mX_rD, mX_rDj, mM_r, mX_u, mX_uM, mX_uD, mX_uDj, mM_u, mM_uX, mM_uD, mM_uDj, u2_dd, u2_d0, u2_0d]
      · rw [if_neg q1] at c43
        by_cases q2 : isC t n i 47
        · rw [if_pos q2] at c45
          rw [if_pos (Or.inr q2), if_neg q1]
          have hil := isC_lt hLA hi q2
          obtain ⟨o, I', L', z1, z2⟩ := sim_op (b := b) (F := F) (E := E) (P := P) (nx := nx) (us := us) 7 47 hn hB hnd hP hK hLA (i4 d hd) (i3 d fu hd (by omega)) (Or.inr rfl) q2 (by decide) (by decide) (by unfold mu; simp; omega) (by intro j j1 j2; unfold mu; simp; omega) hi hp hit hS
          refine ⟨o, I', L', ?_, z2⟩
          rw [← z1]
          simp (decide := true) only [f_X15_readTerm_4, f_X15_readTerm_22, f_X15_readTerm_38, c43, c45, e10, isO_s, gI_s, gA_s, gL_s, pI_s, pZ_s, pL_s, aI_s, aL_s, aN_s, aQ_s, sI_s, sL_s, cr, LNs, Option.map_some, Option.map_none, Option.bind_some, b2, tr, lt, if_true, if_false, ckZ, X_within, M_in, inR_z, X_refuse, X_tell, X_deny, X_grant, M_refused, M_denied, M_done, M_granted, u2_same, u2_ne, u2_u2, upd_same, upd_ne, aW0, ixR_z, ixR_1, M_isWall, M_isPainter, M_isWork, X_has4, X_has10, X_at, or_false, false_or, or_true, true_or, not_true, not_false_iff, Option.isSome_some, isO_d, gI_d, gA_d, pI_d, ne_eq, not_false_eq_true, u2_hi, u2_hj, u2_dyn, u2_dynj, Nat.reduceAdd, mX_r, mX_rD, mX_rDj, mM_r, mX_u, mX_uM, mX_uD, mX_uDj, mM_u, mM_uX, mM_uD, mM_uDj, u2_dd, u2_d0, u2_0d]
        · rw [if_neg q2] at c45
          rw [if_neg (by rintro (q | q); exact q1 q; exact q2 q)]
          refine ⟨none, I, L, ?_, FD.refl, rfl, hS⟩
          simp (decide := true) only [f_X15_readTerm_4, c43, c45, isO_s, gI_s, gA_s, gL_s, pI_s, pZ_s, pL_s, aI_s, aL_s, aN_s, aQ_s, sI_s, sL_s, cr, LNs, Option.map_some, Option.map_none, Option.bind_some, b2, tr, lt, if_true, if_false, ckZ, X_within, M_in, inR_z, X_refuse, X_tell, X_deny, X_grant, M_refused, M_denied, M_done, M_granted, u2_same, u2_ne, u2_u2, upd_same, upd_ne, aW0, ixR_z, ixR_1, M_isWall, M_isPainter, M_isWork, X_has4, X_has10, X_at, or_false, false_or, or_true, true_or, not_true, not_false_iff, Option.isSome_some, isO_d, gI_d, gA_d, pI_d, ne_eq, not_false_eq_true, u2_hi, u2_hj, u2_dyn, u2_dynj, Nat.reduceAdd, mX_r, mX_rD, mX_rDj, mM_r, mX_u, mX_uM, mX_uD, mX_uDj, mM_u, mM_uX, mM_uD, mM_uDj, u2_dd, u2_d0, u2_0d]
    · intro d hd i s I L hm hi hp hit hS
      simp only [pS]
      by_cases c40 : isC t n i 40
      · rw [if_pos c40]
        have hil := isC_lt hLA hi c40
        have hc := M_is (b := b) (F := F) (E := E) (P := P) (nx := nx) (us := us) 40 (fun _ => by decide) hS.1.1
        rw [if_pos c40] at hc
        have e10 : ((1 : Int32) = 0) = False := by decide
        have h34 := hS.2.2.1
        by_cases h6 : br = 6
        · rw [if_pos h6]
          have st := M_stopF (b := b) (F := F) (E := E) (P := P) (nx := nx) (us := us) 4 hS.1
          have e6 : (Int32.ofNat br = 6) = True := by rw [h6]; decide
          refine ⟨some (ad b 90), sF I 4 (pl t n i), L, ?_, ⟨fun c _ c2 _ _ _ => u2_ne c2, fun k _ => by unfold sF; rw [u2_ne (by omega)], fun j _ _ _ _ _ _ _ _ => by unfold sF; rw [u2_ne (by decide)], fun _ _ => rfl, fun _ _ => rfl⟩, rfl, sF_67⟩
          simp (decide := true) only [f_X15_readPart, hc, e10, h34, e6, st, isO_s, gI_s, gA_s, gL_s, pI_s, pZ_s, pL_s, aI_s, aL_s, aN_s, aQ_s, sI_s, sL_s, cr, LNs, Option.map_some, Option.map_none, Option.bind_some, b2, tr, lt, if_true, if_false, ckZ, X_within, M_in, inR_z, X_refuse, X_tell, X_deny, X_grant, M_refused, M_denied, M_done, M_granted, u2_same, u2_ne, u2_u2, upd_same, upd_ne, aW0, ixR_z, ixR_1, M_isWall, M_isPainter, M_isWork, X_has4, X_has10, X_at, or_false, false_or, or_true, true_or, not_true, not_false_iff, Option.isSome_some, isO_d, gI_d, gA_d, pI_d, ne_eq, not_false_eq_true, u2_hi, u2_hj, u2_dyn, u2_dynj, Nat.reduceAdd, mX_r, mX_rD, mX_rDj, mM_r, mX_u, mX_uM, mX_uD, mX_uDj, mM_u, mM_uX, mM_uD, mM_uDj, u2_dd, u2_d0, u2_0d]
        · rw [if_neg h6]
          have e6 : (Int32.ofNat br = 6) = False := oN_ne (c := 6) h6 (by omega) (by omega)
          obtain ⟨j0, -⟩ := ih (by omega) (br + 1) (by omega)
          unfold mu at hm
          simp at hm
          have hS1 : MS t n nd i (br + 1) s (u2 I 72 (upd (I 72) 34 (Int32.ofNat (br + 1)))) L := ⟨QM_up hS.1 (Or.inl rfl), by simp (decide := true) only [u2_same, u2_ne, u2_u2, upd_same, upd_ne, mE, u2_dyn, dyn_u2, dyn_hi, u2_hi, u2_hj, u2_dynj, u2_dd, u2_d0, u2_0d]; exact hS.2.1, by simp (decide := true) only [u2_same, u2_ne, u2_u2, upd_same, upd_ne, mE, u2_dyn, dyn_u2, dyn_hi, u2_hi, u2_hj, u2_dynj, u2_dd, u2_d0, u2_0d], by rw [u2_ne (by omega)]; exact hS.2.2.2.1, by rw [u2_ne (by omega)]; exact hS.2.2.2.2.1, by rw [u2_ne (by omega)]; exact hS.2.2.2.2.2⟩
          obtain ⟨r, l, n1, n2, n3⟩ := MS.nxt (b := b) (F := F) (E := E) (P := P) (nx := nx) (us := us) hn hB hnd hS1 (by rw [c40.1]; decide) (by rw [c40.1]; decide) (cm_C c40 (by decide) (by decide))
          obtain ⟨o, J, M, z1, z2, z3⟩ := j0 d (by omega) (i + 1) s _ _ (by unfold mu; simp; omega) (by omega) hp hit n3
          have hf0 : FD nd I (u2 I 72 (upd (I 72) 34 (Int32.ofNat (br + 1)))) L L := FD_72i hnd (fun j _ _ _ _ _ _ h34 _ => upd_ne h34)
          have hrun : f_X15_readPart z (f_X15_readTerms z d) (ad b 72) (lay b F E I L P nx us) = (tr o (b2 (f_X15_need (ad b 72) 41 (lay b F E J M P nx us)) fun q14 h15 => tr q14 ((gI 15 h15 (ad b 72) 34).bind fun x17 => (pI 15 h15 (ad b 72) 34 (x17 - 1)).bind fun h18 => some (none, h18)) fun a16 => some (some a16, h15)) fun a13 => some (some a13, lay b F E J M P nx us)) := by
            simp (decide := true) only [f_X15_readPart, hc, e10, h34, e6, oN_succ, n1, z1, isO_s, gI_s, gA_s, gL_s, pI_s, pZ_s, pL_s, aI_s, aL_s, aN_s, aQ_s, sI_s, sL_s, cr, LNs, Option.map_some, Option.map_none, Option.bind_some, b2, tr, lt, if_true, if_false, ckZ, X_within, M_in, inR_z, X_refuse, X_tell, X_deny, X_grant, M_refused, M_denied, M_done, M_granted, u2_same, u2_ne, upd_same, upd_ne, aW0, ixR_z, ixR_1, M_isWall, M_isPainter, M_isWork, X_has4, X_has10, X_at, or_false, false_or, or_true, true_or, not_true, not_false_iff, Option.isSome_some, isO_d, gI_d, gA_d, pI_d, ne_eq, not_false_eq_true, u2_hi, u2_hj, u2_dyn, u2_dynj, Nat.reduceAdd, mX_r, mX_rD, mX_rDj, mM_r, mX_u, mX_uM, mX_uD, mX_uDj, mM_u, mM_uX, mM_uD, mM_uDj, u2_dd, u2_d0, u2_0d]
          rw [hrun]
          cases hout : pS t n f 0 (i + 1) (br + 1) s with
          | inl e =>
            obtain ⟨c, j⟩ := e
            rw [hout] at z3
            obtain ⟨rfl, z4⟩ := z3
            exact ⟨_, J, M, rfl, (hf0.trans n2).trans z2, rfl, z4⟩
          | inr q =>
            obtain ⟨i5, s5⟩ := q
            rw [hout] at z3
            obtain ⟨rfl, z4⟩ := z3
            have hb := pS_b hLA f 0 (i + 1) (br + 1) s i5 s5 (by omega) hp hout
            have hc41 := M_is (b := b) (F := F) (E := E) (P := P) (nx := nx) (us := us) 41 (fun _ => by decide) z4.1.1
            show ∃ o I' L', (b2 (f_X15_need (ad b 72) 41 (lay b F E J M P nx us)) fun q14 h15 => tr q14 ((gI 15 h15 (ad b 72) 34).bind fun x17 => (pI 15 h15 (ad b 72) 34 (x17 - 1)).bind fun h18 => some (none, h18)) fun a16 => some (some a16, h15)) = some (o, lay b F E I' L' P nx us) ∧ _ ∧ MR b nd t n br (if isC t n i5 41 then .inr (i5 + 1, s5) else .inl (1, i5)) o I' L'
            by_cases c41 : isC t n i5 41
            · rw [if_pos c41] at hc41 ⊢
              obtain ⟨r2, l2, m1, m2, m3⟩ := MS.nxt (b := b) (F := F) (E := E) (P := P) (nx := nx) (us := us) hn hB hnd z4 (by rw [c41.1]; decide) (by rw [c41.1]; decide) (cm_C c41 (by decide) (by decide))
              have h34' : u2 J 72 r2 72 34 = Int32.ofNat (br + 1) := m3.2.2.1
              rw [u2_same] at h34'
              refine ⟨none, u2 (u2 J 72 r2) 72 (upd (u2 J 72 r2 72) 34 (Int32.ofNat br)), u2 M 72 l2, ?_, (((hf0.trans n2).trans z2).trans m2).trans (FD_72i hnd (fun j _ _ _ _ _ _ h34 _ => upd_ne h34)), rfl, ⟨QM_up m3.1 (Or.inl rfl), ?_, ?_, ?_, ?_, ?_⟩⟩
              · simp (decide := true) only [f_X15_need, hc41, e10, m1, h34', oN_pred, isO_s, gI_s, gA_s, gL_s, pI_s, pZ_s, pL_s, aI_s, aL_s, aN_s, aQ_s, sI_s, sL_s, cr, LNs, Option.map_some, Option.map_none, Option.bind_some, b2, tr, lt, if_true, if_false, ckZ, X_within, M_in, inR_z, X_refuse, X_tell, X_deny, X_grant, M_refused, M_denied, M_done, M_granted, u2_same, u2_ne, u2_u2, upd_same, upd_ne, aW0, ixR_z, ixR_1, M_isWall, M_isPainter, M_isWork, X_has4, X_has10, X_at, or_false, false_or, or_true, true_or, not_true, not_false_iff, Option.isSome_some, isO_d, gI_d, gA_d, pI_d, ne_eq, not_false_eq_true, u2_hi, u2_hj, u2_dyn, u2_dynj, Nat.reduceAdd, mX_r, mX_rD, mX_rDj, mM_r, mX_u, mX_uM, mX_uD, mX_uDj, mM_u, mM_uX, mM_uD, mM_uDj, u2_dd, u2_d0, u2_0d]
              · rw [u2_same, upd_ne (by decide)]; exact m3.2.1
              · rw [u2_same, upd_same]
              · rw [u2_ne (by omega)]; exact m3.2.2.2.1
              · rw [u2_ne (by omega)]; exact m3.2.2.2.2.1
              · rw [u2_ne (by omega)]; exact m3.2.2.2.2.2
            · rw [if_neg c41] at hc41 ⊢
              have st := M_stopF (b := b) (F := F) (E := E) (P := P) (nx := nx) (us := us) 1 z4.1
              refine ⟨some (ad b 90), sF J 1 (pl t n i5), M, ?_, ((hf0.trans n2).trans z2).trans ⟨fun c _ c2 _ _ _ => u2_ne c2, fun k _ => by unfold sF; rw [u2_ne (by omega)], fun j _ _ _ _ _ _ _ _ => by unfold sF; rw [u2_ne (by decide)], fun _ _ => rfl, fun _ _ => rfl⟩, rfl, sF_67⟩
              simp (decide := true) only [f_X15_need, hc41, st, isO_s, gI_s, gA_s, gL_s, pI_s, pZ_s, pL_s, aI_s, aL_s, aN_s, aQ_s, sI_s, sL_s, cr, LNs, Option.map_some, Option.map_none, Option.bind_some, b2, tr, lt, if_true, if_false, ckZ, X_within, M_in, inR_z, X_refuse, X_tell, X_deny, X_grant, M_refused, M_denied, M_done, M_granted, u2_same, u2_ne, u2_u2, upd_same, upd_ne, aW0, ixR_z, ixR_1, M_isWall, M_isPainter, M_isWork, X_has4, X_has10, X_at, or_false, false_or, or_true, true_or, not_true, not_false_iff, Option.isSome_some, isO_d, gI_d, gA_d, pI_d, ne_eq, not_false_eq_true, u2_hi, u2_hj, u2_dyn, u2_dynj, Nat.reduceAdd, mX_r, mX_rD, mX_rDj, mM_r, mX_u, mX_uM, mX_uD, mX_uDj, mM_u, mM_uX, mM_uD, mM_uDj, u2_dd, u2_d0, u2_0d]
      · rw [if_neg c40]
        exact M_part (la := la) hz hn hB hnd hP hK hS hp hit c40
end SUM4
