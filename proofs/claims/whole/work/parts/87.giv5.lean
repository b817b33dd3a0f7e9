/-! ===== give: what the asked walls are ===== -/
def cntB (s : Nat) : Nat → Nat → Nat
  | 0, _ => 0
  | m + 1, i => (if s.testBit i = true then 1 else 0) + cntB s m (i + 1)
theorem cntB_bc {s : Nat} (hs : s < 65536) : ∀ (m i : Nat), bcN (s >>> i) = cntB s m i + bcN (s >>> (i + m)) := by
  intro m
  induction m with
  | zero => intro i; unfold cntB; rw [Nat.zero_add, Nat.add_zero]
  | succ m ih =>
    intro i
    have h1 := bcN_s (s := s) (i := i) hs
    have h2 := ih (i + 1)
    rw [show i + 1 + m = i + (m + 1) by omega] at h2
    unfold cntB
    omega
theorem askR_lo {s : Nat} : ∀ (m i c : Nat) (r : RW) (k : Nat), k < c → askR s m i c r k = r k := by
  intro m
  induction m with
  | zero => intro i c r k h; rfl
  | succ m ih =>
    intro i c r k h
    unfold askR
    split
    · rw [ih (i + 1) (c + 1) _ k (by omega), upd_ne (by omega)]
    · exact ih (i + 1) c r k h
theorem ask_sp {s : Nat} : ∀ (m i c : Nat), ∃ f : Nat → Nat, (∀ (r : RW) (k : Nat), c ≤ k → k < c + cntB s m i → askR s m i c r k = Int32.ofNat (f k)) ∧ (∀ k, c ≤ k → k < c + cntB s m i → i ≤ f k ∧ f k < i + m ∧ s.testBit (f k) = true) ∧ (∀ j, i ≤ j → j < i + m → s.testBit j = true → ∃ k, c ≤ k ∧ k < c + cntB s m i ∧ f k = j) ∧ (∀ k k', c ≤ k → k < k' → k' < c + cntB s m i → f k < f k') := by
  intro m
  induction m with
  | zero =>
    intro i c
    refine ⟨fun _ => 0, ?_, ?_, ?_, ?_⟩
    · intro r k h1 h2; unfold cntB at h2; omega
    · intro k h1 h2; unfold cntB at h2; omega
    · intro j h1 h2; omega
    · intro k k' h1 h2 h3; unfold cntB at h3; omega
  | succ m ih =>
    intro i c
    by_cases h : s.testBit i = true
    · obtain ⟨f, f1, f2, f3, f4⟩ := ih (i + 1) (c + 1)
      have hc : cntB s (m + 1) i = 1 + cntB s m (i + 1) := by
        show (if s.testBit i = true then 1 else 0) + cntB s m (i + 1) = _
        rw [if_pos h]
      have ha : ∀ r, askR s (m + 1) i c r = askR s m (i + 1) (c + 1) (upd r c (Int32.ofNat i)) := by
        intro r
        show (if s.testBit i = true then askR s m (i + 1) (c + 1) (upd r c (Int32.ofNat i)) else askR s m (i + 1) c r) = _
        rw [if_pos h]
      rw [hc]
      refine ⟨fun k => if k = c then i else f k, ?_, ?_, ?_, ?_⟩
      · intro r k h1 h2
        rw [ha]
        by_cases e : k = c
        · subst e
          rw [askR_lo _ _ _ _ _ (by omega), upd_same]
          simp only [if_true]
        · simp only [e, if_false]
          exact f1 _ k (by omega) (by omega)
      · intro k h1 h2
        by_cases e : k = c
        · simp only [e, if_true]
          exact ⟨by omega, by omega, h⟩
        · simp only [e, if_false]
          obtain ⟨g1, g2, g3⟩ := f2 k (by omega) (by omega)
          exact ⟨by omega, by omega, g3⟩
      · intro j h1 h2 h3
        by_cases e : j = i
        · exact ⟨c, by omega, by omega, by simp only [if_true, e]⟩
        · obtain ⟨k, g1, g2, g3⟩ := f3 j (by omega) (by omega) h3
          have e2 : ¬ k = c := by omega
          refine ⟨k, by omega, by omega, ?_⟩
          simp only [e2, if_false]
          exact g3
      · intro k k' h1 h2 h3
        have e' : ¬ k' = c := by omega
        by_cases e : k = c
        · simp only [e, e', if_true, if_false]
          have := (f2 k' (by omega) (by omega)).1
          omega
        · simp only [e, e', if_false]
          exact f4 k k' (by omega) h2 (by omega)
    · obtain ⟨f, f1, f2, f3, f4⟩ := ih (i + 1) c
      have hc : cntB s (m + 1) i = cntB s m (i + 1) := by
        show (if s.testBit i = true then 1 else 0) + cntB s m (i + 1) = _
        rw [if_neg h, Nat.zero_add]
      have ha : ∀ r, askR s (m + 1) i c r = askR s m (i + 1) c r := by
        intro r
        show (if s.testBit i = true then askR s m (i + 1) (c + 1) (upd r c (Int32.ofNat i)) else askR s m (i + 1) c r) = _
        rw [if_neg h]
      rw [hc]
      refine ⟨f, ?_, ?_, ?_, f4⟩
      · intro r k h1 h2
        rw [ha]
        exact f1 r k h1 h2
      · intro k h1 h2
        obtain ⟨g1, g2, g3⟩ := f2 k h1 h2
        exact ⟨by omega, by omega, g3⟩
      · intro j h1 h2 h3
        have e : j ≠ i := fun q => h (q ▸ h3)
        exact f3 j (by omega) (by omega) h3
/-- the asked walls: ak lists the bits of s -/
def AK (s nw n : Nat) (ak : Nat → Nat) : Prop := (∀ k, k < n → ak k < nw ∧ s.testBit (ak k) = true) ∧ (∀ j, j < nw → s.testBit j = true → ∃ k, k < n ∧ ak k = j) ∧ ∀ k k', k < k' → k' < n → ak k < ak k'
theorem ask_all {s nw n : Nat} (hs : s < 65536) (hsn : s >>> nw = 0) (hn : bcN s = n) : ∃ ak, AK s nw n ak ∧ ∀ (r : RW) (k : Nat), k < n → askR s nw 0 0 r k = Int32.ofNat (ak k) := by
  obtain ⟨f, f1, f2, f3, f4⟩ := ask_sp (s := s) nw 0 0
  have hc := cntB_bc hs nw 0
  rw [Nat.zero_add, hsn, show bcN 0 = 0 by decide, Nat.add_zero, Nat.shiftRight_zero, hn] at hc
  rw [← hc, Nat.zero_add] at f1 f2 f3 f4
  refine ⟨f, ⟨fun k hk => ?_, fun j hj hb => ?_, fun k k' h1 h2 => f4 k k' (by omega) h1 h2⟩, fun r k hk => f1 r k (by omega) hk⟩
  · obtain ⟨-, g2, g3⟩ := f2 k (by omega) hk
    exact ⟨by omega, g3⟩
  · obtain ⟨k, -, g2, g3⟩ := f3 j (by omega) (by omega) hb
    exact ⟨k, by omega, g3⟩
section GIV5
variable {b : Nat} {F : Nat → Option AE} {D E : Nat → Option KD} {I : Nat → Nat → Int32} {L : Nat → Nat → Int64} {P : Nat → Nat → Option Nat} {nx us : Nat}
theorem X_bes {nw : Nat} {q wd hg ow : Nat → Nat} {m85 : RW} (hn : I 1 1 = Int32.ofNat nw) (h16 : nw ≤ 16) (hA : WA nw q wd hg ow E (P 2)) (hG : GBes (I 3) m85) {i j : Nat} (hi : i < nw) (hj : j < nw) : f_X9_areBeside (ad b 1) (Int32.ofNat i) (Int32.ofNat j) (lay b F E I L P nx us) = some (if m85 (16 * i + j) = 0 then 0 else 1, (lay b F E I L P nx us)) := by
  obtain ⟨g0, g1, g2⟩ := hG i j (by omega) (by omega)
  have e3 := oN_neg (w := i) (by omega)
  have e4 := oN_neg (w := j) (by omega)
  have e5 := oN_leF hi (by omega)
  have e6 := oN_leF hj (by omega)
  have hi' := wAt_w hn h16 hA hi
  have hj' := wAt_w hn h16 hA hj
  rw [hn] at hi' hj'
  have e7 : iN (Int32.ofNat i) 16 = some i := iN_oN (by omega) (by omega)
  by_cases hz : i = j
  · subst hz
    rw [if_pos (g2 rfl)]
    simp (decide := true) only [f_X9_areBeside_28, f_X9_areBeside_27, f_X9_areBeside, f_X9_arePair_26, f_X9_arePair_25, f_X9_arePair, hn, hi', hj', e7, isO_s, gI_s, gA_s, gL_s, pI_s, pZ_s, pL_s, aI_s, aL_s, aN_s, aQ_s, sI_s, sL_s, cr, LNs, Option.map_some, Option.map_none, Option.bind_some, b2, tr, lt, if_true, if_false, ckZ, X_within, M_in, inR_z, X_refuse, X_tell, X_deny, X_grant, M_refused, M_denied, M_done, M_granted, u2_same, u2_ne, u2_u2, upd_same, upd_ne, aW0, ixR_z, ixR_1, M_isWall, M_isPainter, M_isWork, X_has4, X_has10, X_at, or_false, false_or, or_true, true_or, not_true, not_false_iff, Option.isSome_some, isO_d, gI_d, gA_d, pI_d, ne_eq, not_false_eq_true, u2_hi, u2_hj, u2_dyn, u2_dynj, Nat.reduceAdd, mX_r, mX_rD, mX_rDj, mM_r, mX_u, mX_uM, mX_uD, mX_uDj, mM_u, mM_uX, mM_uD, mM_uDj, u2_dd, u2_d0, u2_0d]
  · have hz' := oN_ne hz (by omega) (by omega)
    have g1 := g1 hz
    unfold btI at g1
    by_cases h0 : m85 (16 * i + j) = 0
    · have h1 : ¬ (I 3 i >>> (Int32.ofNat j &&& 31)) &&& 1 = 1 := by
        rw [g1, h0]; decide
      rw [if_pos h0]
      simp (decide := true) only [f_X9_areBeside_28, f_X9_areBeside_27, f_X9_areBeside, f_X9_arePair_26, f_X9_arePair_25, f_X9_arePair, hn, hi', hj', e7, hz', h1, isO_s, gI_s, gA_s, gL_s, pI_s, pZ_s, pL_s, aI_s, aL_s, aN_s, aQ_s, sI_s, sL_s, cr, LNs, Option.map_some, Option.map_none, Option.bind_some, b2, tr, lt, if_true, if_false, ckZ, X_within, M_in, inR_z, X_refuse, X_tell, X_deny, X_grant, M_refused, M_denied, M_done, M_granted, u2_same, u2_ne, u2_u2, upd_same, upd_ne, aW0, ixR_z, ixR_1, M_isWall, M_isPainter, M_isWork, X_has4, X_has10, X_at, or_false, false_or, or_true, true_or, not_true, not_false_iff, Option.isSome_some, isO_d, gI_d, gA_d, pI_d, ne_eq, not_false_eq_true, u2_hi, u2_hj, u2_dyn, u2_dynj, Nat.reduceAdd, mX_r, mX_rD, mX_rDj, mM_r, mX_u, mX_uM, mX_uD, mX_uDj, mM_u, mM_uX, mM_uD, mM_uDj, u2_dd, u2_d0, u2_0d]
    · have h1 : (I 3 i >>> (Int32.ofNat j &&& 31)) &&& 1 = 1 := g1.mpr (g0.resolve_left h0)
      rw [if_neg h0]
      simp (decide := true) only [f_X9_areBeside_28, f_X9_areBeside_27, f_X9_areBeside, f_X9_arePair_26, f_X9_arePair_25, f_X9_arePair, hn, hi', hj', e7, hz', h1, isO_s, gI_s, gA_s, gL_s, pI_s, pZ_s, pL_s, aI_s, aL_s, aN_s, aQ_s, sI_s, sL_s, cr, LNs, Option.map_some, Option.map_none, Option.bind_some, b2, tr, lt, if_true, if_false, ckZ, X_within, M_in, inR_z, X_refuse, X_tell, X_deny, X_grant, M_refused, M_denied, M_done, M_granted, u2_same, u2_ne, u2_u2, upd_same, upd_ne, aW0, ixR_z, ixR_1, M_isWall, M_isPainter, M_isWork, X_has4, X_has10, X_at, or_false, false_or, or_true, true_or, not_true, not_false_iff, Option.isSome_some, isO_d, gI_d, gA_d, pI_d, ne_eq, not_false_eq_true, u2_hi, u2_hj, u2_dyn, u2_dynj, Nat.reduceAdd, mX_r, mX_rD, mX_rDj, mM_r, mX_u, mX_uM, mX_uD, mX_uDj, mM_u, mM_uX, mM_uD, mM_uDj, u2_dd, u2_d0, u2_0d]
theorem M_amg1 {n j : Nat} (hn6 : n ≤ 6) (hn : I 72 72 = Int32.ofNat n) : ∀ (m i : Nat), i + m = n → ∀ fu, m < fu → f_X15_isAmong_4 fu (ad b 72) (Int32.ofNat j) 1 (Int32.ofNat i) (lay b F E I L P nx us) = some (1, (lay b F E I L P nx us)) := by
  intro m
  induction m with
  | zero =>
    intro i hi fu hf
    obtain ⟨fu, rfl⟩ : ∃ f, fu = f + 1 := ⟨fu - 1, by omega⟩
    have : i = n := by omega
    subst this
    simp (decide := true) only [f_X15_isAmong_4, hn, Int32.le_refl, isO_s, gI_s, gA_s, gL_s, pI_s, pZ_s, pL_s, aI_s, aL_s, aN_s, aQ_s, sI_s, sL_s, cr, LNs, Option.map_some, Option.map_none, Option.bind_some, b2, tr, lt, if_true, if_false, ckZ, X_within, M_in, inR_z, X_refuse, X_tell, X_deny, X_grant, M_refused, M_denied, M_done, M_granted, u2_same, u2_ne, u2_u2, upd_same, upd_ne, aW0, ixR_z, ixR_1, M_isWall, M_isPainter, M_isWork, X_has4, X_has10, X_at, or_false, false_or, or_true, true_or, not_true, not_false_iff, Option.isSome_some, isO_d, gI_d, gA_d, pI_d, ne_eq, not_false_eq_true, u2_hi, u2_hj, u2_dyn, u2_dynj, Nat.reduceAdd, mX_r, mX_rD, mX_rDj, mM_r, mX_u, mX_uM, mX_uD, mX_uDj, mM_u, mM_uX, mM_uD, mM_uDj, u2_dd, u2_d0, u2_0d]
  | succ m ih =>
    intro i hi fu hf
    obtain ⟨fu, rfl⟩ : ∃ f, fu = f + 1 := ⟨fu - 1, by omega⟩
    have e2 := oN_leF (show i < n by omega) (by omega)
    have ih' := ih (i + 1) (by omega) fu (by omega)
    simp (decide := true) only [f_X15_isAmong_4, f_X15_isAmong_26, f_X15_isAmong_31, hn, e2, oN_succ, ih', isO_s, gI_s, gA_s, gL_s, pI_s, pZ_s, pL_s, aI_s, aL_s, aN_s, aQ_s, sI_s, sL_s, cr, LNs, Option.map_some, Option.map_none, Option.bind_some, b2, tr, lt, if_true, if_false, ckZ, X_within, M_in, inR_z, X_refuse, X_tell, X_deny, X_grant, M_refused, M_denied, M_done, M_granted, u2_same, u2_ne, u2_u2, upd_same, upd_ne, aW0, ixR_z, ixR_1, M_isWall, M_isPainter, M_isWork, X_has4, X_has10, X_at, or_false, false_or, or_true, true_or, not_true, not_false_iff, Option.isSome_some, isO_d, gI_d, gA_d, pI_d, ne_eq, not_false_eq_true, u2_hi, u2_hj, u2_dyn, u2_dynj, Nat.reduceAdd, mX_r, mX_rD, mX_rDj, mM_r, mX_u, mX_uM, mX_uD, mX_uDj, mM_u, mM_uX, mM_uD, mM_uDj, u2_dd, u2_d0, u2_0d]
theorem M_amg {n j : Nat} {ak : Nat → Nat} (hn6 : n ≤ 6) (hn : I 72 72 = Int32.ofNat n) (hj : j < 16) (hak : ∀ k, k < n → ak k < 16 ∧ I 118 k = Int32.ofNat (ak k)) : ∀ (m i : Nat), i + m = n → ∀ fu, m < fu → ((∃ k, i ≤ k ∧ k < n ∧ ak k = j) → f_X15_isAmong_4 fu (ad b 72) (Int32.ofNat j) 0 (Int32.ofNat i) (lay b F E I L P nx us) = some (1, (lay b F E I L P nx us))) ∧ ((¬ ∃ k, i ≤ k ∧ k < n ∧ ak k = j) → f_X15_isAmong_4 fu (ad b 72) (Int32.ofNat j) 0 (Int32.ofNat i) (lay b F E I L P nx us) = some (0, (lay b F E I L P nx us))) := by
  intro m
  induction m with
  | zero =>
    intro i hi fu hf
    obtain ⟨fu, rfl⟩ : ∃ f, fu = f + 1 := ⟨fu - 1, by omega⟩
    have : i = n := by omega
    subst this
    refine ⟨fun ⟨k, h1, h2, _⟩ => absurd h1 (by omega), fun _ => ?_⟩
    simp (decide := true) only [f_X15_isAmong_4, hn, Int32.le_refl, isO_s, gI_s, gA_s, gL_s, pI_s, pZ_s, pL_s, aI_s, aL_s, aN_s, aQ_s, sI_s, sL_s, cr, LNs, Option.map_some, Option.map_none, Option.bind_some, b2, tr, lt, if_true, if_false, ckZ, X_within, M_in, inR_z, X_refuse, X_tell, X_deny, X_grant, M_refused, M_denied, M_done, M_granted, u2_same, u2_ne, u2_u2, upd_same, upd_ne, aW0, ixR_z, ixR_1, M_isWall, M_isPainter, M_isWork, X_has4, X_has10, X_at, or_false, false_or, or_true, true_or, not_true, not_false_iff, Option.isSome_some, isO_d, gI_d, gA_d, pI_d, ne_eq, not_false_eq_true, u2_hi, u2_hj, u2_dyn, u2_dynj, Nat.reduceAdd, mX_r, mX_rD, mX_rDj, mM_r, mX_u, mX_uM, mX_uD, mX_uDj, mM_u, mM_uX, mM_uD, mM_uDj, u2_dd, u2_d0, u2_0d]
  | succ m ih =>
    intro i hi fu hf
    obtain ⟨fu, rfl⟩ : ∃ f, fu = f + 1 := ⟨fu - 1, by omega⟩
    have e2 := oN_leF (show i < n by omega) (by omega)
    have e3 : iN (Int32.ofNat i) 6 = some i := iN_oN (by omega) (by omega)
    obtain ⟨a1, a2⟩ := hak i (by omega)
    obtain ⟨i1, i2⟩ := ih (i + 1) (by omega) fu (by omega)
    by_cases h : ak i = j
    · have he : (Int32.ofNat (ak i) = Int32.ofNat j) = True := eq_true (by rw [h])
      have hm := M_amg1 (b := b) (F := F) (E := E) (L := L) (P := P) (nx := nx) (us := us) (I := I) (j := j) hn6 hn m (i + 1) (by omega) fu (by omega)
      refine ⟨fun _ => ?_, fun q => absurd ⟨i, Nat.le_refl _, by omega, h⟩ q⟩
      simp (decide := true) only [f_X15_isAmong_4, f_X15_isAmong_26, f_X15_isAmong_31, hn, e2, e3, a2, he, oN_succ, hm, isO_s, gI_s, gA_s, gL_s, pI_s, pZ_s, pL_s, aI_s, aL_s, aN_s, aQ_s, sI_s, sL_s, cr, LNs, Option.map_some, Option.map_none, Option.bind_some, b2, tr, lt, if_true, if_false, ckZ, X_within, M_in, inR_z, X_refuse, X_tell, X_deny, X_grant, M_refused, M_denied, M_done, M_granted, u2_same, u2_ne, u2_u2, upd_same, upd_ne, aW0, ixR_z, ixR_1, M_isWall, M_isPainter, M_isWork, X_has4, X_has10, X_at, or_false, false_or, or_true, true_or, not_true, not_false_iff, Option.isSome_some, isO_d, gI_d, gA_d, pI_d, ne_eq, not_false_eq_true, u2_hi, u2_hj, u2_dyn, u2_dynj, Nat.reduceAdd, mX_r, mX_rD, mX_rDj, mM_r, mX_u, mX_uM, mX_uD, mX_uDj, mM_u, mM_uX, mM_uD, mM_uDj, u2_dd, u2_d0, u2_0d]
    · have he : (Int32.ofNat (ak i) = Int32.ofNat j) = False := oN_ne h (by omega) (by omega)
      constructor
      · rintro ⟨k, h1, h2, h3⟩
        have hk : k ≠ i := fun q => h (q ▸ h3)
        have i1' := i1 ⟨k, by omega, h2, h3⟩
        simp (decide := true) only [f_X15_isAmong_4, f_X15_isAmong_26, f_X15_isAmong_31, hn, e2, e3, a2, he, oN_succ, i1', isO_s, gI_s, gA_s, gL_s, pI_s, pZ_s, pL_s, aI_s, aL_s, aN_s, aQ_s, sI_s, sL_s, cr, LNs, Option.map_some, Option.map_none, Option.bind_some, b2, tr, lt, if_true, if_false, ckZ, X_within, M_in, inR_z, X_refuse, X_tell, X_deny, X_grant, M_refused, M_denied, M_done, M_granted, u2_same, u2_ne, u2_u2, upd_same, upd_ne, aW0, ixR_z, ixR_1, M_isWall, M_isPainter, M_isWork, X_has4, X_has10, X_at, or_false, false_or, or_true, true_or, not_true, not_false_iff, Option.isSome_some, isO_d, gI_d, gA_d, pI_d, ne_eq, not_false_eq_true, u2_hi, u2_hj, u2_dyn, u2_dynj, Nat.reduceAdd, mX_r, mX_rD, mX_rDj, mM_r, mX_u, mX_uM, mX_uD, mX_uDj, mM_u, mM_uX, mM_uD, mM_uDj, u2_dd, u2_d0, u2_0d]
      · intro hq
        have i2' := i2 (fun ⟨k, h1, h2, h3⟩ => hq ⟨k, by omega, h2, h3⟩)
        simp (decide := true) only [f_X15_isAmong_4, f_X15_isAmong_26, f_X15_isAmong_31, hn, e2, e3, a2, he, oN_succ, i2', isO_s, gI_s, gA_s, gL_s, pI_s, pZ_s, pL_s, aI_s, aL_s, aN_s, aQ_s, sI_s, sL_s, cr, LNs, Option.map_some, Option.map_none, Option.bind_some, b2, tr, lt, if_true, if_false, ckZ, X_within, M_in, inR_z, X_refuse, X_tell, X_deny, X_grant, M_refused, M_denied, M_done, M_granted, u2_same, u2_ne, u2_u2, upd_same, upd_ne, aW0, ixR_z, ixR_1, M_isWall, M_isPainter, M_isWork, X_has4, X_has10, X_at, or_false, false_or, or_true, true_or, not_true, not_false_iff, Option.isSome_some, isO_d, gI_d, gA_d, pI_d, ne_eq, not_false_eq_true, u2_hi, u2_hj, u2_dyn, u2_dynj, Nat.reduceAdd, mX_r, mX_rD, mX_rDj, mM_r, mX_u, mX_uM, mX_uD, mX_uDj, mM_u, mM_uX, mM_uD, mM_uDj, u2_dd, u2_d0, u2_0d]
theorem M_among {s nw n j : Nat} {ak : Nat → Nat} (h16 : nw ≤ 16) (hn6 : n ≤ 6) (hn : I 72 72 = Int32.ofNat n) (hj : j < nw) (hK : AK s nw n ak) (hak : ∀ k, k < n → I 118 k = Int32.ofNat (ak k)) : f_X15_isAmong (ad b 72) (Int32.ofNat j) (lay b F E I L P nx us) = some (if s.testBit j = true then 1 else 0, (lay b F E I L P nx us)) := by
  obtain ⟨a1, a2, a3⟩ := hK
  obtain ⟨m1, m2⟩ := M_amg (b := b) (F := F) (E := E) (L := L) (P := P) (nx := nx) (us := us) (I := I) (j := j) (ak := ak) hn6 hn (by omega) (fun k hk => ⟨by have := (a1 k hk).1; omega, hak k hk⟩) n 0 (by omega) FU (by unfold FU; omega)
  by_cases hb : s.testBit j = true
  · obtain ⟨k, k1, k2⟩ := a2 j hj hb
    have := m1 ⟨k, by omega, k1, k2⟩
    rw [if_pos hb]
    simp (decide := true) only [f_X15_isAmong, isO_s, gI_s, gA_s, gL_s, pI_s, pZ_s, pL_s, aI_s, aL_s, aN_s, aQ_s, sI_s, sL_s, cr, LNs, Option.map_some, Option.map_none, Option.bind_some, b2, tr, lt, if_true, if_false, ckZ, X_within, M_in, inR_z, X_refuse, X_tell, X_deny, X_grant, M_refused, M_denied, M_done, M_granted, u2_same, u2_ne, u2_u2, upd_same, upd_ne, aW0, ixR_z, ixR_1, M_isWall, M_isPainter, M_isWork, X_has4, X_has10, X_at, or_false, false_or, or_true, true_or, not_true, not_false_iff, Option.isSome_some, isO_d, gI_d, gA_d, pI_d, ne_eq, not_false_eq_true, u2_hi, u2_hj, u2_dyn, u2_dynj, Nat.reduceAdd, mX_r, mX_rD, mX_rDj, mM_r, mX_u, mX_uM, mX_uD, mX_uDj, mM_u, mM_uX, mM_uD, mM_uDj, u2_dd, u2_d0, u2_0d]
    exact this
  · have := m2 (fun ⟨k, _, k1, k2⟩ => hb (k2 ▸ (a1 k k1).2))
    rw [if_neg hb]
    simp (decide := true) only [f_X15_isAmong, isO_s, gI_s, gA_s, gL_s, pI_s, pZ_s, pL_s, aI_s, aL_s, aN_s, aQ_s, sI_s, sL_s, cr, LNs, Option.map_some, Option.map_none, Option.bind_some, b2, tr, lt, if_true, if_false, ckZ, X_within, M_in, inR_z, X_refuse, X_tell, X_deny, X_grant, M_refused, M_denied, M_done, M_granted, u2_same, u2_ne, u2_u2, upd_same, upd_ne, aW0, ixR_z, ixR_1, M_isWall, M_isPainter, M_isWork, X_has4, X_has10, X_at, or_false, false_or, or_true, true_or, not_true, not_false_iff, Option.isSome_some, isO_d, gI_d, gA_d, pI_d, ne_eq, not_false_eq_true, u2_hi, u2_hj, u2_dyn, u2_dynj, Nat.reduceAdd, mX_r, mX_rD, mX_rDj, mM_r, mX_u, mX_uM, mX_uD, mX_uDj, mM_u, mM_uX, mM_uD, mM_uDj, u2_dd, u2_d0, u2_0d]
    exact this
end GIV5
