/-! ===== one good day on both sides ===== -/
theorem u2_id {α : Type} (I : Nat → α) (c : Nat) : u2 I c (I c) = I := by
  funext q
  unfold u2
  split
  · rename_i h; rw [h]
  · rfl
theorem u2_id' {α : Type} {I : Nat → α} {c : Nat} {f : α} (h : I c = f) : u2 I c f = I := by rw [← h]; exact u2_id I c
theorem u2_cm {α : Type} {I : Nat → α} {c d : Nat} {f g : α} (h : c ≠ d) : u2 (u2 I c f) d g = u2 (u2 I d g) c f := by
  funext q
  unfold u2
  by_cases h1 : q = d
  · subst h1; simp [Ne.symm h]
  · simp [h1]
/-- st' comes out of st, did' out of did, lf' out of lf by a day -/
def DayOk (nk : Nat) (nd co did st lf did' st' lf' : RW) : Prop := ∀ k, k < nk → WST (nd k) (did' k) (st' k) (lf' k) (co k) ∧ (st k = 3 → st' k = 3 ∧ did' k = did k)
section DAY
variable {b : Nat} {F : Nat → Option AE} {D E : Nat → Option KD} {I : Nat → Nat → Int32} {L : Nat → Nat → Int64} {P : Nat → Nat → Option Nat} {nx us : Nat}
theorem day {nk : Nat} {nd co : RW} (h40 : nk ≤ 40) : ∀ (m i : Nat), i + m = nk → ∀ (free n : Int32) (did st lf : RW), 0 ≤ free → (∀ k, k < nk → WST (nd k) (did k) (st k) (lf k) (co k)) →
    ∃ did' st' lf' : RW,
      (∀ (I : Nat → Nat → Int32) (cd fu : Nat), m < fu → tk cd = 0 → ln cd = 40 → 13 ≠ cd → 17 ≠ cd → I cd = did → I 17 = nd → I 13 1 = Int32.ofNat nk → f_X10_bringOn_7 fu (ad b 13) (ad b cd) free (Int32.ofNat i) (lay b F E I L P nx us) = some (lay b F E (u2 I cd did') L P nx us))
      ∧ (∀ (I : Nat → Nat → Int32) (cs cl fu : Nat), m < fu → tk cs = 0 → ln cs = 40 → tk cl = 0 → ln cl = 40 → cs ≠ cl → 72 ≠ cs → 72 ≠ cl → 128 ≠ cs → 128 ≠ cl → I cs = st → I cl = lf → I 128 = co → I 72 76 = Int32.ofNat nk → f_X15_goes_11 fu (ad b 72) (ad b cs) (ad b cl) free n (Int32.ofNat i) (lay b F E I L P nx us) = some (n + sm (fun k => if st k ≠ 3 ∧ st' k = 3 then 1 else 0) i m, lay b F E (u2 (u2 I cs st') cl lf') L P nx us))
      ∧ DayOk nk nd co did st lf did' st' lf' ∧ (∀ k, k < i → did' k = did k ∧ st' k = st k ∧ lf' k = lf k) := by
  intro m
  induction m with
  | zero =>
    intro i hi free n did st lf hf hW
    have hi' : i = nk := by omega
    subst hi'
    refine ⟨did, st, lf, ?_, ?_, fun k hk => ⟨hW k hk, fun h => ⟨h, rfl⟩⟩, fun k _ => ⟨rfl, rfl, rfl⟩⟩
    · intro I cd fu hfu t1 t2 d1 d2 r1 r2 r3
      obtain ⟨fu, rfl⟩ : ∃ z, fu = z + 1 := ⟨fu - 1, by omega⟩
      rw [u2_id' r1]
      simp (decide := true) only [f_X10_bringOn_7, f_X10_bringOn_91, r3, Int32.le_refl, isO_s, gI_s, gA_s, gL_s, pI_s, pZ_s, pL_s, aI_s, aL_s, aN_s, aQ_s, sI_s, sL_s, cr, LNs, Option.map_some, Option.map_none, Option.bind_some, b2, tr, lt, if_true, if_false, ckZ, X_within, M_in, inR_z, X_refuse, X_tell, X_deny, X_grant, M_refused, M_denied, M_done, M_granted, u2_same, u2_ne, u2_u2, upd_same, upd_ne, aW0, ixR_z, ixR_1, M_isWall, M_isPainter, M_isWork, X_has4, X_has10, X_at, or_false, false_or, or_true, true_or, not_true, not_false_iff, Option.isSome_some, isO_d, gI_d, gA_d, pI_d, ne_eq, not_false_eq_true, u2_hi, u2_hj, u2_dyn, u2_dynj, Nat.reduceAdd]
    · intro I cs cl fu hfu t1 t2 t3 t4 d0 d1 d2 d3 d4 r1 r2 r3 r4
      obtain ⟨fu, rfl⟩ : ∃ z, fu = z + 1 := ⟨fu - 1, by omega⟩
      rw [u2_id' r1, u2_id' r2, sm_zero]
      simp (decide := true) only [f_X15_goes_11, r4, Int32.le_refl, isO_s, gI_s, gA_s, gL_s, pI_s, pZ_s, pL_s, aI_s, aL_s, aN_s, aQ_s, sI_s, sL_s, cr, LNs, Option.map_some, Option.map_none, Option.bind_some, b2, tr, lt, if_true, if_false, ckZ, X_within, M_in, inR_z, X_refuse, X_tell, X_deny, X_grant, M_refused, M_denied, M_done, M_granted, u2_same, u2_ne, u2_u2, upd_same, upd_ne, aW0, ixR_z, ixR_1, M_isWall, M_isPainter, M_isWork, X_has4, X_has10, X_at, or_false, false_or, or_true, true_or, not_true, not_false_iff, Option.isSome_some, isO_d, gI_d, gA_d, pI_d, ne_eq, not_false_eq_true, u2_hi, u2_hj, u2_dyn, u2_dynj, Nat.reduceAdd]
  | succ m ih =>
    intro i hi free n did st lf hf hW
    have hik : i < nk := by omega
    have e2 := oN_leF hik (by omega)
    have e2' := oN_leF (show i < 40 by omega) (by omega)
    have e3 : iN (Int32.ofNat i) 40 = some i := iN_oN (by omega) (by omega)
    have hWi := hW i hik
    have hov := WST_over hWi
    -- a step that changes nothing
    by_cases hskip : st i = 3 ∨ (st i ≠ 1 ∧ free = 0)
    · obtain ⟨did', st', lf', ih1, ih2, ih3, ih4⟩ := ih (i + 1) (by omega) free n did st lf hf hW
      obtain ⟨q1, q2, q3⟩ := ih4 i (by omega)
      refine ⟨did', st', lf', ?_, ?_, ih3, fun k hk => ih4 k (by omega)⟩
      · intro I cd fu hfu t1 t2 d1 d2 r1 r2 r3
        obtain ⟨fu, rfl⟩ : ∃ z, fu = z + 1 := ⟨fu - 1, by omega⟩
        have ih1 := ih1 I cd fu (by omega) t1 t2 d1 d2 r1 r2 r3
        rcases hskip with hs | ⟨hs1, rfl⟩
        · have h5 : ¬ did i < nd i := fun q => hov.mp q hs
          simp (decide := true) only [f_X10_bringOn_7, f_X10_bringOn_85, r3, e2, e2', e3, t1, t2, r1, r2, h5, oN_succ, isO_s, gI_s, gA_s, gL_s, pI_s, pZ_s, pL_s, aI_s, aL_s, aN_s, aQ_s, sI_s, sL_s, cr, LNs, Option.map_some, Option.map_none, Option.bind_some, b2, tr, lt, if_true, if_false, ckZ, X_within, M_in, inR_z, X_refuse, X_tell, X_deny, X_grant, M_refused, M_denied, M_done, M_granted, u2_same, u2_ne, u2_u2, upd_same, upd_ne, aW0, ixR_z, ixR_1, M_isWall, M_isPainter, M_isWork, X_has4, X_has10, X_at, or_false, false_or, or_true, true_or, not_true, not_false_iff, Option.isSome_some, isO_d, gI_d, gA_d, pI_d, ne_eq, not_false_eq_true, u2_hi, u2_hj, u2_dyn, u2_dynj, Nat.reduceAdd]
          exact ih1
        · by_cases h5 : did i < nd i
          · have h6 : did i = 0 ∨ ¬ did i < 3 := by
              rcases WST_stage hWi with ⟨z1, -⟩ | ⟨-, -, z1, -⟩ | ⟨-, z1, -⟩ | ⟨-, z1, -⟩
              · exact Or.inl z1
              · exact absurd z1 hs1
              · exact Or.inr (Int32.not_lt.mpr z1)
              · exact Or.inr (Int32.not_lt.mpr z1)
            by_cases h7 : did i = 0
            · rw [h7] at h5
              simp (decide := true) only [f_X10_bringOn_7, f_X10_bringOn_49, f_X10_bringOn_54, f_X10_bringOn_85, r3, e2, e2', e3, t1, t2, r1, r2, h5, h7, oN_succ, isO_s, gI_s, gA_s, gL_s, pI_s, pZ_s, pL_s, aI_s, aL_s, aN_s, aQ_s, sI_s, sL_s, cr, LNs, Option.map_some, Option.map_none, Option.bind_some, b2, tr, lt, if_true, if_false, ckZ, X_within, M_in, inR_z, X_refuse, X_tell, X_deny, X_grant, M_refused, M_denied, M_done, M_granted, u2_same, u2_ne, u2_u2, upd_same, upd_ne, aW0, ixR_z, ixR_1, M_isWall, M_isPainter, M_isWork, X_has4, X_has10, X_at, or_false, false_or, or_true, true_or, not_true, not_false_iff, Option.isSome_some, isO_d, gI_d, gA_d, pI_d, ne_eq, not_false_eq_true, u2_hi, u2_hj, u2_dyn, u2_dynj, Nat.reduceAdd]
              exact ih1
            · have h8 := h6.resolve_left h7
              simp (decide := true) only [f_X10_bringOn_7, f_X10_bringOn_49, f_X10_bringOn_54, f_X10_bringOn_85, r3, e2, e2', e3, t1, t2, r1, r2, h5, h7, h8, oN_succ, isO_s, gI_s, gA_s, gL_s, pI_s, pZ_s, pL_s, aI_s, aL_s, aN_s, aQ_s, sI_s, sL_s, cr, LNs, Option.map_some, Option.map_none, Option.bind_some, b2, tr, lt, if_true, if_false, ckZ, X_within, M_in, inR_z, X_refuse, X_tell, X_deny, X_grant, M_refused, M_denied, M_done, M_granted, u2_same, u2_ne, u2_u2, upd_same, upd_ne, aW0, ixR_z, ixR_1, M_isWall, M_isPainter, M_isWork, X_has4, X_has10, X_at, or_false, false_or, or_true, true_or, not_true, not_false_iff, Option.isSome_some, isO_d, gI_d, gA_d, pI_d, ne_eq, not_false_eq_true, u2_hi, u2_hj, u2_dyn, u2_dynj, Nat.reduceAdd]
              exact ih1
          · simp (decide := true) only [f_X10_bringOn_7, f_X10_bringOn_85, r3, e2, e2', e3, t1, t2, r1, r2, h5, oN_succ, isO_s, gI_s, gA_s, gL_s, pI_s, pZ_s, pL_s, aI_s, aL_s, aN_s, aQ_s, sI_s, sL_s, cr, LNs, Option.map_some, Option.map_none, Option.bind_some, b2, tr, lt, if_true, if_false, ckZ, X_within, M_in, inR_z, X_refuse, X_tell, X_deny, X_grant, M_refused, M_denied, M_done, M_granted, u2_same, u2_ne, u2_u2, upd_same, upd_ne, aW0, ixR_z, ixR_1, M_isWall, M_isPainter, M_isWork, X_has4, X_has10, X_at, or_false, false_or, or_true, true_or, not_true, not_false_iff, Option.isSome_some, isO_d, gI_d, gA_d, pI_d, ne_eq, not_false_eq_true, u2_hi, u2_hj, u2_dyn, u2_dynj, Nat.reduceAdd]
            exact ih1
      · intro I cs cl fu hfu t1 t2 t3 t4 d0 d1 d2 d3 d4 r1 r2 r3 r4
        obtain ⟨fu, rfl⟩ : ∃ z, fu = z + 1 := ⟨fu - 1, by omega⟩
        have ih2 := ih2 I cs cl fu (by omega) t1 t2 t3 t4 d0 d1 d2 d3 d4 r1 r2 r3 r4
        have hz : (if st i ≠ 3 ∧ st' i = 3 then (1 : Int32) else 0) = 0 := by
          rw [q2, if_neg]; rintro ⟨z1, z2⟩; exact z1 z2
        have hn : n + sm (fun k => if st k ≠ 3 ∧ st' k = 3 then 1 else 0) i (m + 1) = n + sm (fun k => if st k ≠ 3 ∧ st' k = 3 then 1 else 0) (i + 1) m := by
          rw [← sm_step, hz, Int32.add_zero]
        rw [hn]
        rcases hskip with hs | ⟨hs1, rfl⟩
        · simp (decide := true) only [f_X15_goes_11, f_X15_goes_138, r4, e2, e3, t1, t2, r1, hs, oN_succ, isO_s, gI_s, gA_s, gL_s, pI_s, pZ_s, pL_s, aI_s, aL_s, aN_s, aQ_s, sI_s, sL_s, cr, LNs, Option.map_some, Option.map_none, Option.bind_some, b2, tr, lt, if_true, if_false, ckZ, X_within, M_in, inR_z, X_refuse, X_tell, X_deny, X_grant, M_refused, M_denied, M_done, M_granted, u2_same, u2_ne, u2_u2, upd_same, upd_ne, aW0, ixR_z, ixR_1, M_isWall, M_isPainter, M_isWork, X_has4, X_has10, X_at, or_false, false_or, or_true, true_or, not_true, not_false_iff, Option.isSome_some, isO_d, gI_d, gA_d, pI_d, ne_eq, not_false_eq_true, u2_hi, u2_hj, u2_dyn, u2_dynj, Nat.reduceAdd]
          exact ih2
        · by_cases h3 : st i = 3
          · simp (decide := true) only [f_X15_goes_11, f_X15_goes_138, r4, e2, e3, t1, t2, r1, h3, oN_succ, isO_s, gI_s, gA_s, gL_s, pI_s, pZ_s, pL_s, aI_s, aL_s, aN_s, aQ_s, sI_s, sL_s, cr, LNs, Option.map_some, Option.map_none, Option.bind_some, b2, tr, lt, if_true, if_false, ckZ, X_within, M_in, inR_z, X_refuse, X_tell, X_deny, X_grant, M_refused, M_denied, M_done, M_granted, u2_same, u2_ne, u2_u2, upd_same, upd_ne, aW0, ixR_z, ixR_1, M_isWall, M_isPainter, M_isWork, X_has4, X_has10, X_at, or_false, false_or, or_true, true_or, not_true, not_false_iff, Option.isSome_some, isO_d, gI_d, gA_d, pI_d, ne_eq, not_false_eq_true, u2_hi, u2_hj, u2_dyn, u2_dynj, Nat.reduceAdd]
            exact ih2
          · simp (decide := true) only [f_X15_goes_11, f_X15_goes_138, r4, e2, e3, t1, t2, r1, h3, hs1, oN_succ, isO_s, gI_s, gA_s, gL_s, pI_s, pZ_s, pL_s, aI_s, aL_s, aN_s, aQ_s, sI_s, sL_s, cr, LNs, Option.map_some, Option.map_none, Option.bind_some, b2, tr, lt, if_true, if_false, ckZ, X_within, M_in, inR_z, X_refuse, X_tell, X_deny, X_grant, M_refused, M_denied, M_done, M_granted, u2_same, u2_ne, u2_u2, upd_same, upd_ne, aW0, ixR_z, ixR_1, M_isWall, M_isPainter, M_isWork, X_has4, X_has10, X_at, or_false, false_or, or_true, true_or, not_true, not_false_iff, Option.isSome_some, isO_d, gI_d, gA_d, pI_d, ne_eq, not_false_eq_true, u2_hi, u2_hj, u2_dyn, u2_dynj, Nat.reduceAdd]
            exact ih2
    · -- a step that brings it on
      have h3 : st i ≠ 3 := fun q => hskip (Or.inl q)
      have hlt := hov.mpr h3
      have hfr : st i ≠ 1 → free ≠ 0 := fun q q2 => hskip (Or.inr ⟨q, q2⟩)
      obtain ⟨s2, l2, hnew⟩ : ∃ s2 l2 : Int32, (if lf i - 1 ≤ 0 then s2 = st i + 1 ∧ l2 = (if s2 = 1 then 2 else if s2 = 2 then co i else 0) else s2 = st i ∧ l2 = lf i - 1) := by
        by_cases hz : lf i - 1 ≤ 0
        · exact ⟨st i + 1, _, by rw [if_pos hz]; exact ⟨rfl, rfl⟩⟩
        · exact ⟨st i, _, by rw [if_neg hz]; exact ⟨rfl, rfl⟩⟩
      have hnw : WST (nd i) (did i + 1) s2 l2 (co i) := by
        obtain ⟨w1, w2, w3, w4⟩ := hWi
        refine ⟨w1, w2, w3, ?_⟩
        rcases w4 with ⟨z1, z2, z3⟩ | ⟨z1, z2, z3, z4⟩ | ⟨z1, z2, z3, z4⟩ | ⟨z1, z2, z3⟩
        · have hc : lf i - 1 ≤ 0 := by rw [z3]; decide
          rw [if_pos hc] at hnew
          obtain ⟨y1, y2⟩ := hnew
          rw [z1] at y1
          rw [y1] at y2
          simp (decide := true) only [if_true] at y2
          right; left
          refine ⟨y1, ?_, ?_, ?_⟩
          · rw [z2, y2]; decide
          · rw [y2]; decide
          · rw [y2]; decide
        · by_cases hc : lf i - 1 ≤ 0
          · rw [if_pos hc] at hnew
            obtain ⟨y1, y2⟩ := hnew
            rw [z1] at y1
            rw [y1] at y2
            simp (decide := true) only [if_true, if_false] at y2
            right; right; left
            have : lf i = 1 := by grind
            refine ⟨y1, ?_, ?_, ?_⟩ <;> grind
          · rw [if_neg hc] at hnew
            obtain ⟨y1, y2⟩ := hnew
            right; left
            have : lf i = 2 := by grind
            refine ⟨by rw [y1]; exact z1, ?_, ?_, ?_⟩ <;> grind
        · by_cases hc : lf i - 1 ≤ 0
          · rw [if_pos hc] at hnew
            obtain ⟨y1, y2⟩ := hnew
            rw [z1] at y1
            rw [y1] at y2
            simp (decide := true) only [if_false] at y2
            right; right; right
            have : lf i = 1 := by grind
            refine ⟨y1, ?_, y2⟩
            grind
          · rw [if_neg hc] at hnew
            obtain ⟨y1, y2⟩ := hnew
            right; right; left
            refine ⟨by rw [y1]; exact z1, ?_, ?_, ?_⟩ <;> grind
        · exact absurd z1 h3
      have hf2 : (0 : Int32) ≤ (if st i = 1 then free else free + (-1)) := by
        split
        · exact hf
        · rename_i hz
          have := hfr hz
          grind
      have hW2 : ∀ k, k < nk → WST (nd k) (upd did i (did i + 1) k) (upd st i s2 k) (upd lf i l2 k) (co k) := by
        intro k hk
        by_cases hz : k = i
        · subst hz; rw [upd_same, upd_same, upd_same]; exact hnw
        · rw [upd_ne hz, upd_ne hz, upd_ne hz]; exact hW k hk
      obtain ⟨did', st', lf', ih1, ih2, ih3, ih4⟩ := ih (i + 1) (by omega) (if st i = 1 then free else free + (-1)) (n + (if s2 = 3 then 1 else 0)) (upd did i (did i + 1)) (upd st i s2) (upd lf i l2) hf2 hW2
      obtain ⟨q1, q2, q3⟩ := ih4 i (by omega)
      rw [upd_same] at q1 q2 q3
      refine ⟨did', st', lf', ?_, ?_, ?_, ?_⟩
      · intro I cd fu hfu t1 t2 d1 d2 r1 r2 r3
        obtain ⟨fu, rfl⟩ : ∃ z, fu = z + 1 := ⟨fu - 1, by omega⟩
        have ih1 := ih1 (u2 I cd (upd did i (did i + 1))) cd fu (by omega) t1 t2 d1 d2 (u2_same _ _ _) (by rw [u2_ne d2]; exact r2) (by rw [u2_ne d1]; exact r3)
        rw [u2_u2] at ih1
        by_cases h1 : st i = 1
        · rw [if_pos h1] at ih1
          have h7 : did i ≠ 0 ∧ did i < 3 := by
            rcases WST_stage hWi with ⟨-, z1, -⟩ | ⟨z1, z2, -⟩ | ⟨-, -, -, z1, -⟩ | ⟨-, -, -, z1, -⟩
            · rw [h1] at z1; cases z1
            · exact ⟨z1, Int32.not_le.mp z2⟩
            · rw [h1] at z1; cases z1
            · rw [h1] at z1; cases z1
          simp (decide := true) only [f_X10_bringOn_7, f_X10_bringOn_49, f_X10_bringOn_54, f_X10_bringOn_85, r3, e2, e2', e3, t1, t2, r1, r2, hlt, h7.1, h7.2, oN_succ, isO_s, gI_s, gA_s, gL_s, pI_s, pZ_s, pL_s, aI_s, aL_s, aN_s, aQ_s, sI_s, sL_s, cr, LNs, Option.map_some, Option.map_none, Option.bind_some, b2, tr, lt, if_true, if_false, ckZ, X_within, M_in, inR_z, X_refuse, X_tell, X_deny, X_grant, M_refused, M_denied, M_done, M_granted, u2_same, u2_ne, u2_u2, upd_same, upd_ne, aW0, ixR_z, ixR_1, M_isWall, M_isPainter, M_isWork, X_has4, X_has10, X_at, or_false, false_or, or_true, true_or, not_true, not_false_iff, Option.isSome_some, isO_d, gI_d, gA_d, pI_d, ne_eq, not_false_eq_true, u2_hi, u2_hj, u2_dyn, u2_dynj, Nat.reduceAdd]
          exact ih1
        · rw [if_neg h1] at ih1
          have hfp : ¬ free ≤ 0 := by have := hfr h1; grind
          have h6 : did i = 0 ∨ ¬ did i < 3 := by
            rcases WST_stage hWi with ⟨z1, -⟩ | ⟨-, -, z1, -⟩ | ⟨-, z1, -⟩ | ⟨-, z1, -⟩
            · exact Or.inl z1
            · exact absurd z1 h1
            · exact Or.inr (Int32.not_lt.mpr z1)
            · exact Or.inr (Int32.not_lt.mpr z1)
          by_cases h7 : did i = 0
          · rw [h7] at hlt ih1
            simp (decide := true) only [f_X10_bringOn_7, f_X10_bringOn_49, f_X10_bringOn_54, f_X10_bringOn_85, r3, e2, e2', e3, t1, t2, r1, r2, hlt, h7, hfp, oN_succ, isO_s, gI_s, gA_s, gL_s, pI_s, pZ_s, pL_s, aI_s, aL_s, aN_s, aQ_s, sI_s, sL_s, cr, LNs, Option.map_some, Option.map_none, Option.bind_some, b2, tr, lt, if_true, if_false, ckZ, X_within, M_in, inR_z, X_refuse, X_tell, X_deny, X_grant, M_refused, M_denied, M_done, M_granted, u2_same, u2_ne, u2_u2, upd_same, upd_ne, aW0, ixR_z, ixR_1, M_isWall, M_isPainter, M_isWork, X_has4, X_has10, X_at, or_false, false_or, or_true, true_or, not_true, not_false_iff, Option.isSome_some, isO_d, gI_d, gA_d, pI_d, ne_eq, not_false_eq_true, u2_hi, u2_hj, u2_dyn, u2_dynj, Nat.reduceAdd]
            exact ih1
          · have h8 := h6.resolve_left h7
            simp (decide := true) only [f_X10_bringOn_7, f_X10_bringOn_49, f_X10_bringOn_54, f_X10_bringOn_85, r3, e2, e2', e3, t1, t2, r1, r2, hlt, h7, h8, hfp, oN_succ, isO_s, gI_s, gA_s, gL_s, pI_s, pZ_s, pL_s, aI_s, aL_s, aN_s, aQ_s, sI_s, sL_s, cr, LNs, Option.map_some, Option.map_none, Option.bind_some, b2, tr, lt, if_true, if_false, ckZ, X_within, M_in, inR_z, X_refuse, X_tell, X_deny, X_grant, M_refused, M_denied, M_done, M_granted, u2_same, u2_ne, u2_u2, upd_same, upd_ne, aW0, ixR_z, ixR_1, M_isWall, M_isPainter, M_isWork, X_has4, X_has10, X_at, or_false, false_or, or_true, true_or, not_true, not_false_iff, Option.isSome_some, isO_d, gI_d, gA_d, pI_d, ne_eq, not_false_eq_true, u2_hi, u2_hj, u2_dyn, u2_dynj, Nat.reduceAdd]
            exact ih1
      · intro I cs cl fu hfu t1 t2 t3 t4 d0 d1 d2 d3 d4 r1 r2 r3 r4
        obtain ⟨fu, rfl⟩ : ∃ z, fu = z + 1 := ⟨fu - 1, by omega⟩
        have ih2 := ih2 (u2 (u2 I cl (upd lf i l2)) cs (upd st i s2)) cs cl fu (by omega) t1 t2 t3 t4 d0 d1 d2 d3 d4 (u2_same _ _ _) (by rw [u2_ne (Ne.symm d0), u2_same]) (by rw [u2_ne d3, u2_ne d4]; exact r3) (by rw [u2_ne d1, u2_ne d2]; exact r4)
        have hn : n + sm (fun k => if st k ≠ 3 ∧ st' k = 3 then 1 else 0) i (m + 1) = n + (if s2 = 3 then 1 else 0) + sm (fun k => if upd st i s2 k ≠ 3 ∧ st' k = 3 then 1 else 0) (i + 1) m := by
          rw [← sm_step]
          congr 1
          · congr 1
            rw [q2]
            by_cases hz : s2 = 3
            · rw [if_pos ⟨h3, hz⟩, if_pos hz]
            · rw [if_neg (fun q => hz q.2), if_neg hz]
          · refine sm_congr _ _ ?_
            intro k hk1 hk2
            rw [upd_ne (show k ≠ i by omega)]
        have hst : u2 (u2 (u2 (u2 I cl (upd lf i l2)) cs (upd st i s2)) cs st') cl lf' = u2 (u2 I cs st') cl lf' := by
          rw [u2_u2, u2_cm (Ne.symm d0), u2_u2]
        rw [hst] at ih2
        rw [hn]
        have d0' : cl ≠ cs := Ne.symm d0
        have hfm : free - (if st i = 1 then 0 else 1) = (if st i = 1 then free else free + (-1)) := by
          by_cases h1 : st i = 1
          · rw [if_pos h1, if_pos h1, Int32.sub_zero]
          · rw [if_neg h1, if_neg h1, Int32.sub_eq_add_neg]
        have hgo : f_X15_goes_57 (f_X15_goes_11 fu) (ad b 72) (ad b cs) (ad b cl) n (Int32.ofNat i) (if st i = 1 then 0 else 1) free (lay b F E I L P nx us) = f_X15_goes_11 fu (ad b 72) (ad b cs) (ad b cl) (if st i = 1 then free else free + (-1)) (n + (if s2 = 3 then 1 else 0)) (Int32.ofNat (i + 1)) (lay b F E (u2 (u2 I cl (upd lf i l2)) cs (upd st i s2)) L P nx us) := by
          by_cases hc : lf i - 1 ≤ 0
          · rw [if_pos hc] at hnew
            obtain ⟨y1, y2⟩ := hnew
            have hs1 : ∀ x, u2 (u2 (u2 I cl (upd lf i (lf i - 1))) cs (upd st i (st i + 1))) cl (upd (upd lf i (lf i - 1)) i x) = u2 (u2 I cl (upd lf i x)) cs (upd st i (st i + 1)) := by
              intro x
              rw [u2_cm d0', u2_cm (f := upd lf i x) d0', u2_u2]
              have : upd (upd lf i (lf i - 1)) i x = upd lf i x := by funext j; unfold upd; split <;> rfl
              rw [this]
            by_cases c1 : st i + 1 = 1
            · rw [← y1] at c1 hs1
              rw [if_pos c1] at y2
              rw [c1] at hs1
              simp (decide := true) only [f_X15_goes_57, f_X15_goes_119, f_X15_goes_135, f_X15_goes_138, e3, t1, t2, t3, t4, r1, r2, d0, d0', d1, d2, hfm, hc, c1, y1.symm, hs1, y2, oN_succ, isO_s, gI_s, gA_s, gL_s, pI_s, pZ_s, pL_s, aI_s, aL_s, aN_s, aQ_s, sI_s, sL_s, cr, LNs, Option.map_some, Option.map_none, Option.bind_some, b2, tr, lt, if_true, if_false, ckZ, X_within, M_in, inR_z, X_refuse, X_tell, X_deny, X_grant, M_refused, M_denied, M_done, M_granted, u2_same, u2_ne, u2_u2, upd_same, upd_ne, aW0, ixR_z, ixR_1, M_isWall, M_isPainter, M_isWork, X_has4, X_has10, X_at, or_false, false_or, or_true, true_or, not_true, not_false_iff, Option.isSome_some, isO_d, gI_d, gA_d, pI_d, ne_eq, not_false_eq_true, u2_hi, u2_hj, u2_dyn, u2_dynj, Nat.reduceAdd]
            · rw [← y1] at c1 hs1
              rw [if_neg c1] at y2
              by_cases c2 : s2 = 2
              · rw [if_pos c2] at y2
                rw [c2] at hs1
                simp (decide := true) only [f_X15_goes_57, f_X15_goes_119, f_X15_goes_135, f_X15_goes_138, e3, t1, t2, t3, t4, r1, r2, r3, d0, d0', d1, d2, d3, d4, hfm, hc, c1, c2, y1.symm, hs1, y2, oN_succ, isO_s, gI_s, gA_s, gL_s, pI_s, pZ_s, pL_s, aI_s, aL_s, aN_s, aQ_s, sI_s, sL_s, cr, LNs, Option.map_some, Option.map_none, Option.bind_some, b2, tr, lt, if_true, if_false, ckZ, X_within, M_in, inR_z, X_refuse, X_tell, X_deny, X_grant, M_refused, M_denied, M_done, M_granted, u2_same, u2_ne, u2_u2, upd_same, upd_ne, aW0, ixR_z, ixR_1, M_isWall, M_isPainter, M_isWork, X_has4, X_has10, X_at, or_false, false_or, or_true, true_or, not_true, not_false_iff, Option.isSome_some, isO_d, gI_d, gA_d, pI_d, ne_eq, not_false_eq_true, u2_hi, u2_hj, u2_dyn, u2_dynj, Nat.reduceAdd]
              · rw [if_neg c2] at y2
                by_cases c3 : s2 = 3
                · rw [c3] at hs1
                  simp (decide := true) only [f_X15_goes_57, f_X15_goes_119, f_X15_goes_135, f_X15_goes_138, e3, t1, t2, t3, t4, r1, r2, r3, d0, d0', d1, d2, d3, d4, hfm, hc, c1, c2, c3, y1.symm, hs1, y2, oN_succ, isO_s, gI_s, gA_s, gL_s, pI_s, pZ_s, pL_s, aI_s, aL_s, aN_s, aQ_s, sI_s, sL_s, cr, LNs, Option.map_some, Option.map_none, Option.bind_some, b2, tr, lt, if_true, if_false, ckZ, X_within, M_in, inR_z, X_refuse, X_tell, X_deny, X_grant, M_refused, M_denied, M_done, M_granted, u2_same, u2_ne, u2_u2, upd_same, upd_ne, aW0, ixR_z, ixR_1, M_isWall, M_isPainter, M_isWork, X_has4, X_has10, X_at, or_false, false_or, or_true, true_or, not_true, not_false_iff, Option.isSome_some, isO_d, gI_d, gA_d, pI_d, ne_eq, not_false_eq_true, u2_hi, u2_hj, u2_dyn, u2_dynj, Nat.reduceAdd]
                · simp (decide := true) only [f_X15_goes_57, f_X15_goes_119, f_X15_goes_135, f_X15_goes_138, e3, t1, t2, t3, t4, r1, r2, r3, d0, d0', d1, d2, d3, d4, hfm, hc, c1, c2, c3, y1.symm, hs1, y2, oN_succ, isO_s, gI_s, gA_s, gL_s, pI_s, pZ_s, pL_s, aI_s, aL_s, aN_s, aQ_s, sI_s, sL_s, cr, LNs, Option.map_some, Option.map_none, Option.bind_some, b2, tr, lt, if_true, if_false, ckZ, X_within, M_in, inR_z, X_refuse, X_tell, X_deny, X_grant, M_refused, M_denied, M_done, M_granted, u2_same, u2_ne, u2_u2, upd_same, upd_ne, aW0, ixR_z, ixR_1, M_isWall, M_isPainter, M_isWork, X_has4, X_has10, X_at, or_false, false_or, or_true, true_or, not_true, not_false_iff, Option.isSome_some, isO_d, gI_d, gA_d, pI_d, ne_eq, not_false_eq_true, u2_hi, u2_hj, u2_dyn, u2_dynj, Nat.reduceAdd]
          · rw [if_neg hc] at hnew
            obtain ⟨y1, y2⟩ := hnew
            have hs3 : ¬ s2 = 3 := by rw [y1]; exact h3
            have hs0 : u2 (u2 I cl (upd lf i l2)) cs (upd st i s2) = u2 I cl (upd lf i (lf i - 1)) := by
              rw [upd_id y1.symm, y2]
              exact u2_id' (by rw [u2_ne d0]; exact r1)
            rw [hs0, if_neg hs3]
            simp (decide := true) only [f_X15_goes_57, f_X15_goes_138, e3, t3, t4, r2, hfm, hc, oN_succ, Int32.add_zero, isO_s, gI_s, gA_s, gL_s, pI_s, pZ_s, pL_s, aI_s, aL_s, aN_s, aQ_s, sI_s, sL_s, cr, LNs, Option.map_some, Option.map_none, Option.bind_some, b2, tr, lt, if_true, if_false, ckZ, X_within, M_in, inR_z, X_refuse, X_tell, X_deny, X_grant, M_refused, M_denied, M_done, M_granted, u2_same, u2_ne, u2_u2, upd_same, upd_ne, aW0, ixR_z, ixR_1, M_isWall, M_isPainter, M_isWork, X_has4, X_has10, X_at, or_false, false_or, or_true, true_or, not_true, not_false_iff, Option.isSome_some, isO_d, gI_d, gA_d, pI_d, ne_eq, not_false_eq_true, u2_hi, u2_hj, u2_dyn, u2_dynj, Nat.reduceAdd]
        rw [← ih2, ← hgo]
        by_cases h1 : st i = 1
        · simp (decide := true) only [f_X15_goes_11, f_X15_goes_43, r4, e2, e3, t1, t2, r1, h1, isO_s, gI_s, gA_s, gL_s, pI_s, pZ_s, pL_s, aI_s, aL_s, aN_s, aQ_s, sI_s, sL_s, cr, LNs, Option.map_some, Option.map_none, Option.bind_some, b2, tr, lt, if_true, if_false, ckZ, X_within, M_in, inR_z, X_refuse, X_tell, X_deny, X_grant, M_refused, M_denied, M_done, M_granted, u2_same, u2_ne, u2_u2, upd_same, upd_ne, aW0, ixR_z, ixR_1, M_isWall, M_isPainter, M_isWork, X_has4, X_has10, X_at, or_false, false_or, or_true, true_or, not_true, not_false_iff, Option.isSome_some, isO_d, gI_d, gA_d, pI_d, ne_eq, not_false_eq_true, u2_hi, u2_hj, u2_dyn, u2_dynj, Nat.reduceAdd]
        · have := hfr h1
          simp (decide := true) only [f_X15_goes_11, f_X15_goes_43, r4, e2, e3, t1, t2, r1, h1, h3, this, isO_s, gI_s, gA_s, gL_s, pI_s, pZ_s, pL_s, aI_s, aL_s, aN_s, aQ_s, sI_s, sL_s, cr, LNs, Option.map_some, Option.map_none, Option.bind_some, b2, tr, lt, if_true, if_false, ckZ, X_within, M_in, inR_z, X_refuse, X_tell, X_deny, X_grant, M_refused, M_denied, M_done, M_granted, u2_same, u2_ne, u2_u2, upd_same, upd_ne, aW0, ixR_z, ixR_1, M_isWall, M_isPainter, M_isWork, X_has4, X_has10, X_at, or_false, false_or, or_true, true_or, not_true, not_false_iff, Option.isSome_some, isO_d, gI_d, gA_d, pI_d, ne_eq, not_false_eq_true, u2_hi, u2_hj, u2_dyn, u2_dynj, Nat.reduceAdd]
      · intro k hk
        obtain ⟨z1, z2⟩ := ih3 k hk
        refine ⟨z1, fun h => ?_⟩
        have hz : k ≠ i := by rintro rfl; exact h3 h
        rw [upd_ne hz, upd_ne hz] at z2
        exact z2 h
      · intro k hk
        have := ih4 k (by omega)
        rw [upd_ne (show k ≠ i by omega), upd_ne (show k ≠ i by omega), upd_ne (show k ≠ i by omega)] at this
        exact this
end DAY
