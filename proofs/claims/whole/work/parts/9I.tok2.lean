/-! ===== tokens: the reference's next ===== -/
theorem gB_cases {x : Int32} : gB x = true ↔ (x = 91 ∨ x = 93 ∨ x = 40 ∨ x = 41 ∨ x = 59 ∨ x = 60 ∨ x = 62 ∨ x = 61 ∨ x = 43 ∨ x = 45 ∨ x = 42 ∨ x = 47 ∨ x = 44 ∨ x = 37) := by
  unfold gB zt
  simp only [List.any_cons, List.any_nil, Bool.or_false, Bool.or_eq_true, decide_eq_true_eq]
  rfl
section TOK2
variable {b : Nat} {F : Nat → Option AE} {D E : Nat → Option KD} {I : Nat → Nat → Int32} {L : Nat → Nat → Int64} {P : Nat → Nat → Option Nat} {nx us : Nat}
theorem M_num {n : Nat} {t : RW} (hn : n ≤ 400) (hB : BY t n) : ∀ (m k c : Nat), k + m = n → ∀ (fu : Nat) (I : Nat → Nat → Int32), m < fu → c + m ≤ 400 → I 72 26 = Int32.ofNat n → I 91 = t → I 72 27 = Int32.ofNat k → f_X15_next_187 fu (ad b 72) (Int32.ofNat c) (lay b F E I L P nx us) = (f_X15_next_286 (lay b F E (u2 I 72 (if 4 ≤ c + (rnE dB t m k - k) then upd (upd (I 72) 27 (Int32.ofNat (rnE dB t m k))) 31 (nvM t m k c (I 72 31)) else upd (upd (upd (I 72) 27 (Int32.ofNat (rnE dB t m k))) 31 (nvM t m k c (I 72 31))) 28 3)) L P nx us)) := by
  intro m
  have hend : ∀ (k c fu : Nat) (I : Nat → Nat → Int32), c ≤ 400 → k ≤ 400 → I 72 27 = Int32.ofNat k → (∃ x, f_X15_byteAt (ad b 72) (Int32.ofNat k) (lay b F E I L P nx us) = some (x, (lay b F E I L P nx us)) ∧ inR x 48 57 = 0) → f_X15_next_187 (fu + 1) (ad b 72) (Int32.ofNat c) (lay b F E I L P nx us) = (f_X15_next_286 (lay b F E (u2 I 72 (if 4 ≤ c then upd (upd (I 72) 27 (Int32.ofNat k)) 31 (I 72 31) else upd (upd (upd (I 72) 27 (Int32.ofNat k)) 31 (I 72 31)) 28 3)) L P nx us)) := by
    intro k c fu I hc hk h27 hx
    obtain ⟨x, hx1, hx2⟩ := hx
    have e27 : upd (upd (I 72) 27 (Int32.ofNat k)) 31 (I 72 31) = I 72 := by
      funext j
      unfold upd
      split
      · rename_i h; subst h; rfl
      · split
        · rename_i h; subst h; exact h27.symm
        · rfl
    rw [e27]
    by_cases h8 : 4 ≤ c
    · have q : ((4 : Int32) ≤ Int32.ofNat c) = True := eq_true ((oN_le (a := 4) (by omega) (by omega)).mpr h8)
      rw [if_pos h8, u2_idr]
      simp (decide := true) only [f_X15_next_187, h27, hx1, M_digit, hx2, q, isO_s, gI_s, gA_s, gL_s, pI_s, pZ_s, pL_s, aI_s, aL_s, aN_s, aQ_s, sI_s, sL_s, cr, LNs, Option.map_some, Option.map_none, Option.bind_some, b2, tr, lt, if_true, if_false, ckZ, X_within, M_in, X_refuse, X_tell, X_deny, X_grant, M_refused, M_denied, M_done, M_granted, u2_same, u2_ne, u2_u2, upd_same, upd_ne, aW0, ixR_z, ixR_1, M_isWall, M_isPainter, M_isWork, X_has4, X_has10, X_at, or_false, false_or, or_true, true_or, not_true, not_false_iff, Option.isSome_some, isO_d, gI_d, gA_d, pI_d, ne_eq, not_false_eq_true, u2_hi, u2_hj, u2_dyn, u2_dynj, Nat.reduceAdd, mX_r, mX_rD, mX_rDj, mM_r, mX_u, mX_uM, mX_uD, mX_uDj, mM_u, mM_uX, mM_uD, mM_uDj, u2_dd, u2_d0, u2_0d]
    · have q : ((4 : Int32) ≤ Int32.ofNat c) = False := eq_false (fun z => h8 ((oN_le (a := 4) (by omega) (by omega)).mp z))
      rw [if_neg h8]
      simp (decide := true) only [f_X15_next_187, h27, hx1, M_digit, hx2, q, isO_s, gI_s, gA_s, gL_s, pI_s, pZ_s, pL_s, aI_s, aL_s, aN_s, aQ_s, sI_s, sL_s, cr, LNs, Option.map_some, Option.map_none, Option.bind_some, b2, tr, lt, if_true, if_false, ckZ, X_within, M_in, X_refuse, X_tell, X_deny, X_grant, M_refused, M_denied, M_done, M_granted, u2_same, u2_ne, u2_u2, upd_same, upd_ne, aW0, ixR_z, ixR_1, M_isWall, M_isPainter, M_isWork, X_has4, X_has10, X_at, or_false, false_or, or_true, true_or, not_true, not_false_iff, Option.isSome_some, isO_d, gI_d, gA_d, pI_d, ne_eq, not_false_eq_true, u2_hi, u2_hj, u2_dyn, u2_dynj, Nat.reduceAdd, mX_r, mX_rD, mX_rDj, mM_r, mX_u, mX_uM, mX_uD, mX_uDj, mM_u, mM_uX, mM_uD, mM_uDj, u2_dd, u2_d0, u2_0d]
  induction m with
  | zero =>
    intro k c hk fu I hf hc h26 ht h27
    obtain ⟨fu, rfl⟩ : ∃ f, fu = f + 1 := ⟨fu - 1, by omega⟩
    have h1 := hend k c fu I (by omega) (by omega) h27 ⟨-1, M_byteE hn (by omega) (by omega) h26, by decide⟩
    have e : rnE dB t 0 k - k = 0 := by show k - k = 0; omega
    rw [e]
    exact h1
  | succ m ih =>
    intro k c hk fu I hf hc h26 ht h27
    obtain ⟨fu, rfl⟩ : ∃ f, fu = f + 1 := ⟨fu - 1, by omega⟩
    have hb := M_byteT (b := b) (F := F) (E := E) (I := I) (L := L) (P := P) (nx := nx) (us := us) hn (show k < n by omega) h26
    rw [ht] at hb
    obtain ⟨x1, x2⟩ := hB k (by omega)
    obtain ⟨b1, b2', b3, b4, b5, b6, b7, b8, b9⟩ := by_x x1 x2
    by_cases hl : dB (t k) = true
    · have hge := (rnE_ge (q := dB) (t := t) m (k + 1)).1
      have eR : rnE dB t (m + 1) k = rnE dB t m (k + 1) := by show (if dB (t k) = true then _ else _) = _; rw [if_pos hl]
      have eV : ∀ x, nvM t (m + 1) k c x = nvM t m (k + 1) (c + 1) (if 3 ≤ c then x else 10 * x + t k - 48) := by intro x; show (if dB (t k) = true then _ else _) = _; rw [if_pos hl]
      have hl1 := dB_t hl
      rw [b7 hl1] at hb
      have e10 : ((1 : Int32) = 0) = False := by decide
      rw [eR, eV, show c + (rnE dB t m (k + 1) - k) = c + 1 + (rnE dB t m (k + 1) - (k + 1)) by omega]
      have e5 : ∀ (f : RW) (x y : Int32), upd (upd f 27 x) 31 y = upd (upd f 31 y) 27 x := by
        intro f x y
        funext j
        unfold upd
        by_cases j1 : j = 27
        · subst j1; simp (decide := true) only [if_true, if_false]
        · simp only [j1, if_false]
      by_cases h8 : 3 ≤ c
      · have q : ((3 : Int32) ≤ Int32.ofNat c) = True := eq_true ((oN_le (a := 3) (by omega) (by omega)).mpr h8)
        have ih' := ih (k + 1) (c + 1) (by omega) fu (u2 I 72 (upd (I 72) 27 (Int32.ofNat (k + 1)))) (by omega) (by omega) (by simp (decide := true) only [u2_same, u2_ne, u2_u2, upd_same, upd_ne, mE, u2_dyn, dyn_u2, dyn_hi, u2_hi, u2_hj, u2_dynj, u2_dd, u2_d0, u2_0d]; exact h26) (by simp (decide := true) only [u2_same, u2_ne, u2_u2, upd_same, upd_ne, mE, u2_dyn, dyn_u2, dyn_hi, u2_hi, u2_hj, u2_dynj, u2_dd, u2_d0, u2_0d]; exact ht) (by simp (decide := true) only [u2_same, u2_ne, u2_u2, upd_same, upd_ne, mE, u2_dyn, dyn_u2, dyn_hi, u2_hi, u2_hj, u2_dynj, u2_dd, u2_d0, u2_0d])
        rw [if_pos h8]
        simp (decide := true) only [f_X15_next_187, f_X15_next_229, h27, hb, M_digit, hl1, e10, q, oN_succ, isO_s, gI_s, gA_s, gL_s, pI_s, pZ_s, pL_s, aI_s, aL_s, aN_s, aQ_s, sI_s, sL_s, cr, LNs, Option.map_some, Option.map_none, Option.bind_some, b2, tr, lt, if_true, if_false, ckZ, X_within, M_in, X_refuse, X_tell, X_deny, X_grant, M_refused, M_denied, M_done, M_granted, u2_same, u2_ne, u2_u2, upd_same, upd_ne, aW0, ixR_z, ixR_1, M_isWall, M_isPainter, M_isWork, X_has4, X_has10, X_at, or_false, false_or, or_true, true_or, not_true, not_false_iff, Option.isSome_some, isO_d, gI_d, gA_d, pI_d, ne_eq, not_false_eq_true, u2_hi, u2_hj, u2_dyn, u2_dynj, Nat.reduceAdd, mX_r, mX_rD, mX_rDj, mM_r, mX_u, mX_uM, mX_uD, mX_uDj, mM_u, mM_uX, mM_uD, mM_uDj, u2_dd, u2_d0, u2_0d]
        refine ih'.trans ?_
        simp (decide := true) only [upd_upd, u2_same, u2_ne, u2_u2, upd_same, upd_ne, mE, u2_dyn, dyn_u2, dyn_hi, u2_hi, u2_hj, u2_dynj, u2_dd, u2_d0, u2_0d]
      · have q : ((3 : Int32) ≤ Int32.ofNat c) = False := eq_false (fun z => h8 ((oN_le (a := 3) (by omega) (by omega)).mp z))
        have ih' := ih (k + 1) (c + 1) (by omega) fu (u2 I 72 (upd (upd (I 72) 31 (10 * I 72 31 + t k - 48)) 27 (Int32.ofNat (k + 1)))) (by omega) (by omega) (by simp (decide := true) only [u2_same, u2_ne, u2_u2, upd_same, upd_ne, mE, u2_dyn, dyn_u2, dyn_hi, u2_hi, u2_hj, u2_dynj, u2_dd, u2_d0, u2_0d]; exact h26) (by simp (decide := true) only [u2_same, u2_ne, u2_u2, upd_same, upd_ne, mE, u2_dyn, dyn_u2, dyn_hi, u2_hi, u2_hj, u2_dynj, u2_dd, u2_d0, u2_0d]; exact ht) (by simp (decide := true) only [u2_same, u2_ne, u2_u2, upd_same, upd_ne, mE, u2_dyn, dyn_u2, dyn_hi, u2_hi, u2_hj, u2_dynj, u2_dd, u2_d0, u2_0d])
        rw [if_neg h8]
        have hb2 := M_byteT (b := b) (F := F) (E := E) (I := u2 I 72 (upd (I 72) 31 (10 * I 72 31 + t k - 48))) (L := L) (P := P) (nx := nx) (us := us) hn (show k < n by omega) (by simp (decide := true) only [u2_same, u2_ne, u2_u2, upd_same, upd_ne, mE, u2_dyn, dyn_u2, dyn_hi, u2_hi, u2_hj, u2_dynj, u2_dd, u2_d0, u2_0d]; exact h26)
        simp (decide := true) only [f_X15_next_187, f_X15_next_229, h27, hb, M_digit, hl1, e10, q, oN_succ, isO_s, gI_s, gA_s, gL_s, pI_s, pZ_s, pL_s, aI_s, aL_s, aN_s, aQ_s, sI_s, sL_s, cr, LNs, Option.map_some, Option.map_none, Option.bind_some, b2, tr, lt, if_true, if_false, ckZ, X_within, M_in, X_refuse, X_tell, X_deny, X_grant, M_refused, M_denied, M_done, M_granted, u2_same, u2_ne, u2_u2, upd_same, upd_ne, aW0, ixR_z, ixR_1, M_isWall, M_isPainter, M_isWork, X_has4, X_has10, X_at, or_false, false_or, or_true, true_or, not_true, not_false_iff, Option.isSome_some, isO_d, gI_d, gA_d, pI_d, ne_eq, not_false_eq_true, u2_hi, u2_hj, u2_dyn, u2_dynj, Nat.reduceAdd, mX_r, mX_rD, mX_rDj, mM_r, mX_u, mX_uM, mX_uD, mX_uDj, mM_u, mM_uX, mM_uD, mM_uDj, u2_dd, u2_d0, u2_0d]
        refine ih'.trans ?_
        simp (decide := true) only [upd_upd, e5, u2_same, u2_ne, u2_u2, upd_same, upd_ne, mE, u2_dyn, dyn_u2, dyn_hi, u2_hi, u2_hj, u2_dynj, u2_dd, u2_d0, u2_0d]
    · have h1 := hend k c fu I (by omega) (by omega) h27 ⟨_, hb, by rw [b5]; exact dB_f hl⟩
      have eR : rnE dB t (m + 1) k = k := by show (if dB (t k) = true then _ else _) = _; rw [if_neg hl]
      have eV : ∀ x, nvM t (m + 1) k c x = x := by intro x; show (if dB (t k) = true then _ else _) = _; rw [if_neg hl]
      rw [eR, eV, show c + (k - k) = c by omega]
      exact h1
theorem M_markT {x rg : Int32} (h36 : I 72 36 = rg) (hg : gB x = true) (hr : ¬ (rg = 0 ∧ (x = 44 ∨ x = 37))) : f_X15_isMark (ad b 72) x (lay b F E I L P nx us) = some (1, (lay b F E I L P nx us)) := by
  rw [gB_cases] at hg
  rcases hg with rfl | rfl | rfl | rfl | rfl | rfl | rfl | rfl | rfl | rfl | rfl | rfl | rfl | rfl
  all_goals first | (simp (decide := true) only [f_X15_isMark_106, f_X15_isMark_105, f_X15_isMark_101, f_X15_isMark_77, f_X15_isMark_72, f_X15_isMark, isO_s, gI_s, gA_s, gL_s, pI_s, pZ_s, pL_s, aI_s, aL_s, aN_s, aQ_s, sI_s, sL_s, cr, LNs, Option.map_some, Option.map_none, Option.bind_some, b2, tr, lt, if_true, if_false, ckZ, X_within, M_in, inR_z, X_refuse, X_tell, X_deny, X_grant, M_refused, M_denied, M_done, M_granted, u2_same, u2_ne, u2_u2, upd_same, upd_ne, aW0, ixR_z, ixR_1, M_isWall, M_isPainter, M_isWork, X_has4, X_has10, X_at, or_false, false_or, or_true, true_or, not_true, not_false_iff, Option.isSome_some, isO_d, gI_d, gA_d, pI_d, ne_eq, not_false_eq_true, u2_hi, u2_hj, u2_dyn, u2_dynj, Nat.reduceAdd, mX_r, mX_rD, mX_rDj, mM_r, mX_u, mX_uM, mX_uD, mX_uDj, mM_u, mM_uX, mM_uD, mM_uDj, u2_dd, u2_d0, u2_0d]; try exact rfl) | skip
  all_goals
    have hr0 : ¬ rg = 0 := fun q => hr ⟨q, by decide⟩
    (simp (decide := true) only [f_X15_isMark_106, f_X15_isMark_105, f_X15_isMark_101, f_X15_isMark_77, f_X15_isMark_72, f_X15_isMark, h36, hr0, isO_s, gI_s, gA_s, gL_s, pI_s, pZ_s, pL_s, aI_s, aL_s, aN_s, aQ_s, sI_s, sL_s, cr, LNs, Option.map_some, Option.map_none, Option.bind_some, b2, tr, lt, if_true, if_false, ckZ, X_within, M_in, inR_z, X_refuse, X_tell, X_deny, X_grant, M_refused, M_denied, M_done, M_granted, u2_same, u2_ne, u2_u2, upd_same, upd_ne, aW0, ixR_z, ixR_1, M_isWall, M_isPainter, M_isWork, X_has4, X_has10, X_at, or_false, false_or, or_true, true_or, not_true, not_false_iff, Option.isSome_some, isO_d, gI_d, gA_d, pI_d, ne_eq, not_false_eq_true, u2_hi, u2_hj, u2_dyn, u2_dynj, Nat.reduceAdd, mX_r, mX_rD, mX_rDj, mM_r, mX_u, mX_uM, mX_uD, mX_uDj, mM_u, mM_uX, mM_uD, mM_uDj, u2_dd, u2_d0, u2_0d]; try exact rfl)
theorem M_markF {x rg : Int32} (h36 : I 72 36 = rg) (hg : gB x = false ∨ (rg = 0 ∧ (x = 44 ∨ x = 37))) : f_X15_isMark (ad b 72) x (lay b F E I L P nx us) = some (0, (lay b F E I L P nx us)) := by
  rcases hg with hg | ⟨hr, rfl | rfl⟩
  · have hn : ¬ (x = 91 ∨ x = 93 ∨ x = 40 ∨ x = 41 ∨ x = 59 ∨ x = 60 ∨ x = 62 ∨ x = 61 ∨ x = 43 ∨ x = 45 ∨ x = 42 ∨ x = 47 ∨ x = 44 ∨ x = 37) := fun q => by rw [← gB_cases, hg] at q; cases q
    simp only [not_or] at hn
    obtain ⟨h1, h2, h3, h4, h5, h6, h7, h8, h9, ha, hb, hc, hd, he⟩ := hn
    by_cases hr : rg = 0
    · (simp (decide := true) only [f_X15_isMark_106, f_X15_isMark_105, f_X15_isMark_101, f_X15_isMark_77, f_X15_isMark_72, f_X15_isMark, h36, hr, h1, h2, h3, h4, h5, h6, h7, h8, h9, ha, hb, hc, hd, he, isO_s, gI_s, gA_s, gL_s, pI_s, pZ_s, pL_s, aI_s, aL_s, aN_s, aQ_s, sI_s, sL_s, cr, LNs, Option.map_some, Option.map_none, Option.bind_some, b2, tr, lt, if_true, if_false, ckZ, X_within, M_in, inR_z, X_refuse, X_tell, X_deny, X_grant, M_refused, M_denied, M_done, M_granted, u2_same, u2_ne, u2_u2, upd_same, upd_ne, aW0, ixR_z, ixR_1, M_isWall, M_isPainter, M_isWork, X_has4, X_has10, X_at, or_false, false_or, or_true, true_or, not_true, not_false_iff, Option.isSome_some, isO_d, gI_d, gA_d, pI_d, ne_eq, not_false_eq_true, u2_hi, u2_hj, u2_dyn, u2_dynj, Nat.reduceAdd, mX_r, mX_rD, mX_rDj, mM_r, mX_u, mX_uM, mX_uD, mX_uDj, mM_u, mM_uX, mM_uD, mM_uDj, u2_dd, u2_d0, u2_0d]; try exact rfl)
    · (simp (decide := true) only [f_X15_isMark_106, f_X15_isMark_105, f_X15_isMark_101, f_X15_isMark_77, f_X15_isMark_72, f_X15_isMark, h36, hr, h1, h2, h3, h4, h5, h6, h7, h8, h9, ha, hb, hc, hd, he, isO_s, gI_s, gA_s, gL_s, pI_s, pZ_s, pL_s, aI_s, aL_s, aN_s, aQ_s, sI_s, sL_s, cr, LNs, Option.map_some, Option.map_none, Option.bind_some, b2, tr, lt, if_true, if_false, ckZ, X_within, M_in, inR_z, X_refuse, X_tell, X_deny, X_grant, M_refused, M_denied, M_done, M_granted, u2_same, u2_ne, u2_u2, upd_same, upd_ne, aW0, ixR_z, ixR_1, M_isWall, M_isPainter, M_isWork, X_has4, X_has10, X_at, or_false, false_or, or_true, true_or, not_true, not_false_iff, Option.isSome_some, isO_d, gI_d, gA_d, pI_d, ne_eq, not_false_eq_true, u2_hi, u2_hj, u2_dyn, u2_dynj, Nat.reduceAdd, mX_r, mX_rD, mX_rDj, mM_r, mX_u, mX_uM, mX_uD, mX_uDj, mM_u, mM_uX, mM_uD, mM_uDj, u2_dd, u2_d0, u2_0d]; try exact rfl)
  · (simp (decide := true) only [f_X15_isMark_106, f_X15_isMark_105, f_X15_isMark_101, f_X15_isMark_77, f_X15_isMark_72, f_X15_isMark, h36, hr, isO_s, gI_s, gA_s, gL_s, pI_s, pZ_s, pL_s, aI_s, aL_s, aN_s, aQ_s, sI_s, sL_s, cr, LNs, Option.map_some, Option.map_none, Option.bind_some, b2, tr, lt, if_true, if_false, ckZ, X_within, M_in, inR_z, X_refuse, X_tell, X_deny, X_grant, M_refused, M_denied, M_done, M_granted, u2_same, u2_ne, u2_u2, upd_same, upd_ne, aW0, ixR_z, ixR_1, M_isWall, M_isPainter, M_isWork, X_has4, X_has10, X_at, or_false, false_or, or_true, true_or, not_true, not_false_iff, Option.isSome_some, isO_d, gI_d, gA_d, pI_d, ne_eq, not_false_eq_true, u2_hi, u2_hj, u2_dyn, u2_dynj, Nat.reduceAdd, mX_r, mX_rD, mX_rDj, mM_r, mX_u, mX_uM, mX_uD, mX_uDj, mM_u, mM_uX, mM_uD, mM_uDj, u2_dd, u2_d0, u2_0d]; try exact rfl)
  · (simp (decide := true) only [f_X15_isMark_106, f_X15_isMark_105, f_X15_isMark_101, f_X15_isMark_77, f_X15_isMark_72, f_X15_isMark, h36, hr, isO_s, gI_s, gA_s, gL_s, pI_s, pZ_s, pL_s, aI_s, aL_s, aN_s, aQ_s, sI_s, sL_s, cr, LNs, Option.map_some, Option.map_none, Option.bind_some, b2, tr, lt, if_true, if_false, ckZ, X_within, M_in, inR_z, X_refuse, X_tell, X_deny, X_grant, M_refused, M_denied, M_done, M_granted, u2_same, u2_ne, u2_u2, upd_same, upd_ne, aW0, ixR_z, ixR_1, M_isWall, M_isPainter, M_isWork, X_has4, X_has10, X_at, or_false, false_or, or_true, true_or, not_true, not_false_iff, Option.isSome_some, isO_d, gI_d, gA_d, pI_d, ne_eq, not_false_eq_true, u2_hi, u2_hj, u2_dyn, u2_dynj, Nat.reduceAdd, mX_r, mX_rD, mX_rDj, mM_r, mX_u, mX_uM, mX_uD, mX_uDj, mM_u, mM_uX, mM_uD, mM_uDj, u2_dd, u2_d0, u2_0d]; try exact rfl)
end TOK2
