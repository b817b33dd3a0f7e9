/-! ===== painting: the class reckons sums ===== -/
theorem hP_id {cv n : Nat} {I : Nat → Nat → Int32} (h : I cv 12 = Int32.ofNat n) : hP cv I (I (cv + 4)) n = I := by
  unfold hP
  rw [u2_id, upd_id h, u2_id]
section ITM
variable {b : Nat} {F : Nat → Option AE} {D E : Nat → Option KD} {I : Nat → Nat → Int32} {L : Nat → Nat → Int64} {P : Nat → Nat → Option Nat} {nx us : Nat}
theorem act_0 {cv c dl wc o : Nat} {dd dv dt : RW} (hcv : CV cv) (hc : CDr E c dl wc dd dv dt I) (ho : o < dl) (hd : dd o = 0) : f_X0_act (ad b cv) (ad b c) (Int32.ofNat o) (lay b F E I L P nx us) = (f_X0_come (ad b cv) (lay b F E I L P nx us)).bind fun h18 => some (Int32.ofNat (o + 1), h18) := by
  rw [X_act hcv hc ho, hd]
  simp (decide := true) only [if_true, if_false]
theorem act_1 {cv c dl wc o : Nat} {dd dv dt : RW} (hcv : CV cv) (hc : CDr E c dl wc dd dv dt I) (ho : o < dl) (hd : dd o = 1) : f_X0_act (ad b cv) (ad b c) (Int32.ofNat o) (lay b F E I L P nx us) = (f_X0_hold (ad b cv) (dv o) (lay b F E I L P nx us)).bind fun h18 => some (Int32.ofNat (o + 1), h18) := by
  rw [X_act hcv hc ho, hd]
  simp (decide := true) only [if_true, if_false]
theorem act_2 {cv c dl wc o j : Nat} {dd dv dt : RW} (hcv : CV cv) (hc : CDr E c dl wc dd dv dt I) (ho : o < dl) (hd : dd o = 2) (hj : j < 5) (hv : dv o = Int32.ofNat j) : f_X0_act (ad b cv) (ad b c) (Int32.ofNat o) (lay b F E I L P nx us) = (f_X0_hold (ad b cv) (I (cv + 3) j) (lay b F E I L P nx us)).bind fun h18 => some (Int32.ofNat (o + 1), h18) := by
  have e1 : (Int32.ofNat j < 0) = False := oN_neg (by omega)
  have e2 : (5 ≤ Int32.ofNat j) = False := eq_false (fun q => by have := (oN_le (a := 5) (by omega) (by omega)).mp q; omega)
  have e3 : iN (Int32.ofNat j) 5 = some j := iN_oN hj (by omega)
  rw [X_act hcv hc ho, hd, hv]
  simp (decide := true) only [if_true, if_false, e1, e2, e3, Option.map_some, Option.bind_some]
theorem act_3 {cv c dl wc o : Nat} {dd dv dt : RW} (hcv : CV cv) (hc : CDr E c dl wc dd dv dt I) (ho : o < dl) (hd : dd o = 3) : f_X0_act (ad b cv) (ad b c) (Int32.ofNat o) (lay b F E I L P nx us) = (f_X0_hold (ad b cv) (I cv 1) (lay b F E I L P nx us)).bind fun h18 => some (Int32.ofNat (o + 1), h18) := by
  rw [X_act hcv hc ho, hd]
  simp (decide := true) only [if_true, if_false]
theorem act_4 {cv c dl wc o : Nat} {dd dv dt : RW} (hcv : CV cv) (hc : CDr E c dl wc dd dv dt I) (ho : o < dl) (hd : dd o = 4) : f_X0_act (ad b cv) (ad b c) (Int32.ofNat o) (lay b F E I L P nx us) = (f_X0_hold (ad b cv) (I cv 2) (lay b F E I L P nx us)).bind fun h18 => some (Int32.ofNat (o + 1), h18) := by
  rw [X_act hcv hc ho, hd]
  simp (decide := true) only [if_true, if_false]
theorem act_5 {cv c dl wc o : Nat} {dd dv dt : RW} (hcv : CV cv) (hc : CDr E c dl wc dd dv dt I) (ho : o < dl) (hd : dd o = 5) : f_X0_act (ad b cv) (ad b c) (Int32.ofNat o) (lay b F E I L P nx us) = (f_X0_reckon (ad b cv) (dv o) (lay b F E I L P nx us)).bind fun h18 => some (Int32.ofNat (o + 1), h18) := by
  rw [X_act hcv hc ho, hd]
  simp (decide := true) only [if_true, if_false]
theorem act_6 {cv c dl wc o : Nat} {dd dv dt : RW} (hcv : CV cv) (hc : CDr E c dl wc dd dv dt I) (ho : o < dl) (hd : dd o = 6) : f_X0_act (ad b cv) (ad b c) (Int32.ofNat o) (lay b F E I L P nx us) = (f_X0_rect (ad b cv) (dv o) (lay b F E I L P nx us)).bind fun h18 => some (Int32.ofNat (o + 1), h18) := by
  rw [X_act hcv hc ho, hd]
  simp (decide := true) only [if_true, if_false]
theorem act_7 {cv c dl wc o : Nat} {dd dv dt : RW} (hcv : CV cv) (hc : CDr E c dl wc dd dv dt I) (ho : o < dl) (hd : dd o = 7) : f_X0_act (ad b cv) (ad b c) (Int32.ofNat o) (lay b F E I L P nx us) = (f_X0_disc (ad b cv) (dv o) (lay b F E I L P nx us)).bind fun h18 => some (Int32.ofNat (o + 1), h18) := by
  rw [X_act hcv hc ho, hd]
  simp (decide := true) only [if_true, if_false]
theorem act_8 {cv c dl wc o : Nat} {dd dv dt : RW} (hcv : CV cv) (hc : CDr E c dl wc dd dv dt I) (ho : o < dl) (hd : dd o = 8) : f_X0_act (ad b cv) (ad b c) (Int32.ofNat o) (lay b F E I L P nx us) = (f_X0_say (ad b cv) (ad b c) (dv o) (dt o) (lay b F E I L P nx us)).bind fun h18 => some (Int32.ofNat (o + 1), h18) := by
  rw [X_act hcv hc ho, hd]
  simp (decide := true) only [if_true, if_false]
theorem act_9 {cv c dl wc o : Nat} {dd dv dt : RW} (hcv : CV cv) (hc : CDr E c dl wc dd dv dt I) (ho : o < dl) (hd : dd o = 9) : f_X0_act (ad b cv) (ad b c) (Int32.ofNat o) (lay b F E I L P nx us) = b2 (f_X0_beginEach (ad b cv) (ad b c) (Int32.ofNat o) (lay b F E I L P nx us)) fun x36 h37 => some (x36, h37) := by
  rw [X_act hcv hc ho, hd]
  simp (decide := true) only [if_true, if_false]
theorem act_10 {cv c dl wc o : Nat} {dd dv dt : RW} (hcv : CV cv) (hc : CDr E c dl wc dd dv dt I) (ho : o < dl) (hd : dd o = 10) : f_X0_act (ad b cv) (ad b c) (Int32.ofNat o) (lay b F E I L P nx us) = b2 (f_X0_goOn (ad b cv) (ad b c) (Int32.ofNat o) (lay b F E I L P nx us)) fun x36 h37 => some (x36, h37) := by
  rw [X_act hcv hc ho, hd]
  simp (decide := true) only [if_true, if_false]
theorem act_11 {cv c dl wc o : Nat} {dd dv dt : RW} (hcv : CV cv) (hc : CDr E c dl wc dd dv dt I) (ho : o < dl) (hd : dd o = 11) : f_X0_act (ad b cv) (ad b c) (Int32.ofNat o) (lay b F E I L P nx us) = b2 (f_X0_compare (ad b cv) (dv o) (lay b F E I L P nx us)) fun x40 h41 => if x40 = 0 then (gA 1 h41 (ad b c) 2).bind fun a42 => (aI 3 h41 a42 (Int32.ofNat o)).bind fun x43 => some (x43, h41) else some (Int32.ofNat o + 1, h41) := by
  rw [X_act hcv hc ho, hd]
  simp (decide := true) only [if_true, if_false]
theorem X_hld {cv k : Nat} {v : Int32} (hcv : CV cv) (hk : k < 32) (h : I cv 12 = Int32.ofNat k) : f_X0_hold (ad b cv) v (lay b F E I L P nx us) = some (lay b F E (hP cv I (upd (I (cv + 4)) k v) (k + 1)) L P nx us) := by
  have e0 : (Int32.ofNat 32 ≤ Int32.ofNat k) = False := oN_leF hk (by omega)
  have e2 : iN (Int32.ofNat k) 32 = some k := iN_oN hk (by omega)
  unfold hP
  rcases hcv with rfl | rfl
  · simp (decide := true) only [f_X0_hold_32, f_X0_hold, h, e0, e2, oN_succ, isO_s, gI_s, gA_s, gL_s, pI_s, pZ_s, pL_s, aI_s, aL_s, aN_s, aQ_s, sI_s, sL_s, cr, LNs, Option.map_some, Option.map_none, Option.bind_some, b2, tr, lt, if_true, if_false, ckZ, X_within, M_in, inR_z, X_refuse, X_tell, X_deny, X_grant, M_refused, M_denied, M_done, M_granted, u2_same, u2_ne, u2_u2, upd_same, upd_ne, aW0, ixR_z, ixR_1, M_isWall, M_isPainter, M_isWork, X_has4, X_has10, X_at, or_false, false_or, or_true, true_or, not_true, not_false_iff, Option.isSome_some, isO_d, gI_d, gA_d, pI_d, ne_eq, not_false_eq_true, u2_hi, u2_hj, u2_dyn, u2_dynj, Nat.reduceAdd, mX_r, mX_rD, mX_rDj, mM_r, mX_u, mX_uM, mX_uD, mX_uDj, mM_u, mM_uX, mM_uD, mM_uDj, u2_dd, u2_d0, u2_0d]
  · simp (decide := true) only [f_X0_hold_32, f_X0_hold, h, e0, e2, oN_succ, isO_s, gI_s, gA_s, gL_s, pI_s, pZ_s, pL_s, aI_s, aL_s, aN_s, aQ_s, sI_s, sL_s, cr, LNs, Option.map_some, Option.map_none, Option.bind_some, b2, tr, lt, if_true, if_false, ckZ, X_within, M_in, inR_z, X_refuse, X_tell, X_deny, X_grant, M_refused, M_denied, M_done, M_granted, u2_same, u2_ne, u2_u2, upd_same, upd_ne, aW0, ixR_z, ixR_1, M_isWall, M_isPainter, M_isWork, X_has4, X_has10, X_at, or_false, false_or, or_true, true_or, not_true, not_false_iff, Option.isSome_some, isO_d, gI_d, gA_d, pI_d, ne_eq, not_false_eq_true, u2_hi, u2_hj, u2_dyn, u2_dynj, Nat.reduceAdd, mX_r, mX_rD, mX_rDj, mM_r, mX_u, mX_uM, mX_uD, mX_uDj, mM_u, mM_uX, mM_uD, mM_uDj, u2_dd, u2_d0, u2_0d]
theorem X_reckon {cv m : Nat} {sg v : Int32} (hcv : CV cv) (hm : m + 2 ≤ 32) (h : I cv 12 = Int32.ofNat (m + 2)) (hs : ItOp sg) : f_X0_reckon (ad b cv) (itV sg v) (lay b F E I L P nx us) = some (lay b F E (hP cv I (upd (I (cv + 4)) m (opV sg (I (cv + 4) m) (I (cv + 4) (m + 1)))) (m + 1)) L P nx us) := by
  have e1 := X_rel (b := b) (F := F) (E := E) (I := I) (L := L) (P := P) (nx := nx) (us := us) (k := m + 1) hcv (by omega) h
  have e2 := X_rel (b := b) (F := F) (E := E) (I := u2 I cv (upd (I cv) 12 (Int32.ofNat (m + 1)))) (L := L) (P := P) (nx := nx) (us := us) (k := m) hcv (by omega) (by rw [u2_same, upd_same])
  rw [u2_same, u2_u2, upd_upd, u2_ne (show cv + 4 ≠ cv by omega)] at e2
  have e3 : ∀ z, f_X0_reckon_77 (ad b cv) z (lay b F E (u2 I cv (upd (I cv) 12 (Int32.ofNat m))) L P nx us) = some (lay b F E (hP cv I (upd (I (cv + 4)) m (mxI (-9999) (mnI 9999 z))) (m + 1)) L P nx us) := by
    intro z
    unfold f_X0_reckon_77
    rw [X_hld hcv (show m < 32 by omega) (by rw [u2_same, upd_same]), Option.bind_some]
    refine congrArg (fun z => some (lay b F E z L P nx us)) ?_
    funext q
    by_cases h1 : q = cv
    · subst h1
      rw [hP_cv, hP_cv, u2_same, upd_upd]
    · by_cases h2 : q = cv + 4
      · subst h2
        rw [hP_4, hP_4, u2_ne h1]
      · rw [hP_ne h1 h2, hP_ne h1 h2, u2_ne h1]
  unfold f_X0_reckon f_X0_reckon_75 opV itV
  rw [if_pos (isO_s (CV_k hcv)), e1, b2_p, e2, b2_p]
  rcases hs with rfl | rfl | rfl | rfl
  · simp (decide := true) only [if_true, if_false]
    exact e3 _
  · simp (decide := true) only [if_true, if_false]
    exact e3 _
  · simp (decide := true) only [if_true, if_false]
    exact e3 _
  · simp (decide := true) only [if_true, if_false]
    by_cases c0 : I (cv + 4) (m + 1) = 0
    · rw [if_pos c0, if_pos c0]
      exact e3 _
    · have hck : ckD (I (cv + 4) (m + 1)) = some (I (cv + 4) (m + 1)) := by unfold ckD; rw [if_neg c0]
      rw [if_neg c0, if_neg c0, hck, Option.bind_some]
      exact e3 _
theorem X_items {cv c dl wc W H k0 : Nat} {dd dv dt sg vv : RW} (hcv : CV cv) (hk0 : k0 ≤ 3) : ∀ (m i n n' o t : Nat) (I : Nat → Nat → Int32), CDr E c dl wc dd dv dt I → dOK sg vv m i n n' → n ≤ 15 → (∀ j, j < m → dd (o + j) = itD (sg (i + j)) ∧ dv (o + j) = itV (sg (i + j)) (vv (i + j))) → o + m ≤ dl → t + m ≤ 1000000 → I cv 1 = Int32.ofNat W → I cv 2 = Int32.ofNat H → I cv 5 = 0 → I cv 12 = Int32.ofNat (k0 + n) → pX b cv c t o (lay b F E I L P nx us) = pX b cv c (t + m) (o + m) (lay b F E (hP cv I (ev sg vv (I (cv + 3)) W H m i (I (cv + 4)) (k0 + n)) (k0 + n')) L P nx us) := by
  have hcr := CV_r hcv
  intro m
  induction m with
  | zero =>
    intro i n n' o t I hc hd hn hj ho ht h1 h2 h5 h12
    have hd : n = n' := hd
    subst hd
    unfold ev
    rw [hP_id h12]
    rfl
  | succ m ih =>
    intro i n n' o t I hc hd hn hj ho ht h1 h2 h5 h12
    have hj0 := hj 0 (by omega)
    rw [Nat.add_zero, Nat.add_zero] at hj0
    obtain ⟨d1, d2⟩ := hj0
    have next : ∀ (x : RW) (nn : Nat), nn ≤ 15 → dOK sg vv m (i + 1) nn n' → pX b cv c (t + 1) (o + 1) (lay b F E (hP cv I x (k0 + nn)) L P nx us) = pX b cv c (t + (m + 1)) (o + (m + 1)) (lay b F E (hP cv I (ev sg vv (I (cv + 3)) W H m (i + 1) x (k0 + nn)) (k0 + n')) L P nx us) := by
      intro x nn hnn hdd
      have hc' : CDr E c dl wc dd dv dt (hP cv I x (k0 + nn)) := hc.fr (fun q hq => hP_ne (by omega) (by omega))
      have := ih (i + 1) nn n' (o + 1) (t + 1) (hP cv I x (k0 + nn)) hc' hdd hnn (fun j hjm => by have := hj (j + 1) (by omega); rw [show o + 1 + j = o + (j + 1) by omega, show i + 1 + j = i + (j + 1) by omega]; exact this) (by omega) (by omega) (by rw [hP_cv, upd_ne (by decide)]; exact h1) (by rw [hP_cv, upd_ne (by decide)]; exact h2) (by rw [hP_cv, upd_ne (by decide)]; exact h5) (by rw [hP_cv, upd_same])
      rw [hP_4, hP_hP, hP_ne (show cv + 3 ≠ cv by omega) (show cv + 3 ≠ cv + 4 by omega), show t + 1 + m = t + (m + 1) by omega, show o + 1 + m = o + (m + 1) by omega] at this
      exact this
    unfold ev
    rcases hd with ⟨q1, q2, q3⟩ | ⟨q1, q2, q3⟩
    · rw [if_pos (ItOp_4 q1)]
      have hdd : dd o = 5 := by rw [d1]; unfold itD; exact if_pos q1
      have ha := act_5 (b := b) (F := F) (E := E) (I := I) (L := L) (P := P) (nx := nx) (us := us) hcv hc (by omega) hdd
      obtain ⟨z, hz⟩ : ∃ z, k0 + n = z + 2 := ⟨k0 + n - 2, by omega⟩
      rw [d2, X_reckon hcv (m := z) (by omega) (by rw [h12, hz]) q1, Option.bind_some] at ha
      rw [pX_step hcv hc (by omega) (by omega) h5 ha, hz, show z + 2 - 2 = z by omega, show z + 2 - 1 = z + 1 by omega]
      have := next (upd (I (cv + 4)) z (opV (sg i) (I (cv + 4) z) (I (cv + 4) (z + 1)))) (n - 1) (by omega) q3
      rw [show k0 + (n - 1) = z + 1 by omega] at this
      exact this
    · rw [if_neg (ItLf_4 q1)]
      have hact : f_X0_act (ad b cv) (ad b c) (Int32.ofNat o) (lay b F E I L P nx us) = some (Int32.ofNat (o + 1), lay b F E (hP cv I (upd (I (cv + 4)) (k0 + n) (lfV (sg i) (vv i) (I (cv + 3)) W H)) (k0 + n + 1)) L P nx us) := by
        have hh := fun v => X_hld (b := b) (F := F) (E := E) (I := I) (L := L) (P := P) (nx := nx) (us := us) (v := v) hcv (show k0 + n < 32 by omega) h12
        unfold lfV
        rcases q1 with ⟨q, j, hj', qv⟩ | ⟨q, j, hj', qv⟩ | q | q
        · rw [q] at d1 d2 ⊢
          rw [act_1 hcv hc (by omega) d1, hh, d2]
          rfl
        · rw [q] at d1 d2 ⊢
          have d2' : dv o = Int32.ofNat j := d2.trans qv
          rw [act_2 hcv hc (by omega) d1 hj' d2', hh, qv, if_neg (by decide), if_pos rfl, oN_nn (by omega)]
          rfl
        · rw [q] at d1 d2 ⊢
          rw [act_3 hcv hc (by omega) d1, hh, h1]
          rfl
        · rw [q] at d1 d2 ⊢
          rw [act_4 hcv hc (by omega) d1, hh, h2]
          rfl
      rw [pX_step hcv hc (by omega) (by omega) h5 hact]
      exact next _ (n + 1) (by omega) q3
/-- the class reckons the sums of a step -/
theorem X_sums {cv c dl wc W H s ib : Nat} {R : Nat → RW} {dd dv dt : RW} (hcv : CV cv) : ∀ (m k o o' t : Nat) (I : Nat → Nat → Int32), CDr E c dl wc dd dv dt I → SumsAt R dd dv ib s m k o o' → k + m ≤ 4 → o' ≤ dl → t + (o' - o) ≤ 1000000 → I cv 1 = Int32.ofNat W → I cv 2 = Int32.ofNat H → I cv 5 = 0 → I cv 12 = Int32.ofNat k → ∃ row, pX b cv c t o (lay b F E I L P nx us) = pX b cv c (t + (o' - o)) o' (lay b F E (hP cv I row (k + m)) L P nx us) ∧ (∀ j, j < k → row j = I (cv + 4) j) ∧ ∀ j, k ≤ j → j < k + m → row j = smV R (I (cv + 3)) W H s j := by
  have hcr := CV_r hcv
  intro m
  induction m with
  | zero =>
    intro k o o' t I hc hS hk ho ht h1 h2 h5 h12
    have hS : o = o' := hS
    subst hS
    refine ⟨I (cv + 4), ?_, fun _ _ => rfl, fun j _ _ => by omega⟩
    have e : hP cv I (I (cv + 4)) (k + 0) = I := hP_id h12
    rw [e, Nat.sub_self, Nat.add_zero]
  | succ m ih =>
    intro k o o' t I hc hS hk ho ht h1 h2 h5 h12
    obtain ⟨o1, -, ⟨a, e, q7, q8, q1, q2, q3, q4, qd⟩, h4, h5'⟩ := hS
    have hle := SumsAt_le _ _ _ _ h5'
    have hit := X_items (b := b) (F := F) (E := E) (L := L) (P := P) (nx := nx) (us := us) (c := c) (dl := dl) (wc := wc) (W := W) (H := H) (k0 := k) (dd := dd) (dv := dv) (dt := dt) hcv (by omega) (e - a) a 0 1 o t I hc qd (by omega) q4 (by omega) (by omega) h1 h2 h5 h12
    obtain ⟨s1, s2⟩ := ev_sh (vr := I (cv + 3)) (W := W) (H := H) (k0 := k) (e - a) a 0 1 (I (cv + 4)) qd
    rw [Nat.add_zero] at hit s1 s2
    rw [← q3] at hit
    generalize hrow : ev (R 9) (R 10) (I (cv + 3)) W H (e - a) a (I (cv + 4)) k = row0 at *
    have hc' : CDr E c dl wc dd dv dt (hP cv I row0 (k + 1)) := hc.fr (fun q hq => hP_ne (by omega) (by omega))
    obtain ⟨row, r1, r2, r3⟩ := ih (k + 1) o1 o' (t + (e - a)) (hP cv I row0 (k + 1)) hc' h5' (by omega) ho (by omega) (by rw [hP_cv, upd_ne (by decide)]; exact h1) (by rw [hP_cv, upd_ne (by decide)]; exact h2) (by rw [hP_cv, upd_ne (by decide)]; exact h5) (by rw [hP_cv, upd_same])
    rw [hP_hP, show k + 1 + m = k + (m + 1) by omega] at r1
    rw [hP_4] at r2
    rw [hP_ne (show cv + 3 ≠ cv by omega) (show cv + 3 ≠ cv + 4 by omega)] at r3
    refine ⟨row, ?_, fun j hj => ?_, fun j hj1 hj2 => ?_⟩
    · rw [hit, r1]
      congr 1
      omega
    · rw [r2 j (by omega), s2 j hj]
    · by_cases hjk : j = k
      · subst hjk
        have := s1 0
        rw [Nat.add_zero] at this
        rw [r2 j (by omega), this]
        exact (smV_e q7 q8 q1 q2 qd _).symm
      · exact r3 j (by omega) (by omega)
end ITM
