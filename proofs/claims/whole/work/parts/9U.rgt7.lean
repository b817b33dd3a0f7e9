/-! ===== right: the call ===== -/
section RGT7
variable {b : Nat} {F : Nat → Option AE} {D E : Nat → Option KD} {I : Nat → Nat → Int32} {L : Nat → Nat → Int64} {P : Nat → Nat → Option Nat} {nx us : Nat}
theorem call_right {z : ZX} (p : Int32) {tp nr sp a : Nat} {rc ow : Nat → Nat} (hz : GZ b F z) (hT : GTI I) (hn : Cn tp 400 (I 0 6) (I 72 25)) (hG : GTap (I 39) (I 91)) (hr : Cn nr 8 (I 54 1) (I 72 103)) (hR : GRt nr rc E (P 144) I) (hS : GRs nr rc sp E P ow) (hnx : nx = 149 + a) (hO : ∀ c, a ≤ c → ow c = 0) (r1 : a + 3 + 149 ≤ 601024) (r2 : us + 19 ≤ 7293034) :
    ∃ E2 I2 L2 P2 a2 us2, ∃ ow2 : Nat → Nat, ∃ tp2 nr2, ∃ rc2 : Nat → Nat, ∃ sp2, RunG b F (f_X11_right z (ad b 0) p) (f_X15_right z (ad b 72) p) E I L P nx us E2 I2 L2 P2 (149 + a2) us2 ∧ a ≤ a2 ∧ a2 ≤ a + 3 ∧ us2 ≤ us + 19 ∧ GTI I2 ∧ Cn tp2 400 (I2 0 6) (I2 72 25) ∧ nr ≤ nr2 ∧ Cn nr2 8 (I2 54 1) (I2 72 103) ∧ GRt nr2 rc2 E2 (P2 144) I2 ∧ GRs nr2 rc2 sp2 E2 P2 ow2 ∧ (∀ c, c < 149 + a → E2 c = E c) ∧ (∀ c, c < 149 + a → c ≠ 43 → c ≠ 72 → L2 c = L c) ∧ (∀ j, j ≠ 37 → L2 72 j = L 72 j) ∧ (∀ c, c < 149 + a → c ≠ 72 → c ≠ 144 → P2 c = P c) ∧ (∀ k, k ≠ 105 → P2 72 k = P 72 k) ∧ (∀ c, c < a → ow2 c = ow c) ∧ (∀ c, a2 ≤ c → ow2 c = 0) ∧ (∀ c, c < a → ow c ≠ 9 → dyn I2 c = dyn I c) ∧ (∀ c, c < 149 → [0, 40, 41, 42, 54, 55, 56, 57, 72, 90, 145, 146, 147, 148].contains c = false → I2 c = I c) ∧ (∀ k, [6, 16, 17, 18].contains k = false → I2 0 k = I 0 k) ∧ (∀ k, [0, 1, 2, 3, 25, 26, 27, 28, 29, 30, 31, 32, 36, 103].contains k = false → I2 72 k = I 72 k) := by
  subst hnx
  obtain ⟨h1, h2, h3⟩ := hn
  obtain ⟨n8, n2, n3⟩ := hr
  obtain ⟨s1, s2, s3, s4, s5, s6, s7⟩ := hS
  by_cases hp : (p < 0 ∨ Int32.ofNat tp < p)
  · refine ⟨E, rf I 2, L, P, a, us, ow, tp, nr, rc, sp, ⟨-1, E, u2 I 0 (upd (I 0) 16 2), L, P, 149 + a, us, by (simp (decide := true) only [f_X11_right, h2, hp, isO_s, gI_s, gA_s, gL_s, pI_s, pZ_s, pL_s, aI_s, aL_s, aN_s, aQ_s, sI_s, sL_s, cr, LNs, Option.map_some, Option.map_none, Option.bind_some, b2, tr, lt, if_true, if_false, ckZ, X_within, M_in, inR_z, X_refuse, X_tell, X_deny, X_grant, M_refused, M_denied, M_done, M_granted, u2_same, u2_ne, u2_u2, upd_same, upd_ne, aW0, ixR_z, ixR_1, M_isWall, M_isPainter, M_isWork, X_has4, X_has10, X_at, or_false, false_or, or_true, true_or, not_true, not_false_iff, Option.isSome_some, isO_d, gI_d, gA_d, pI_d, ne_eq, not_false_eq_true, u2_hi, u2_hj, u2_dyn, u2_dynj, Nat.reduceAdd, mX_r, mX_rD, mX_rDj, mM_r, mX_u, mX_uM, mX_uD, mX_uDj, mM_u, mM_uX, mM_uD, mM_uDj, u2_dd, u2_d0, u2_0d]; try exact rfl), ?_⟩, Nat.le_refl _, by omega, by omega, rf_GT hT (by decide), ?_, Nat.le_refl _, ?_, ?_, ⟨s1, s2, s3, s4, s5, s6, s7⟩, fun _ _ => rfl, fun _ _ _ _ => rfl, fun _ _ => rfl, fun _ _ _ _ => rfl, fun _ _ => rfl, fun _ _ => rfl, hO, ?_, ?_, ?_, ?_⟩
    · have ht := taped (b := b) (F := F) (E := E) (L := L) (P := P) (nx := 149 + a) (us := us) (I := u2 (u2 I 0 (upd (I 0) 16 2)) 72 (upd (I 72) 0 0)) (p := p) h1 (by simp (decide := true) only [u2_same, u2_ne, u2_u2, upd_same, upd_ne, mE, u2_dyn, dyn_u2, dyn_hi, u2_hi, u2_hj, u2_dynj, u2_dd, u2_d0, u2_0d]; exact h3)
      (simp (decide := true) only [f_X15_right, ht, hp, isO_s, gI_s, gA_s, gL_s, pI_s, pZ_s, pL_s, aI_s, aL_s, aN_s, aQ_s, sI_s, sL_s, cr, LNs, Option.map_some, Option.map_none, Option.bind_some, b2, tr, lt, if_true, if_false, ckZ, X_within, M_in, inR_z, X_refuse, X_tell, X_deny, X_grant, M_refused, M_denied, M_done, M_granted, u2_same, u2_ne, u2_u2, upd_same, upd_ne, aW0, ixR_z, ixR_1, M_isWall, M_isPainter, M_isWork, X_has4, X_has10, X_at, or_false, false_or, or_true, true_or, not_true, not_false_iff, Option.isSome_some, isO_d, gI_d, gA_d, pI_d, ne_eq, not_false_eq_true, u2_hi, u2_hj, u2_dyn, u2_dynj, Nat.reduceAdd, mX_r, mX_rD, mX_rDj, mM_r, mX_u, mX_uM, mX_uD, mX_uDj, mM_u, mM_uX, mM_uD, mM_uDj, u2_dd, u2_d0, u2_0d]; try exact rfl)
    · simp (decide := true) only [rf, u2_same, u2_ne, u2_u2, upd_same, upd_ne, mE, u2_dyn, dyn_u2, dyn_hi, u2_hi, u2_hj, u2_dynj, u2_dd, u2_d0, u2_0d]; exact ⟨h1, h2, h3⟩
    · simp (decide := true) only [rf, u2_same, u2_ne, u2_u2, upd_same, upd_ne, mE, u2_dyn, dyn_u2, dyn_hi, u2_hi, u2_hj, u2_dynj, u2_dd, u2_d0, u2_0d]; exact ⟨n8, n2, n3⟩
    · intro r hr
      obtain ⟨g1, g2, g3, g4, g5, nl, g6, g7, g8, g9⟩ := hR r hr
      refine ⟨g1, g2, g3, g4, g5, nl, g6, ?_, ?_, ?_⟩
      · simp (decide := true) only [rf, u2_same, u2_ne, u2_u2, upd_same, upd_ne, mE, u2_dyn, dyn_u2, dyn_hi, u2_hi, u2_hj, u2_dynj, u2_dd, u2_d0, u2_0d]; exact g7
      · unfold rf; rw [u2_ne (by omega), u2_ne (by omega)]; exact g8
      · unfold rf
        intro l hl
        rw [u2_ne (by omega), u2_ne (by omega), u2_ne (by omega), u2_ne (by omega), u2_ne (by omega), u2_ne (by omega), u2_ne (by omega), u2_ne (by omega)]
        exact g9 l hl
    · intro c hc _
      show rf I 2 (149 + c) = I (149 + c)
      unfold rf
      rw [u2_ne (by omega), u2_ne (by omega)]
    · intro c _ hc
      simp at hc
      unfold rf
      rw [u2_ne (by omega), u2_ne (by omega)]
    · intro k hk
      simp at hk
      unfold rf
      rw [u2_ne (by decide), u2_same, upd_ne (by omega)]
    · intro k hk
      simp at hk
      unfold rf mE
      rw [u2_same, upd_ne (by omega), upd_ne (by omega), upd_ne (by omega)]
  obtain ⟨n, hn, rfl⟩ := lo_of hp (by omega)
  have hn4 : n ≤ 400 := by omega
  obtain ⟨J, M, C, hc1, hc2, x2, x3, x4, x5, x6, x7, x8⟩ := X_rightR (b := b) (F := F) (E := E) (L := L) (P := P) (nx := 149 + a) (us := us) (I := I) (z := z) (nr := nr) (n := n) hz hn4 hG n8 n2
  have hBY := GTap_BY hG hn4
  -- the class after its reading
  have hX : f_X11_right z (ad b 0) (Int32.ofNat n) (lay b F E I L P (149 + a) us) = (if J 40 5 = 0 then b2 (f_X5_keep (ad b 54) (lay b F E (u2 J 0 (upd (upd (J 0) 17 (J 40 5)) 18 (J 40 6))) M P (149 + a) us)) fun x17 h18 => if x17 = 0 then b2 (f_X11_refuse (ad b 0) 3 h18) fun x23 h24 => some (x23, h24) else (gA 11 h18 (ad b 0) 13).bind fun a19 => (gI 5 h18 a19 1).bind fun x20 => b2 (f_X11_tell (ad b 0) (x20 - 1) h18) fun x21 h22 => some (x21, h22) else b2 (f_X11_refuse (ad b 0) 4 (lay b F E (u2 J 0 (upd (upd (J 0) 17 (J 40 5)) 18 (J 40 6))) M P (149 + a) us)) fun x26 h27 => some (x26, h27)) := by
    simp (decide := true) only [b2_p, f_X11_right, f_X11_noteFault, h2, hp, hc1, hc2, isO_s, gI_s, gA_s, gL_s, pI_s, pZ_s, pL_s, aI_s, aL_s, aN_s, aQ_s, sI_s, sL_s, cr, LNs, Option.map_some, Option.map_none, Option.bind_some, tr, lt, if_true, if_false, ckZ, X_within, M_in, inR_z, X_deny, X_grant, M_refused, M_denied, M_done, M_granted, u2_same, u2_ne, u2_u2, upd_same, upd_ne, aW0, ixR_z, ixR_1, M_isWall, M_isPainter, M_isWork, X_has4, X_has10, X_at, or_false, false_or, or_true, true_or, not_true, not_false_iff, Option.isSome_some, isO_d, gI_d, gA_d, pI_d, ne_eq, not_false_eq_true, u2_hi, u2_hj, u2_dyn, u2_dynj, Nat.reduceAdd, mX_r, mX_rD, mX_rDj, mM_r, mX_u, mX_uM, mX_uD, mX_uDj, mM_u, mM_uX, mM_uD, mM_uDj, u2_dd, u2_d0, u2_0d]
  -- the reference
  have hMr : ∀ K : Nat → Nat → Int32, K 72 = I 72 → (∀ k, k < n → K 91 k = I 39 k) → ∃ o Q N, f_X15_right z (ad b 72) (Int32.ofNat n) (lay b F E K M P (149 + a) us) = tr o (rTl b (lay b F E Q N P (149 + a) us)) (rTf b (lay b F E Q N P (149 + a) us)) ∧ (∀ c, c ≠ 72 → N c = M c) ∧ (∀ j, j ≠ 37 → N 72 j = M 72 j) ∧ (∀ c, c ≠ 72 → c ≠ 90 → c ≠ sp → c ≠ sp + 1 → c ≠ sp + 2 → Q c = K c) ∧ F72 (upd (upd (upd (upd (upd (upd (I 72) 0 0) 26 (Int32.ofNat n)) 25 0) 27 0) 3 0) 36 1) (Q 72) ∧ (∀ k, k ≠ 6 → k ≠ 7 → Q 90 k = K 90 k) ∧ RM b sp (I 39) n (rgS (I 39) n 9 0 0 0 (fun _ => 0) (fun _ => 0)) o Q := by
    intro K hK hK91
    obtain ⟨o, Q, N, y1, y2, y3, y4, y5, y6, y7⟩ := M_rightR (b := b) (F := F) (E := E) (L := M) (P := P) (nx := 149 + a) (us := us) (I := K) (z := z) (tp := tp) hz hn4 hBY hK91 s2 s1 s3 s4 s5
    rw [hK] at y1 y5
    refine ⟨o, Q, N, ?_, y2, y3, y4, y5, y6, y7⟩
    have ht := taped (b := b) (F := F) (E := E) (L := M) (P := P) (nx := 149 + a) (us := us) (I := u2 K 72 (upd (I 72) 0 0)) (p := Int32.ofNat n) h1 (by simp (decide := true) only [u2_same, u2_ne, u2_u2, upd_same, upd_ne, mE, u2_dyn, dyn_u2, dyn_hi, u2_hi, u2_hj, u2_dynj, u2_dd, u2_d0, u2_0d]; exact h3)
    simp (decide := true) only [b2_p, rT_eq, ht, hp, hK, y1, isO_s, gI_s, gA_s, gL_s, pI_s, pZ_s, pL_s, aI_s, aL_s, aN_s, aQ_s, sI_s, sL_s, cr, LNs, Option.map_some, Option.map_none, Option.bind_some, tr, lt, if_true, if_false, ckZ, X_within, M_in, inR_z, X_refuse, X_tell, X_deny, X_grant, M_denied, M_granted, u2_same, u2_ne, u2_u2, upd_same, upd_ne, aW0, ixR_z, ixR_1, M_isWall, M_isPainter, M_isWork, X_has4, X_has10, X_at, or_false, false_or, or_true, true_or, not_true, not_false_iff, Option.isSome_some, isO_d, gI_d, gA_d, pI_d, ne_eq, not_false_eq_true, u2_hi, u2_hj, u2_dyn, u2_dynj, Nat.reduceAdd, mX_r, mX_rD, mX_rDj, mM_r, mX_u, mX_uM, mX_uD, mX_uDj, mM_u, mM_uX, mM_uD, mM_uDj, u2_dd, u2_d0, u2_0d]
  -- what both leave alone
  have hne : ∀ r, r < nr → rc r ≠ 72 ∧ rc r ≠ 90 ∧ 145 ≤ rc r ∧ rc r ≠ sp ∧ rc r ≠ sp + 1 ∧ rc r ≠ sp + 2 ∧ rc r + 1 ≠ sp ∧ rc r + 1 ≠ sp + 1 ∧ rc r + 1 ≠ sp + 2 ∧ rc r + 2 ≠ sp ∧ rc r + 2 ≠ sp + 1 ∧ rc r + 2 ≠ sp + 2 := by
    intro r hr
    have h1 := (hR r hr).2.1
    have h2 := (s7 r hr).1
    omega
  have lowS : sp + 2 < 149 + a := by
    rcases s6 with h | ⟨d, h, o1, o2, o3⟩
    · omega
    · have : ¬ a ≤ d + 2 := fun q => by rw [hO _ q] at o3; cases o3
      omega
  have lowR : ∀ r, r < nr → rc r + 2 < 149 + a := by
    intro r hr
    rcases (s7 r hr).2 with h | ⟨d, h, o1, o2, o3⟩
    · omega
    · have : ¬ a ≤ d + 2 := fun q => by rw [hO _ q] at o3; cases o3
      omega
  have keepR : ∀ (I2 : Nat → Nat → Int32) (K Q : Nat → Nat → Int32), (∀ c, 145 ≤ c → c < 149 + a → c ≠ sp → c ≠ sp + 1 → c ≠ sp + 2 → I2 c = Q c) → (∀ c, c < 72 → I2 c = Q c) → (∀ c, c ≠ 72 → c ≠ 90 → c ≠ sp → c ≠ sp + 1 → c ≠ sp + 2 → Q c = K c) → (∀ c, c ≠ 0 → c ≠ 54 → K c = J c) → ∀ r, r < nr → ∃ nl, nl ≤ 8 ∧ I2 55 r = Int32.ofNat nl ∧ I2 (rc r) 0 = Int32.ofNat nl ∧ ∀ l, l < nl → I2 56 (8 * r + l) = I2 (rc r + 1) l ∧ I2 57 (8 * r + l) = I2 (rc r + 2) l := by
    intro I2 K Q g1 g2 g3 g4 r hr
    obtain ⟨q1, q2, q3, q4, q5, q6, q7, q8, q9, qa, qb, qc⟩ := hne r hr
    obtain ⟨-, -, -, -, -, nl, b6, b7, b8, b9⟩ := hR r hr
    have hlo := lowR r hr
    have h148 : rc r ≠ 148 ∧ rc r + 1 ≠ 148 ∧ rc r + 2 ≠ 148 := by
      rcases (s7 r hr).2 with h | ⟨d, h, -⟩ <;> omega
    have d : ∀ c, 145 ≤ c → c < 149 + a → c ≠ 148 → c ≠ sp → c ≠ sp + 1 → c ≠ sp + 2 → I2 c = I c := fun c c1 c0 c8 c2 c3 c4 => by rw [g1 c c1 c0 c2 c3 c4, g3 c (by omega) (by omega) c2 c3 c4, g4 c (by omega) (by omega), x3 c (by omega) (by omega) (by omega) (by omega) (by omega) (by omega) (by omega) (by omega) (by omega)]
    have e : ∀ c, c ≠ 0 → c ≠ 54 → c < 72 → I2 c = J c := fun c c1 c2 c3 => by rw [g2 c c3, g3 c (by omega) (by omega) (by omega) (by omega) (by omega), g4 c c1 c2]
    refine ⟨nl, b6, ?_, ?_, ?_⟩
    · rw [e 55 (by decide) (by decide) (by decide), x6 r (by omega)]; exact b7
    · rw [d (rc r) (by omega) (by omega) h148.1 q4 q5 q6]; exact b8
    · intro l hl
      obtain ⟨a1, a2⟩ := x7 (8 * r + l) (by omega)
      rw [e 56 (by decide) (by decide) (by decide), e 57 (by decide) (by decide) (by decide), d (rc r + 1) (by omega) (by omega) h148.2.1 q7 q8 q9, d (rc r + 2) (by omega) (by omega) h148.2.2 qa qb qc, a1, a2]
      exact b9 l hl
  have F25 : ∀ Q : Nat → Nat → Int32, F72 (upd (upd (upd (upd (upd (upd (I 72) 0 0) 26 (Int32.ofNat n)) 25 0) 27 0) 3 0) 36 1) (Q 72) → Q 72 25 = 0 ∧ Q 72 3 = 0 ∧ Q 72 103 = I 72 103 ∧ ∀ k, [0, 1, 2, 3, 25, 26, 27, 28, 29, 30, 31, 32, 36, 103].contains k = false → Q 72 k = I 72 k := by
    intro Q h
    refine ⟨?_, ?_, ?_, ?_⟩
    · rw [h 25 (by decide) (by decide) (by decide) (by decide) (by decide) (by decide)]; simp (decide := true) only [u2_same, u2_ne, u2_u2, upd_same, upd_ne, mE, u2_dyn, dyn_u2, dyn_hi, u2_hi, u2_hj, u2_dynj, u2_dd, u2_d0, u2_0d]
    · rw [h 3 (by decide) (by decide) (by decide) (by decide) (by decide) (by decide)]; simp (decide := true) only [u2_same, u2_ne, u2_u2, upd_same, upd_ne, mE, u2_dyn, dyn_u2, dyn_hi, u2_hi, u2_hj, u2_dynj, u2_dd, u2_d0, u2_0d]
    · rw [h 103 (by decide) (by decide) (by decide) (by decide) (by decide) (by decide)]; simp (decide := true) only [u2_same, u2_ne, u2_u2, upd_same, upd_ne, mE, u2_dyn, dyn_u2, dyn_hi, u2_hi, u2_hj, u2_dynj, u2_dd, u2_d0, u2_0d]
    · intro k hk
      simp at hk
      rw [h k (by omega) (by omega) (by omega) (by omega) (by omega) (by omega), upd_ne (by omega), upd_ne (by omega), upd_ne (by omega), upd_ne (by omega), upd_ne (by omega), upd_ne (by omega)]
  have stat : ∀ (I2 : Nat → Nat → Int32) (K Q : Nat → Nat → Int32), (∀ c, c < 149 → c ≠ 72 → I2 c = Q c) → (∀ c, c ≠ 72 → c ≠ 90 → c ≠ sp → c ≠ sp + 1 → c ≠ sp + 2 → Q c = K c) → (∀ c, c ≠ 0 → c ≠ 54 → K c = J c) → ∀ c, c < 149 → [0, 40, 41, 42, 54, 55, 56, 57, 72, 90, 145, 146, 147, 148].contains c = false → I2 c = I c := by
    intro I2 K Q g1 g2 g3 c hc hl
    simp at hl
    rw [g1 c hc (by omega), g2 c (by omega) (by omega) (by omega) (by omega) (by omega), g3 c (by omega) (by omega), x3 c (by omega) (by omega) (by omega) (by omega) (by omega) (by omega) (by omega) (by omega) (by omega)]
  have dynK : ∀ (K Q : Nat → Nat → Int32), (∀ c, c ≠ 72 → c ≠ 90 → c ≠ sp → c ≠ sp + 1 → c ≠ sp + 2 → Q c = K c) → (∀ c, c ≠ 0 → c ≠ 54 → K c = J c) → ∀ c, c < a → ow c ≠ 9 → Q (149 + c) = I (149 + c) := by
    intro K Q g2 g3 c hc h9
    have hsp : 149 + c ≠ sp ∧ 149 + c ≠ sp + 1 ∧ 149 + c ≠ sp + 2 := by
      rcases s6 with h | ⟨d, h, o1, o2, o3⟩
      · omega
      · refine ⟨?_, ?_, ?_⟩
        · intro q; have : c = d := by omega
          subst this; exact h9 o1
        · intro q; have : c = d + 1 := by omega
          subst this; exact h9 o2
        · intro q; have : c = d + 2 := by omega
          subst this; exact h9 o3
    rw [g2 (149 + c) (by omega) (by omega) hsp.1 hsp.2.1 hsp.2.2, g3 (149 + c) (by omega) (by omega), x3 (149 + c) (by omega) (by omega) (by omega) (by omega) (by omega) (by omega) (by omega) (by omega) (by omega)]
  have J54 : J 54 1 = Int32.ofNat nr := by rw [x5 1 (by decide)]; exact n2
  have J72 : J 72 = I 72 := x3 72 (by decide) (by decide) (by decide) (by decide) (by decide) (by decide) (by decide) (by decide) (by decide)
  have J91 : J 91 = I 91 := x3 91 (by decide) (by decide) (by decide) (by decide) (by decide) (by decide) (by decide) (by decide) (by decide)
  have h91 : ∀ k, k < n → I 91 k = I 39 k := fun k hk => (hG k (by omega)).1.symm
  cases hout : rgS (I 39) n 9 0 0 0 (fun _ => 0) (fun _ => 0) with
  | inl q =>
    obtain ⟨c, j⟩ := q
    have hc0 := rg_c 9 0 0 0 _ _ c j rfl (by omega) hout
    rw [hout] at x8 hMr
    obtain ⟨d1, d2⟩ := x8
    let K : Nat → Nat → Int32 := u2 J 0 (upd (upd (upd (J 0) 17 c) 18 (Int32.ofNat (pl (I 39) n j))) 16 4)
    have hK72 : K 72 = I 72 := (u2_ne (by decide)).trans J72
    obtain ⟨o, Q, N, m1, m2, m3, m4, m5, m6, rfl, m8, m9⟩ := hMr K hK72 (by rw [show K 91 = J 91 from u2_ne (by decide), J91]; exact h91)
    obtain ⟨t25, t3, t103, tk⟩ := F25 Q m5
    have Q0 : Q 0 = K 0 := m4 0 (by decide) (by decide) (by omega) (by omega) (by omega)
    have K0 : K 0 = upd (upd (upd (J 0) 17 c) 18 (Int32.ofNat (pl (I 39) n j))) 16 4 := u2_same _ _ _
    let I2 : Nat → Nat → Int32 := u2 Q 72 (upd (upd (upd (Q 72) 3 c) 1 4) 2 (Int32.ofNat (pl (I 39) n j)))
    have hI2 : ∀ c, c ≠ 72 → I2 c = Q c := fun c hc => u2_ne hc
    have hI72 : I2 72 = upd (upd (upd (Q 72) 3 c) 1 4) 2 (Int32.ofNat (pl (I 39) n j)) := u2_same _ _ _
    have hKJ : ∀ c, c ≠ 0 → c ≠ 54 → K c = J c := fun c h1 _ => u2_ne h1
    refine ⟨E, I2, N, P, a, us, ow, 0, nr, rc, sp, ⟨-1, E, K, M, P, 149 + a, us, ?_, ?_⟩, Nat.le_refl _, by omega, by omega, ?_, ?_, Nat.le_refl _, ?_, ?_, ⟨s1, s2, s3, s4, s5, s6, s7⟩, fun _ _ => rfl, ?_, ?_, fun _ _ _ _ => rfl, fun _ _ => rfl, fun _ _ => rfl, hO, ?_, ?_, ?_, ?_⟩
    · rw [hX, d1, d2, if_neg hc0]
      simp (decide := true) only [isO_s, gI_s, gA_s, gL_s, pI_s, pZ_s, pL_s, aI_s, aL_s, aN_s, aQ_s, sI_s, sL_s, cr, LNs, Option.map_some, Option.map_none, Option.bind_some, b2, tr, lt, if_true, if_false, ckZ, X_within, M_in, inR_z, X_refuse, X_tell, X_deny, X_grant, M_refused, M_denied, M_done, M_granted, u2_same, u2_ne, u2_u2, upd_same, upd_ne, aW0, ixR_z, ixR_1, M_isWall, M_isPainter, M_isWork, X_has4, X_has10, X_at, or_false, false_or, or_true, true_or, not_true, not_false_iff, Option.isSome_some, isO_d, gI_d, gA_d, pI_d, ne_eq, not_false_eq_true, u2_hi, u2_hj, u2_dyn, u2_dynj, Nat.reduceAdd, mX_r, mX_rD, mX_rDj, mM_r, mX_u, mX_uM, mX_uD, mX_uDj, mM_u, mM_uX, mM_uD, mM_uDj, u2_dd, u2_d0, u2_0d]
      rfl
    · rw [m1]
      show rTf b (lay b F E Q N P (149 + a) us) (ad b 90) = _
      unfold rTf
      have ho : ckO 14 (lay b F E Q N P (149 + a) us) (ad b 90) = some () := by unfold ckO; rw [isO_s (by decide)]; rfl
      simp (decide := true) only [ho, f_X15_faulty, m8, m9, isO_s, gI_s, gA_s, gL_s, pI_s, pZ_s, pL_s, aI_s, aL_s, aN_s, aQ_s, sI_s, sL_s, cr, LNs, Option.map_some, Option.map_none, Option.bind_some, b2, tr, lt, if_true, if_false, ckZ, X_within, M_in, inR_z, X_refuse, X_tell, X_deny, X_grant, M_refused, M_denied, M_done, M_granted, u2_same, u2_ne, u2_u2, upd_same, upd_ne, aW0, ixR_z, ixR_1, M_isWall, M_isPainter, M_isWork, X_has4, X_has10, X_at, or_false, false_or, or_true, true_or, not_true, not_false_iff, Option.isSome_some, isO_d, gI_d, gA_d, pI_d, ne_eq, not_false_eq_true, u2_hi, u2_hj, u2_dyn, u2_dynj, Nat.reduceAdd, mX_r, mX_rD, mX_rDj, mM_r, mX_u, mX_uM, mX_uD, mX_uDj, mM_u, mM_uX, mM_uD, mM_uDj, u2_dd, u2_d0, u2_0d]
      rfl
    · unfold GTI
      rw [hI2 0 (by decide), Q0, K0, hI72]
      simp (decide := true) only [u2_same, u2_ne, u2_u2, upd_same, upd_ne, mE, u2_dyn, dyn_u2, dyn_hi, u2_hi, u2_hj, u2_dynj, u2_dd, u2_d0, u2_0d]
      exact ⟨rfl, rfl, rfl⟩
    · rw [hI2 0 (by decide), Q0, K0, hI72, x4]
      simp (decide := true) only [u2_same, u2_ne, u2_u2, upd_same, upd_ne, mE, u2_dyn, dyn_u2, dyn_hi, u2_hi, u2_hj, u2_dynj, u2_dd, u2_d0, u2_0d]
      exact ⟨by omega, rfl, t25⟩
    · have : I2 54 = J 54 := by rw [hI2 54 (by decide), m4 54 (by decide) (by decide) (by omega) (by omega) (by omega)]; exact u2_ne (by decide)
      rw [this, hI72]
      simp (decide := true) only [u2_same, u2_ne, u2_u2, upd_same, upd_ne, mE, u2_dyn, dyn_u2, dyn_hi, u2_hi, u2_hj, u2_dynj, u2_dd, u2_d0, u2_0d]
      exact ⟨n8, J54, t103.trans n3⟩
    · intro r hr
      obtain ⟨g1, g2, g3, g4, g5, -⟩ := hR r hr
      have hKc : ∀ c, c ≠ 0 → c ≠ 54 → K c = J c := hKJ
      exact ⟨g1, g2, g3, g4, g5, keepR I2 K Q (fun c c1 _ _ _ _ => hI2 c (by omega)) (fun c hc => hI2 c (by omega)) m4 hKc r hr⟩
    · intro c hc c1 c2
      rw [m2 c c2, x2 c c1]
    · intro j hj
      rw [m3 j hj, x2 72 (by decide)]
    · intro c hc h9
      show I2 (149 + c) = I (149 + c)
      rw [hI2 _ (by omega)]
      exact dynK K Q m4 hKJ c hc h9
    · exact stat I2 K Q (fun c _ h => hI2 c h) m4 hKJ
    · intro k hk
      simp at hk
      rw [hI2 0 (by decide), Q0, K0, x4, upd_ne (by omega), upd_ne (by omega), upd_ne (by omega), upd_ne (by omega)]
    · intro k hk
      have hk' := hk
      simp at hk'
      rw [hI72, upd_ne (by omega), upd_ne (by omega), upd_ne (by omega)]
      exact tk k hk
  | inr q =>
    obtain ⟨k, w, pp⟩ := q
    rw [hout] at x8 hMr
    obtain ⟨d1, d2, d3, d4⟩ := x8
    by_cases h8 : nr = 8
    · let K : Nat → Nat → Int32 := u2 J 0 (upd (upd (upd (J 0) 17 0) 18 (J 40 6)) 16 3)
      have hK72 : K 72 = I 72 := (u2_ne (by decide)).trans J72
      obtain ⟨o, Q, N, m1, m2, m3, m4, m5, m6, rfl, m8, m9⟩ := hMr K hK72 (by rw [show K 91 = J 91 from u2_ne (by decide), J91]; exact h91)
      obtain ⟨t25, t3, t103, tk⟩ := F25 Q m5
      have Q0 : Q 0 = K 0 := m4 0 (by decide) (by decide) (by omega) (by omega) (by omega)
      have K0 : K 0 = upd (upd (upd (J 0) 17 0) 18 (J 40 6)) 16 3 := u2_same _ _ _
      let I2 : Nat → Nat → Int32 := u2 Q 72 (mE (Q 72) 3)
      have hI2 : ∀ c, c ≠ 72 → I2 c = Q c := fun c hc => u2_ne hc
      have hI72 : I2 72 = mE (Q 72) 3 := u2_same _ _ _
      have hKJ : ∀ c, c ≠ 0 → c ≠ 54 → K c = J c := fun c h1 _ => u2_ne h1
      have e8 : (Int32.ofNat nr < 8) = False := by rw [h8]; decide
      have e9 : (Int32.ofNat nr = 8) = True := by rw [h8]; decide
      refine ⟨E, I2, N, P, a, us, ow, 0, nr, rc, sp, ⟨-1, E, K, M, P, 149 + a, us, ?_, ?_⟩, Nat.le_refl _, by omega, by omega, ?_, ?_, Nat.le_refl _, ?_, ?_, ⟨s1, s2, s3, s4, s5, s6, s7⟩, fun _ _ => rfl, ?_, ?_, fun _ _ _ _ => rfl, fun _ _ => rfl, fun _ _ => rfl, hO, ?_, ?_, ?_, ?_⟩
      · rw [hX, d1, if_pos rfl]
        simp (decide := true) only [f_X5_keep, J54, e8, isO_s, gI_s, gA_s, gL_s, pI_s, pZ_s, pL_s, aI_s, aL_s, aN_s, aQ_s, sI_s, sL_s, cr, LNs, Option.map_some, Option.map_none, Option.bind_some, b2, tr, lt, if_true, if_false, ckZ, X_within, M_in, inR_z, X_refuse, X_tell, X_deny, X_grant, M_refused, M_denied, M_done, M_granted, u2_same, u2_ne, u2_u2, upd_same, upd_ne, aW0, ixR_z, ixR_1, M_isWall, M_isPainter, M_isWork, X_has4, X_has10, X_at, or_false, false_or, or_true, true_or, not_true, not_false_iff, Option.isSome_some, isO_d, gI_d, gA_d, pI_d, ne_eq, not_false_eq_true, u2_hi, u2_hj, u2_dyn, u2_dynj, Nat.reduceAdd, mX_r, mX_rD, mX_rDj, mM_r, mX_u, mX_uM, mX_uD, mX_uDj, mM_u, mM_uX, mM_uD, mM_uDj, u2_dd, u2_d0, u2_0d]
        rfl
      · rw [m1]
        show rTl b (lay b F E Q N P (149 + a) us) = _
        unfold rTl
        have q103 : Q 72 103 = Int32.ofNat nr := t103.trans n3
        simp (decide := true) only [b2_p, q103, e9, isO_s, gI_s, gA_s, gL_s, pI_s, pZ_s, pL_s, aI_s, aL_s, aN_s, aQ_s, sI_s, sL_s, cr, LNs, Option.map_some, Option.map_none, Option.bind_some, tr, lt, if_true, if_false, ckZ, X_within, M_in, inR_z, X_refuse, X_tell, X_deny, X_grant, M_refused, M_denied, M_done, M_granted, u2_same, u2_ne, u2_u2, upd_same, upd_ne, aW0, ixR_z, ixR_1, M_isWall, M_isPainter, M_isWork, X_has4, X_has10, X_at, or_false, false_or, or_true, true_or, not_true, not_false_iff, Option.isSome_some, isO_d, gI_d, gA_d, pI_d, ne_eq, not_false_eq_true, u2_hi, u2_hj, u2_dyn, u2_dynj, Nat.reduceAdd, mX_r, mX_rD, mX_rDj, mM_r, mX_u, mX_uM, mX_uD, mX_uDj, mM_u, mM_uX, mM_uD, mM_uDj, u2_dd, u2_d0, u2_0d]
        rfl
      · unfold GTI
        rw [hI2 0 (by decide), Q0, K0, hI72]
        simp (decide := true) only [t3, u2_same, u2_ne, u2_u2, upd_same, upd_ne, mE, u2_dyn, dyn_u2, dyn_hi, u2_hi, u2_hj, u2_dynj, u2_dd, u2_d0, u2_0d]
        exact ⟨rfl, rfl, rfl⟩
      · rw [hI2 0 (by decide), Q0, K0, hI72, x4]
        simp (decide := true) only [u2_same, u2_ne, u2_u2, upd_same, upd_ne, mE, u2_dyn, dyn_u2, dyn_hi, u2_hi, u2_hj, u2_dynj, u2_dd, u2_d0, u2_0d]
        exact ⟨by omega, rfl, t25⟩
      · have : I2 54 = J 54 := by rw [hI2 54 (by decide), m4 54 (by decide) (by decide) (by omega) (by omega) (by omega)]; exact u2_ne (by decide)
        rw [this, hI72]
        simp (decide := true) only [u2_same, u2_ne, u2_u2, upd_same, upd_ne, mE, u2_dyn, dyn_u2, dyn_hi, u2_hi, u2_hj, u2_dynj, u2_dd, u2_d0, u2_0d]
        exact ⟨n8, J54, t103.trans n3⟩
      · intro r hr
        obtain ⟨g1, g2, g3, g4, g5, -⟩ := hR r hr
        exact ⟨g1, g2, g3, g4, g5, keepR I2 K Q (fun c c1 _ _ _ _ => hI2 c (by omega)) (fun c hc => hI2 c (by omega)) m4 hKJ r hr⟩
      · intro c hc c1 c2
        rw [m2 c c2, x2 c c1]
      · intro j hj
        rw [m3 j hj, x2 72 (by decide)]
      · intro c hc h9
        show I2 (149 + c) = I (149 + c)
        rw [hI2 _ (by omega)]
        exact dynK K Q m4 hKJ c hc h9
      · exact stat I2 K Q (fun c _ h => hI2 c h) m4 hKJ
      · intro k hk
        simp at hk
        rw [hI2 0 (by decide), Q0, K0, x4, upd_ne (by omega), upd_ne (by omega), upd_ne (by omega), upd_ne (by omega)]
      · intro k hk
        have hk' := hk
        simp at hk'
        rw [hI72]
        unfold mE
        rw [upd_ne (by omega), upd_ne (by omega)]
        exact tk k hk
    · have hnr : nr < 8 := by omega
      let K : Nat → Nat → Int32 := u2 (u2 (u2 J 0 (upd (upd (J 0) 17 0) 18 (J 40 6))) 54 (upd (J 54) 1 (Int32.ofNat (nr + 1)))) 0 (upd (upd (upd (J 0) 17 0) 18 (J 40 6)) 16 0)
      have hKc : ∀ c, c ≠ 0 → c ≠ 54 → K c = J c := fun c h1 h2 => by show u2 (u2 (u2 J 0 _) 54 _) 0 _ c = _; rw [u2_ne h1, u2_ne h2, u2_ne h1]
      have hK72 : K 72 = I 72 := (hKc 72 (by decide) (by decide)).trans J72
      obtain ⟨o, Q, N, m1, m2, m3, m4, m5, m6, rfl, m8, m9⟩ := hMr K hK72 (by rw [hKc 91 (by decide) (by decide), J91]; exact h91)
      obtain ⟨t25, t3, t103, tk⟩ := F25 Q m5
      have Q0 : Q 0 = K 0 := m4 0 (by decide) (by decide) (by omega) (by omega) (by omega)
      have K0 : K 0 = upd (upd (upd (J 0) 17 0) 18 (J 40 6)) 16 0 := u2_same _ _ _
      have Q54 : Q 54 = upd (J 54) 1 (Int32.ofNat (nr + 1)) := by
        rw [m4 54 (by decide) (by decide) (by omega) (by omega) (by omega)]
        show u2 (u2 (u2 J 0 _) 54 _) 0 _ 54 = _
        rw [u2_ne (by decide), u2_same]
      have q103 : Q 72 103 = Int32.ofNat nr := t103.trans n3
      obtain ⟨L2, P2, v1, v2, v3, v4, v5⟩ := M_keepR (b := b) (F := F) (E := E) (I := Q) (L := N) (P := P) (us := us) (a := a) hnr q103 s1 s3 r1 r2
      let I2 : Nat → Nat → Int32 := u2 (nrI Q a) 72 (mE (upd (Q 72) 103 (Int32.ofNat (nr + 1))) 0)
      have hI2 : ∀ c, c < 149 + a → c ≠ 72 → I2 c = Q c := fun c h1 h2 => by show u2 (nrI Q a) 72 _ c = _; rw [u2_ne h2]; unfold nrI; rw [u2_ne (by omega), u2_ne (by omega), u2_ne (by omega)]
      have hI72 : I2 72 = mE (upd (Q 72) 103 (Int32.ofNat (nr + 1))) 0 := u2_same _ _ _
      have e8 : (Int32.ofNat nr < 8) = True := eq_true ((oN_lt (c := 8) (by omega) (by omega)).mpr hnr)
      have e10 : ((1 : Int32) = 0) = False := by decide
      have kdE : ∀ c, c < 149 + a → kdf (nrE E a) c = kdf E c := by
        intro c hc
        unfold nrE
        rw [← kdf_u2 (by omega), ← kdf_u2 (by omega), ← kdf_u2 (by omega), u2_ne (by omega), u2_ne (by omega), u2_ne (by omega)]
      let ow2 : Nat → Nat := fun c => if a ≤ c ∧ c < a + 3 then 9 else ow c
      have owl : ∀ c, c < a → ow2 c = ow c := fun c hc => if_neg (by omega)
      let rc2 : Nat → Nat := fun r => if r = nr then sp else rc r
      have rcn : rc2 nr = sp := if_pos rfl
      have rcl : ∀ r, r < nr → rc2 r = rc r := fun r hr => if_neg (by omega)
      have tagd : ∀ x, (x = 145 ∨ ∃ d, x = 149 + d ∧ ow d = 9 ∧ ow (d + 1) = 9 ∧ ow (d + 2) = 9) → x = 145 ∨ ∃ d, x = 149 + d ∧ ow2 d = 9 ∧ ow2 (d + 1) = 9 ∧ ow2 (d + 2) = 9 := by
        rintro x (h | ⟨d, h, o1, o2, o3⟩)
        · exact Or.inl h
        · have : ¬ a ≤ d + 2 := fun q => by rw [hO _ q] at o3; cases o3
          exact Or.inr ⟨d, h, by rw [owl d (by omega)]; exact o1, by rw [owl _ (by omega)]; exact o2, by rw [owl _ (by omega)]; exact o3⟩
      refine ⟨nrE E a, I2, L2, P2, a + 3, us + 19, ow2, 0, nr + 1, rc2, 149 + a, ⟨Int32.ofNat nr, E, K, M, P, 149 + a, us, ?_, ?_⟩, by omega, Nat.le_refl _, Nat.le_refl _, ?_, ?_, by omega, ?_, ?_, ?_, ?_, ?_, ?_, ?_, ?_, owl, ?_, ?_, ?_, ?_, ?_⟩
      · rw [hX, d1, if_pos rfl]
        simp (decide := true) only [f_X5_keep, J54, e8, e10, oN_succ, oN_pred, isO_s, gI_s, gA_s, gL_s, pI_s, pZ_s, pL_s, aI_s, aL_s, aN_s, aQ_s, sI_s, sL_s, cr, LNs, Option.map_some, Option.map_none, Option.bind_some, b2, tr, lt, if_true, if_false, ckZ, X_within, M_in, inR_z, X_refuse, X_tell, X_deny, X_grant, M_refused, M_denied, M_done, M_granted, u2_same, u2_ne, u2_u2, upd_same, upd_ne, aW0, ixR_z, ixR_1, M_isWall, M_isPainter, M_isWork, X_has4, X_has10, X_at, or_false, false_or, or_true, true_or, not_true, not_false_iff, Option.isSome_some, isO_d, gI_d, gA_d, pI_d, ne_eq, not_false_eq_true, u2_hi, u2_hj, u2_dyn, u2_dynj, Nat.reduceAdd, mX_r, mX_rD, mX_rDj, mM_r, mX_u, mX_uM, mX_uD, mX_uDj, mM_u, mM_uX, mM_uD, mM_uDj, u2_dd, u2_d0, u2_0d]
        rfl
      · rw [m1]
        exact v1
      · unfold GTI
        rw [hI2 0 (by omega) (by decide), Q0, K0, hI72]
        simp (decide := true) only [t3, u2_same, u2_ne, u2_u2, upd_same, upd_ne, mE, u2_dyn, dyn_u2, dyn_hi, u2_hi, u2_hj, u2_dynj, u2_dd, u2_d0, u2_0d]
        exact ⟨rfl, rfl, rfl⟩
      · rw [hI2 0 (by omega) (by decide), Q0, K0, hI72, x4]
        simp (decide := true) only [u2_same, u2_ne, u2_u2, upd_same, upd_ne, mE, u2_dyn, dyn_u2, dyn_hi, u2_hi, u2_hj, u2_dynj, u2_dd, u2_d0, u2_0d]
        exact ⟨by omega, rfl, t25⟩
      · rw [hI2 54 (by omega) (by decide), Q54, hI72]
        simp (decide := true) only [u2_same, u2_ne, u2_u2, upd_same, upd_ne, mE, u2_dyn, dyn_u2, dyn_hi, u2_hi, u2_hj, u2_dynj, u2_dd, u2_d0, u2_0d]
        exact ⟨by omega, rfl, rfl⟩
      · intro r hr
        by_cases hrn : r = nr
        · subst hrn
          rw [rcn, v4, kdE sp (by omega), kdE (sp + 1) (by omega), kdE (sp + 2) (by omega), hI2 sp (by omega) (by omega), hI2 (sp + 1) (by omega) (by omega), hI2 (sp + 2) (by omega) (by omega), hI2 55 (by omega) (by decide), hI2 56 (by omega) (by decide), hI2 57 (by omega) (by decide), m4 55 (by decide) (by decide) (by omega) (by omega) (by omega), m4 56 (by decide) (by decide) (by omega) (by omega) (by omega), m4 57 (by decide) (by decide) (by omega) (by omega) (by omega), hKc 55 (by decide) (by decide), hKc 56 (by decide) (by decide), hKc 57 (by decide) (by decide)]
          refine ⟨vup_same _ _ _, s2, s3, s4, s5, k, d2, d3, m8, ?_⟩
          intro l hl
          rw [(d4 l hl).1, (d4 l hl).2, (m9 l hl).1, (m9 l hl).2]
          exact ⟨rfl, rfl⟩
        · have hr' : r < nr := by omega
          obtain ⟨g1, g2, g3, g4, g5, -⟩ := hR r hr'
          have hlo := lowR r hr'
          rw [rcl r hr', v4, kdE (rc r) (by omega), kdE (rc r + 1) (by omega), kdE (rc r + 2) (by omega)]
          exact ⟨(vup_ne hrn).trans g1, g2, g3, g4, g5, keepR I2 K Q (fun c c1 c0 _ _ _ => hI2 c c0 (by omega)) (fun c hc => hI2 c (by omega) (by omega)) m4 hKc r hr'⟩
      · refine ⟨by rw [v5]; exact vup_same _ _ _, by omega, kdf_of (by omega) ?_, kdf_of (by omega) ?_, kdf_of (by omega) ?_, Or.inr ⟨a, rfl, if_pos (by omega), if_pos (by omega), if_pos (by omega)⟩, ?_⟩
        · unfold nrE; rw [u2_ne (by omega), u2_ne (by omega), u2_same]
        · unfold nrE; rw [u2_ne (by omega), u2_same]
        · unfold nrE; rw [u2_same]
        · intro r hr
          by_cases hrn : r = nr
          · subst hrn
            rw [rcn]
            exact ⟨Or.inl (by omega), tagd sp s6⟩
          · have hr' : r < nr := by omega
            have hlo := lowR r hr'
            rw [rcl r hr']
            exact ⟨Or.inl (by omega), tagd _ (s7 r hr').2⟩
      · intro c hc
        unfold nrE
        rw [u2_ne (by omega), u2_ne (by omega), u2_ne (by omega)]
      · intro c hc c1 c2
        rw [v2 c hc, m2 c c2, x2 c c1]
      · intro j hj
        rw [v2 72 (by omega), m3 j hj, x2 72 (by decide)]
      · intro c hc c1 c2
        exact v3 c hc c1 c2
      · intro k hk
        rw [v5]
        exact vup_ne hk
      · intro c hc
        show (if a ≤ c ∧ c < a + 3 then 9 else ow c) = 0
        rw [if_neg (by omega)]
        exact hO c (by omega)
      · intro c hc h9
        show I2 (149 + c) = I (149 + c)
        rw [hI2 _ (by omega) (by omega)]
        exact dynK K Q m4 hKc c hc h9
      · exact stat I2 K Q (fun c h1 h => hI2 c (by omega) h) m4 hKc
      · intro k hk
        simp at hk
        rw [hI2 0 (by omega) (by decide), Q0, K0, x4, upd_ne (by omega), upd_ne (by omega), upd_ne (by omega), upd_ne (by omega)]
      · intro k hk
        have hk' := hk
        simp at hk'
        rw [hI72]
        unfold mE
        rw [upd_ne (by omega), upd_ne (by omega), upd_ne (by omega)]
        exact tk k hk
end RGT7
