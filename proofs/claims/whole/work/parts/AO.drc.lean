/-! ===== drawing: the call ===== -/
section DRC
variable {b : Nat} {F : Nat → Option AE} {D E : Nat → Option KD} {I : Nat → Nat → Int32} {L : Nat → Nat → Int64} {P : Nat → Nat → Option Nat} {nx us : Nat}
/-- the reference, up to its reading -/
theorem M_dr0 {z : ZX} {n tp w : Nat} (hp : ¬ (Int32.ofNat n < 0 ∨ Int32.ofNat tp < Int32.ofNat n)) (h1 : tp ≤ 400) (h3 : I 72 25 = Int32.ofNat tp) (hP : P 72 40 = some w) (hw : 93 ≤ w) (hK : kdf E w = some (.inr (12, true))) : f_X15_drawing z (ad b 72) (Int32.ofNat n) (lay b F E I L P nx us) = dTm z b (lay b F E (mB I w n) L P nx us) := by
  have ht := taped (b := b) (F := F) (E := E) (L := L) (P := P) (nx := nx) (us := us) (I := u2 I 72 (upd (I 72) 0 0)) (p := Int32.ofNat n) h1 (by simp (decide := true) only [u2_same, u2_ne, u2_u2, upd_same, upd_ne, mE, u2_dyn, dyn_u2, dyn_hi, u2_hi, u2_hj, u2_dynj, u2_dd, u2_d0, u2_0d]; exact h3)
  have hg : ∀ I : Nat → Nat → Int32, gA 15 (lay b F E I L P nx us) (ad b 72) 40 = some (ad b w) := fun I => by rw [gA_sP (by decide) (by decide) (by decide), hP]; rfl
  have hp1 : ∀ I : Nat → Nat → Int32, pI 12 (lay b F E I L P nx us) (ad b w) 0 0 = some (lay b F E (u2 I w (upd (I w) 0 0)) L P nx us) := fun I => pI_d hK (by decide)
  have hp2 : ∀ I : Nat → Nat → Int32, pI 12 (lay b F E I L P nx us) (ad b w) 1 0 = some (lay b F E (u2 I w (upd (I w) 1 0)) L P nx us) := fun I => pI_d hK (by decide)
  have hw7 : ∀ r : RW, u2 I 72 r w = I w := fun r => u2_ne (by omega)
  unfold mB
  simp (decide := true) only [b2_p, dT_eq, ht, hp, hg, hp1, hp2, hw7, isO_s, gI_s, gA_s, gL_s, pI_s, pZ_s, pL_s, aI_s, aL_s, aN_s, aQ_s, sI_s, sL_s, cr, LNs, Option.map_some, Option.map_none, Option.bind_some, tr, lt, if_true, if_false, ckZ, X_within, M_in, inR_z, X_refuse, X_tell, X_deny, X_grant, M_denied, M_granted, u2_same, u2_ne, u2_u2, upd_same, upd_ne, aW0, ixR_z, ixR_1, M_isWall, M_isPainter, M_isWork, X_has4, X_has10, X_at, or_false, false_or, or_true, true_or, not_true, not_false_iff, Option.isSome_some, isO_d, gI_d, gA_d, pI_d, ne_eq, not_false_eq_true, u2_hi, u2_hj, u2_dyn, u2_dynj, Nat.reduceAdd, mX_r, mX_rD, mX_rDj, mM_r, mX_u, mX_uM, mX_uD, mX_uDj, mM_u, mM_uX, mM_uD, mM_uDj, u2_dd, u2_d0, u2_0d]
theorem call_drawing {z : ZX} (p : Int32) {tp nd w a : Nat} {cd rd ow : Nat → Nat} (hz : GZ b F z) (hT : GTI I) (hn : Cn tp 400 (I 0 6) (I 72 25)) (hG : GTap (I 39) (I 91)) (hc : Cn nd 12 (I 0 10) (I 72 38)) (hD : GDr nd cd rd w E I L P ow) (hW : GDw w E P ow) (hY : TYp I) (hnx : nx = 149 + a) (hO : ∀ c, a ≤ c → ow c = 0) (r1 : a + 17 + 149 ≤ 601024) (r2 : us + 2540 ≤ 7293034) :
    ∃ E2 I2 L2 P2 a2 us2, ∃ ow2 : Nat → Nat, ∃ tp2 nd2, ∃ cd2 rd2 : Nat → Nat, ∃ w2, RunG b F (f_X11_drawing z (ad b 0) p) (f_X15_drawing z (ad b 72) p) E I L P nx us E2 I2 L2 P2 (149 + a2) us2 ∧ a ≤ a2 ∧ a2 ≤ a + 17 ∧ us2 ≤ us + 2540 ∧ GTI I2 ∧ Cn tp2 400 (I2 0 6) (I2 72 25) ∧ nd ≤ nd2 ∧ Cn nd2 12 (I2 0 10) (I2 72 38) ∧ GDr nd2 cd2 rd2 w2 E2 I2 L2 P2 ow2 ∧ GDw w2 E2 P2 ow2 ∧ TYp I2 ∧ (∀ c, a2 ≤ c → ow2 c = 0) ∧ FrDr a ow E I L P E2 I2 L2 P2 ow2 := by
  subst hnx
  obtain ⟨h1, h2, h3⟩ := hn
  obtain ⟨c12, c2, c3⟩ := hc
  obtain ⟨w1, w2, w3⟩ := hW
  have hwl := DT_lt hO w3
  have h93 : w = 93 ∨ 149 ≤ w := by
    rcases w3 with q | ⟨d', q, -⟩
    · exact Or.inl q
    · exact Or.inr (by omega)
  by_cases hp : (p < 0 ∨ Int32.ofNat tp < p)
  · have rI : ∀ c, c ≠ 0 → c ≠ 72 → rf I 2 c = I c := fun c q1 q2 => by unfold rf; rw [u2_ne q2, u2_ne q1]
    refine ⟨E, rf I 2, L, P, a, us, ow, tp, nd, cd, rd, w, ⟨-1, E, u2 I 0 (upd (I 0) 16 2), L, P, 149 + a, us, by (simp (decide := true) only [f_X11_drawing, h2, hp, isO_s, gI_s, gA_s, gL_s, pI_s, pZ_s, pL_s, aI_s, aL_s, aN_s, aQ_s, sI_s, sL_s, cr, LNs, Option.map_some, Option.map_none, Option.bind_some, b2, tr, lt, if_true, if_false, ckZ, X_within, M_in, inR_z, X_refuse, X_tell, X_deny, X_grant, M_refused, M_denied, M_done, M_granted, u2_same, u2_ne, u2_u2, upd_same, upd_ne, aW0, ixR_z, ixR_1, M_isWall, M_isPainter, M_isWork, X_has4, X_has10, X_at, or_false, false_or, or_true, true_or, not_true, not_false_iff, Option.isSome_some, isO_d, gI_d, gA_d, pI_d, ne_eq, not_false_eq_true, u2_hi, u2_hj, u2_dyn, u2_dynj, Nat.reduceAdd, mX_r, mX_rD, mX_rDj, mM_r, mX_u, mX_uM, mX_uD, mX_uDj, mM_u, mM_uX, mM_uD, mM_uDj, u2_dd, u2_d0, u2_0d]; try exact rfl), ?_⟩, Nat.le_refl _, by omega, by omega, rf_GT hT (by decide), ?_, Nat.le_refl _, ?_, ?_, ⟨w1, w2, w3⟩, TYp.fr (rI 46 (by decide) (by decide)) (rI 47 (by decide) (by decide)) (rI 48 (by decide) (by decide)) hY, hO, ?_⟩
    · have ht := taped (b := b) (F := F) (E := E) (L := L) (P := P) (nx := 149 + a) (us := us) (I := u2 (u2 I 0 (upd (I 0) 16 2)) 72 (upd (I 72) 0 0)) (p := p) h1 (by simp (decide := true) only [u2_same, u2_ne, u2_u2, upd_same, upd_ne, mE, u2_dyn, dyn_u2, dyn_hi, u2_hi, u2_hj, u2_dynj, u2_dd, u2_d0, u2_0d]; exact h3)
      simp (decide := true) only [b2_p, dT_eq, ht, hp, isO_s, gI_s, gA_s, gL_s, pI_s, pZ_s, pL_s, aI_s, aL_s, aN_s, aQ_s, sI_s, sL_s, cr, LNs, Option.map_some, Option.map_none, Option.bind_some, tr, lt, if_true, if_false, ckZ, X_within, M_in, inR_z, X_refuse, X_tell, X_deny, X_grant, M_refused, M_denied, M_done, M_granted, u2_same, u2_ne, u2_u2, upd_same, upd_ne, aW0, ixR_z, ixR_1, M_isWall, M_isPainter, M_isWork, X_has4, X_has10, X_at, or_false, false_or, or_true, true_or, not_true, not_false_iff, Option.isSome_some, isO_d, gI_d, gA_d, pI_d, ne_eq, not_false_eq_true, u2_hi, u2_hj, u2_dyn, u2_dynj, Nat.reduceAdd, mX_r, mX_rD, mX_rDj, mM_r, mX_u, mX_uM, mX_uD, mX_uDj, mM_u, mM_uX, mM_uD, mM_uDj, u2_dd, u2_d0, u2_0d]
      rfl
    · simp (decide := true) only [rf, u2_same, u2_ne, u2_u2, upd_same, upd_ne, mE, u2_dyn, dyn_u2, dyn_hi, u2_hi, u2_hj, u2_dynj, u2_dd, u2_d0, u2_0d]; exact ⟨h1, h2, h3⟩
    · simp (decide := true) only [rf, u2_same, u2_ne, u2_u2, upd_same, upd_ne, mE, u2_dyn, dyn_u2, dyn_hi, u2_hi, u2_hj, u2_dynj, u2_dd, u2_d0, u2_0d]; exact ⟨c12, c2, c3⟩
    · intro d hd
      have k := GDr_keep hO hD w3 (fun _ _ => rfl) (fun _ _ => rfl) (fun c q1 _ _ _ => ⟨rI c (by omega) (by omega), rfl⟩) (fun _ _ => ⟨rfl, rfl⟩) d hd
      exact ⟨(hD d hd).1, k.2⟩
    · refine FrDr_mk hO w3 (fun _ _ => rfl) (fun c _ q1 _ _ _ _ _ _ _ _ _ _ q2 _ _ _ => rI c q1 q2) (fun _ _ _ _ _ _ => rfl) (fun _ _ => rfl) (fun _ _ _ _ _ => rfl) (fun _ _ => rfl) (fun _ _ => rfl) (fun k hk => ?_) (fun k hk => ?_)
      · simp at hk
        unfold rf
        rw [u2_ne (by decide), u2_same, upd_ne (by omega)]
      · simp at hk
        unfold rf mE
        rw [u2_same, upd_ne (by omega), upd_ne (by omega), upd_ne (by omega)]
  obtain ⟨n, hn, rfl⟩ := lo_of hp (by omega)
  have hn4 : n ≤ 400 := by omega
  have hBY := GTap_BY hG hn4
  obtain ⟨J, M, C, N0, la, x1, x2, x3, x4, x5, x6, x7, x8, x9⟩ := X_drawR (b := b) (F := F) (E := E) (L := L) (P := P) (nx := 149 + a) (us := us) (I := I) (z := z) (n := n) (D := mD I L w) hz hn4 hG ⟨rfl, rfl, rfl⟩
  have hJ : ∀ c, 72 ≤ c → c ≠ 148 → J c = I c := fun c hc h8 => x4 c (by omega) (by omega) (by omega) (by omega) (by omega) (by omega) (by omega) (by omega) (by omega) (by omega) (by omega) h8
  have hTJ := x6 hY
  let J1 : Nat → Nat → Int32 := u2 J 0 (upd (upd (J 0) 17 (J 40 5)) 18 (J 40 6))
  have hX : f_X11_drawing z (ad b 0) (Int32.ofNat n) (lay b F E I L P (149 + a) us) = (if J 40 5 = 0 then xTl b (lay b F E J1 M P (149 + a) us) else some (-1, lay b F E (u2 J 0 (upd (upd (upd (J 0) 17 (J 40 5)) 18 (J 40 6)) 16 4)) M P (149 + a) us)) := by
    simp (decide := true) only [b2_p, xT_eq, f_X11_noteFault, h2, hp, x1, x2, isO_s, gI_s, gA_s, gL_s, pI_s, pZ_s, pL_s, aI_s, aL_s, aN_s, aQ_s, sI_s, sL_s, cr, LNs, Option.map_some, Option.map_none, Option.bind_some, tr, lt, if_true, if_false, ckZ, X_within, M_in, inR_z, X_refuse, X_deny, X_grant, M_refused, M_denied, M_done, M_granted, u2_same, u2_ne, u2_u2, upd_same, upd_ne, aW0, ixR_z, ixR_1, M_isWall, M_isPainter, M_isWork, X_has4, X_has10, X_at, or_false, false_or, or_true, true_or, not_true, not_false_iff, Option.isSome_some, isO_d, gI_d, gA_d, pI_d, ne_eq, not_false_eq_true, u2_hi, u2_hj, u2_dyn, u2_dynj, Nat.reduceAdd, mX_r, mX_rD, mX_rDj, mM_r, mX_u, mX_uM, mX_uD, mX_uDj, mM_u, mM_uX, mM_uD, mM_uDj, u2_dd, u2_d0, u2_0d]
    rfl
  have h91 : ∀ k, k < n → I 91 k = I 39 k := fun k hk => (hG k (by omega)).1.symm
  -- the reference from a state that the class has left
  have hMr : ∀ (E' : Nat → Option KD) (K : Nat → Nat → Int32) (M' : Nat → Nat → Int64) (P' : Nat → Nat → Option Nat) (nx' us' : Nat), (∀ c, 72 ≤ c → c < 149 + a → c ≠ 148 → K c = I c ∧ M' c = L c) → P' 72 40 = some w → K12 E' w → f_X15_drawing z (ad b 72) (Int32.ofNat n) (lay b F E' K M' P' nx' us') = dTm z b (lay b F E' (mB K w n) M' P' nx' us') ∧ (match dAll (I 39) n (mD I L w) with
      | .inl (c, j) => ∃ J M, dTm z b (lay b F E' (mB K w n) M' P' nx' us') = dTf b (lay b F E' J M P' nx' us') (ad b 90) ∧ J 90 6 = c ∧ J 90 7 = Int32.ofNat (pl (I 39) n j) ∧ FDd w (mB K w n) J M' M
      | .inr (_, D1) => ∃ J M, dTm z b (lay b F E' (mB K w n) M' P' nx' us') = dTl b (lay b F E' J M P' nx' us') ∧ FDd w (mB K w n) J M' M ∧ J w 0 = Int32.ofNat D1.1 ∧ J w 1 = Int32.ofNat D1.2.2.1 ∧ (∀ j, 1 ≤ j → j ≤ 10 → J (w + j) = D1.2.2.2.1 j) ∧ M (w + 11) = D1.2.2.2.2) := by
    intro E' K M' P' nx' us' hK hP' hK'
    have e : mD K M' w = mD I L w := by
      unfold mD
      have e1 : (fun j => if 1 ≤ j ∧ j ≤ 10 then K (w + j) else fun _ => (0 : Int32)) = fun j => if 1 ≤ j ∧ j ≤ 10 then I (w + j) else fun _ => 0 := by
        funext j
        by_cases hj : 1 ≤ j ∧ j ≤ 10
        · rw [if_pos hj, if_pos hj, (hK _ (by omega) (by omega) (by omega)).1]
        · rw [if_neg hj, if_neg hj]
      rw [e1, (hK _ (by omega) (by omega) (by omega)).2]
    refine ⟨M_dr0 hp h1 (by rw [(hK 72 (by omega) (by omega) (by omega)).1]; exact h3) hP' hwl.1 hK'.1, ?_⟩
    have y := M_drawR (b := b) (F := F) (E := E') (I := K) (L := M') (P := P') (nx := nx') (us := us') (n := n) (nd := w) (t := I 39) hz hn4 hBY (by rw [(hK 91 (by omega) (by omega) (by omega)).1]; exact h91) hwl.1 hP' hK' x8 x9
    rw [e] at y
    exact y
  have b72 : ∀ K : Nat → Nat → Int32, mB K w n 72 = upd (upd (upd (upd (upd (upd (upd (upd (upd (K 72) 0 0) 26 (Int32.ofNat n)) 25 0) 27 0) 3 0) 36 0) 33 0) 34 0) 35 0 := fun K => by unfold mB; rw [u2_ne (by omega), u2_same]
  have bc : ∀ (K : Nat → Nat → Int32) (c : Nat), c ≠ 72 → c ≠ w → mB K w n c = K c := fun K c q1 q2 => by unfold mB; rw [u2_ne q2, u2_ne q1]
  -- what the reference's reading leaves
  have hQ : ∀ (K Q : Nat → Nat → Int32) (M' N : Nat → Nat → Int64), FDd w (mB K w n) Q M' N → K 72 = I 72 → (∀ c, c ≠ 72 → c ≠ 90 → (c < w ∨ w + 11 ≤ c) → Q c = K c) ∧ Q 72 25 = 0 ∧ Q 72 3 = 0 ∧ Q 72 38 = I 72 38 ∧ (∀ k, [0, 1, 2, 3, 25, 26, 27, 28, 29, 30, 31, 32, 33, 34, 35, 36, 38].contains k = false → Q 72 k = I 72 k) := by
    intro K Q M' N hF hK
    obtain ⟨f1, f2, f3, f4⟩ := hF
    refine ⟨fun c q1 q2 q3 => by rw [f1 c q1 q2 q3, bc K c q1 (by omega)], ?_, ?_, ?_, fun k hk => ?_⟩
    · rw [f2 25 (by omega), b72]; simp (decide := true) only [u2_same, u2_ne, u2_u2, upd_same, upd_ne, mE, u2_dyn, dyn_u2, dyn_hi, u2_hi, u2_hj, u2_dynj, u2_dd, u2_d0, u2_0d]
    · rw [f2 3 (by omega), b72]; simp (decide := true) only [u2_same, u2_ne, u2_u2, upd_same, upd_ne, mE, u2_dyn, dyn_u2, dyn_hi, u2_hi, u2_hj, u2_dynj, u2_dd, u2_d0, u2_0d]
    · rw [f2 38 (by omega), b72, hK]; simp (decide := true) only [u2_same, u2_ne, u2_u2, upd_same, upd_ne, mE, u2_dyn, dyn_u2, dyn_hi, u2_hi, u2_hj, u2_dynj, u2_dd, u2_d0, u2_0d]
    · simp at hk
      rw [f2 k (by omega), b72, hK, upd_ne (by omega), upd_ne (by omega), upd_ne (by omega), upd_ne (by omega), upd_ne (by omega), upd_ne (by omega), upd_ne (by omega), upd_ne (by omega), upd_ne (by omega)]
  cases hout : dAll (I 39) n (mD I L w) with
  | inl q =>
    obtain ⟨c, j⟩ := q
    rw [hout] at x7
    obtain ⟨d1, d2, d3⟩ := x7
    let K : Nat → Nat → Int32 := u2 J 0 (upd (upd (upd (J 0) 17 (J 40 5)) 18 (J 40 6)) 16 4)
    have hKJ : ∀ c, c ≠ 0 → K c = J c := fun c h => u2_ne h
    have K0 : K 0 = upd (upd (upd (J 0) 17 (J 40 5)) 18 (J 40 6)) 16 4 := u2_same _ _ _
    obtain ⟨m0, m1⟩ := hMr E K M P (149 + a) us (fun c q1 _ q8 => ⟨(hKJ c (by omega)).trans (hJ c q1 q8), x3 c (by omega) (by omega)⟩) w1 w2
    rw [hout] at m1
    obtain ⟨Q, N, m2, m3, m4, m5⟩ := m1
    obtain ⟨q1, q2, q3, q4, q5⟩ := hQ K Q M N m5 ((hKJ 72 (by decide)).trans (hJ 72 (by decide) (by decide)))
    have Q0 : Q 0 = K 0 := q1 0 (by decide) (by decide) (by omega)
    let I2 : Nat → Nat → Int32 := u2 Q 72 (upd (upd (upd (Q 72) 3 c) 1 4) 2 (Int32.ofNat (pl (I 39) n j)))
    have hI2 : ∀ c, c ≠ 72 → I2 c = Q c := fun c hc => u2_ne hc
    have hI72 : I2 72 = upd (upd (upd (Q 72) 3 c) 1 4) 2 (Int32.ofNat (pl (I 39) n j)) := u2_same _ _ _
    have big : ∀ x, x < 149 + a → x ≠ 0 → x ≠ 40 → x ≠ 41 → x ≠ 42 → x ≠ 44 → x ≠ 45 → x ≠ 46 → x ≠ 47 → x ≠ 48 → x ≠ 50 → x ≠ 51 → x ≠ 72 → x ≠ 90 → x ≠ 148 → (x < w ∨ w + 11 ≤ x) → I2 x = I x := fun x _ y0 y1 y2 y3 y4 y5 y6 y7 y8 y9 ya yb yc ye yd => by rw [hI2 x yb, q1 x yb yc yd, hKJ x y0, x4 x y0 y1 y2 y3 y4 y5 y6 y7 y8 y9 ya ye]
    have bigL : ∀ x, x < 149 + a → x ≠ 43 → x ≠ 49 → x ≠ 72 → x ≠ w + 11 → N x = L x := fun x _ y0 y1 y2 y3 => by rw [m5.2.2.1 x y2 y3, x3 x y0 y1]
    refine ⟨E, I2, N, P, a, us, ow, 0, nd, cd, rd, w, ⟨-1, E, K, M, P, 149 + a, us, ?_, ?_⟩, Nat.le_refl _, by omega, by omega, ?_, ?_, Nat.le_refl _, ?_, ?_, ⟨w1, w2, w3⟩, ?_, hO, ?_⟩
    · rw [hX, d1, if_neg d3]
      show some (-1, lay b F E (u2 J 0 (upd (upd (upd (J 0) 17 c) 18 (J 40 6)) 16 4)) M P (149 + a) us) = some (-1, lay b F E (u2 J 0 (upd (upd (upd (J 0) 17 (J 40 5)) 18 (J 40 6)) 16 4)) M P (149 + a) us)
      rw [d1]
    · rw [m0, m2]
      unfold dTf
      have ho : ckO 14 (lay b F E Q N P (149 + a) us) (ad b 90) = some () := by unfold ckO; rw [isO_s (by decide)]; rfl
      simp (decide := true) only [ho, f_X15_faulty, m3, m4, isO_s, gI_s, gA_s, gL_s, pI_s, pZ_s, pL_s, aI_s, aL_s, aN_s, aQ_s, sI_s, sL_s, cr, LNs, Option.map_some, Option.map_none, Option.bind_some, b2, tr, lt, if_true, if_false, ckZ, X_within, M_in, inR_z, X_refuse, X_tell, X_deny, X_grant, M_refused, M_denied, M_done, M_granted, u2_same, u2_ne, u2_u2, upd_same, upd_ne, aW0, ixR_z, ixR_1, M_isWall, M_isPainter, M_isWork, X_has4, X_has10, X_at, or_false, false_or, or_true, true_or, not_true, not_false_iff, Option.isSome_some, isO_d, gI_d, gA_d, pI_d, ne_eq, not_false_eq_true, u2_hi, u2_hj, u2_dyn, u2_dynj, Nat.reduceAdd, mX_r, mX_rD, mX_rDj, mM_r, mX_u, mX_uM, mX_uD, mX_uDj, mM_u, mM_uX, mM_uD, mM_uDj, u2_dd, u2_d0, u2_0d]
      rfl
    · unfold GTI
      rw [hI2 0 (by decide), Q0, K0, hI72, d1, d2]
      simp (decide := true) only [u2_same, u2_ne, u2_u2, upd_same, upd_ne, mE, u2_dyn, dyn_u2, dyn_hi, u2_hi, u2_hj, u2_dynj, u2_dd, u2_d0, u2_0d]
      exact ⟨rfl, rfl, rfl⟩
    · rw [hI2 0 (by decide), Q0, K0, hI72, x5]
      simp (decide := true) only [u2_same, u2_ne, u2_u2, upd_same, upd_ne, mE, u2_dyn, dyn_u2, dyn_hi, u2_hi, u2_hj, u2_dynj, u2_dd, u2_d0, u2_0d]
      exact ⟨by omega, rfl, q2⟩
    · rw [hI2 0 (by decide), Q0, K0, hI72, x5]
      simp (decide := true) only [u2_same, u2_ne, u2_u2, upd_same, upd_ne, mE, u2_dyn, dyn_u2, dyn_hi, u2_hi, u2_hj, u2_dynj, u2_dd, u2_d0, u2_0d]
      exact ⟨c12, c2, q4.trans c3⟩
    · intro d hd
      have k := GDr_keep hO hD w3 (fun _ _ => rfl) (fun _ _ => rfl) (E2 := E) (I2 := I2) (L2 := N) (P2 := P) (fun x y1 y2 y4 y3 => ⟨big x y2 (by omega) (by omega) (by omega) (by omega) (by omega) (by omega) (by omega) (by omega) (by omega) (by omega) (by omega) (by omega) (by omega) y4 (by omega), bigL x y2 (by omega) (by omega) (by omega) (by omega)⟩) (fun _ _ => ⟨rfl, rfl⟩) d hd
      exact ⟨(hD d hd).1, k.2⟩
    · refine TYp.fr ?_ ?_ ?_ hTJ
      · rw [hI2 46 (by decide), q1 46 (by decide) (by decide) (by omega), hKJ 46 (by decide)]
      · rw [hI2 47 (by decide), q1 47 (by decide) (by decide) (by omega), hKJ 47 (by decide)]
      · rw [hI2 48 (by decide), q1 48 (by decide) (by decide) (by omega), hKJ 48 (by decide)]
    · refine FrDr_mk hO w3 (fun _ _ => rfl) big bigL (fun j hj => by rw [m5.2.2.2 j hj, x3 72 (by decide) (by decide)]) (fun _ _ _ _ _ => rfl) (fun _ _ => rfl) (fun _ _ => rfl) (fun k hk => ?_) (fun k hk => ?_)
      · simp at hk
        rw [hI2 0 (by decide), Q0, K0, x5, upd_ne (by omega), upd_ne (by omega), upd_ne (by omega), upd_ne (by omega)]
      · have hk' := hk
        simp at hk'
        rw [hI72, upd_ne (by omega), upd_ne (by omega), upd_ne (by omega)]
        exact q5 k hk
  | inr q =>
    obtain ⟨i, D1⟩ := q
    rw [hout] at x7
    obtain ⟨d1, dl, wc, d2, d3, d4, d5, d6, d7, d8, d9⟩ := x7
    have J10 : J1 0 = upd (upd (J 0) 17 (J 40 5)) 18 (J 40 6) := u2_same _ _ _
    have hJ1 : ∀ c, c ≠ 0 → J1 c = J c := fun c h => u2_ne h
    have hJ010 : J1 0 10 = Int32.ofNat nd := by rw [J10, x5]; simp (decide := true) only [u2_same, u2_ne, u2_u2, upd_same, upd_ne, mE, u2_dyn, dyn_u2, dyn_hi, u2_hi, u2_hj, u2_dynj, u2_dd, u2_d0, u2_0d]; exact c2
    by_cases h12 : nd = 12
    · let K : Nat → Nat → Int32 := u2 J1 0 (upd (J1 0) 16 3)
      have hKJ : ∀ c, c ≠ 0 → K c = J c := fun c h => (u2_ne h).trans (hJ1 c h)
      have K0 : K 0 = upd (upd (upd (J 0) 17 (J 40 5)) 18 (J 40 6)) 16 3 := (u2_same _ _ _).trans (by rw [J10])
      obtain ⟨m0, m1⟩ := hMr E K M P (149 + a) us (fun c q1 _ q8 => ⟨(hKJ c (by omega)).trans (hJ c q1 q8), x3 c (by omega) (by omega)⟩) w1 w2
      rw [hout] at m1
      obtain ⟨Q, N, m2, m5, -⟩ := m1
      obtain ⟨q1, q2, q3, q4, q5⟩ := hQ K Q M N m5 ((hKJ 72 (by decide)).trans (hJ 72 (by decide) (by decide)))
      have Q0 : Q 0 = K 0 := q1 0 (by decide) (by decide) (by omega)
      let I2 : Nat → Nat → Int32 := u2 Q 72 (mE (Q 72) 3)
      have hI2 : ∀ c, c ≠ 72 → I2 c = Q c := fun c hc => u2_ne hc
      have hI72 : I2 72 = mE (Q 72) 3 := u2_same _ _ _
      have big : ∀ x, x < 149 + a → x ≠ 0 → x ≠ 40 → x ≠ 41 → x ≠ 42 → x ≠ 44 → x ≠ 45 → x ≠ 46 → x ≠ 47 → x ≠ 48 → x ≠ 50 → x ≠ 51 → x ≠ 72 → x ≠ 90 → x ≠ 148 → (x < w ∨ w + 11 ≤ x) → I2 x = I x := fun x _ y0 y1 y2 y3 y4 y5 y6 y7 y8 y9 ya yb yc ye yd => by rw [hI2 x yb, q1 x yb yc yd, hKJ x y0, x4 x y0 y1 y2 y3 y4 y5 y6 y7 y8 y9 ya ye]
      have bigL : ∀ x, x < 149 + a → x ≠ 43 → x ≠ 49 → x ≠ 72 → x ≠ w + 11 → N x = L x := fun x _ y0 y1 y2 y3 => by rw [m5.2.2.1 x y2 y3, x3 x y0 y1]
      have e9 : (Int32.ofNat nd < 12) = False := by rw [h12]; decide
      have e8 : (Int32.ofNat nd = 12) = True := by rw [h12]; decide
      refine ⟨E, I2, N, P, a, us, ow, 0, nd, cd, rd, w, ⟨-1, E, K, M, P, 149 + a, us, ?_, ?_⟩, Nat.le_refl _, by omega, by omega, ?_, ?_, Nat.le_refl _, ?_, ?_, ⟨w1, w2, w3⟩, ?_, hO, ?_⟩
      · rw [hX, if_pos d1]
        unfold xTl
        simp (decide := true) only [b2_p, hJ010, e9, isO_s, gI_s, gA_s, gL_s, pI_s, pZ_s, pL_s, aI_s, aL_s, aN_s, aQ_s, sI_s, sL_s, cr, LNs, Option.map_some, Option.map_none, Option.bind_some, tr, lt, if_true, if_false, ckZ, X_within, M_in, inR_z, X_refuse, X_tell, X_deny, X_grant, M_refused, M_denied, M_done, M_granted, u2_same, u2_ne, u2_u2, upd_same, upd_ne, aW0, ixR_z, ixR_1, M_isWall, M_isPainter, M_isWork, X_has4, X_has10, X_at, or_false, false_or, or_true, true_or, not_true, not_false_iff, Option.isSome_some, isO_d, gI_d, gA_d, pI_d, ne_eq, not_false_eq_true, u2_hi, u2_hj, u2_dyn, u2_dynj, Nat.reduceAdd, mX_r, mX_rD, mX_rDj, mM_r, mX_u, mX_uM, mX_uD, mX_uDj, mM_u, mM_uX, mM_uD, mM_uDj, u2_dd, u2_d0, u2_0d]
        rfl
      · rw [m0, m2]
        unfold dTl
        have q38 : Q 72 38 = Int32.ofNat nd := q4.trans c3
        simp (decide := true) only [b2_p, q38, e8, isO_s, gI_s, gA_s, gL_s, pI_s, pZ_s, pL_s, aI_s, aL_s, aN_s, aQ_s, sI_s, sL_s, cr, LNs, Option.map_some, Option.map_none, Option.bind_some, tr, lt, if_true, if_false, ckZ, X_within, M_in, inR_z, X_refuse, X_tell, X_deny, X_grant, M_refused, M_denied, M_done, M_granted, u2_same, u2_ne, u2_u2, upd_same, upd_ne, aW0, ixR_z, ixR_1, M_isWall, M_isPainter, M_isWork, X_has4, X_has10, X_at, or_false, false_or, or_true, true_or, not_true, not_false_iff, Option.isSome_some, isO_d, gI_d, gA_d, pI_d, ne_eq, not_false_eq_true, u2_hi, u2_hj, u2_dyn, u2_dynj, Nat.reduceAdd, mX_r, mX_rD, mX_rDj, mM_r, mX_u, mX_uM, mX_uD, mX_uDj, mM_u, mM_uX, mM_uD, mM_uDj, u2_dd, u2_d0, u2_0d]
        rfl
      · unfold GTI
        rw [hI2 0 (by decide), Q0, K0, hI72, d1]
        simp (decide := true) only [q3, u2_same, u2_ne, u2_u2, upd_same, upd_ne, mE, u2_dyn, dyn_u2, dyn_hi, u2_hi, u2_hj, u2_dynj, u2_dd, u2_d0, u2_0d]
        exact ⟨rfl, rfl, rfl⟩
      · rw [hI2 0 (by decide), Q0, K0, hI72, x5]
        simp (decide := true) only [u2_same, u2_ne, u2_u2, upd_same, upd_ne, mE, u2_dyn, dyn_u2, dyn_hi, u2_hi, u2_hj, u2_dynj, u2_dd, u2_d0, u2_0d]
        exact ⟨by omega, rfl, q2⟩
      · rw [hI2 0 (by decide), Q0, K0, hI72, x5]
        simp (decide := true) only [u2_same, u2_ne, u2_u2, upd_same, upd_ne, mE, u2_dyn, dyn_u2, dyn_hi, u2_hi, u2_hj, u2_dynj, u2_dd, u2_d0, u2_0d]
        exact ⟨c12, c2, q4.trans c3⟩
      · intro d hd
        have k := GDr_keep hO hD w3 (fun _ _ => rfl) (fun _ _ => rfl) (E2 := E) (I2 := I2) (L2 := N) (P2 := P) (fun x y1 y2 y4 y3 => ⟨big x y2 (by omega) (by omega) (by omega) (by omega) (by omega) (by omega) (by omega) (by omega) (by omega) (by omega) (by omega) (by omega) (by omega) y4 (by omega), bigL x y2 (by omega) (by omega) (by omega) (by omega)⟩) (fun _ _ => ⟨rfl, rfl⟩) d hd
        exact ⟨(hD d hd).1, k.2⟩
      · refine TYp.fr ?_ ?_ ?_ hTJ
        · rw [hI2 46 (by decide), q1 46 (by decide) (by decide) (by omega), hKJ 46 (by decide)]
        · rw [hI2 47 (by decide), q1 47 (by decide) (by decide) (by omega), hKJ 47 (by decide)]
        · rw [hI2 48 (by decide), q1 48 (by decide) (by decide) (by omega), hKJ 48 (by decide)]
      · refine FrDr_mk hO w3 (fun _ _ => rfl) big bigL (fun j hj => by rw [m5.2.2.2 j hj, x3 72 (by decide) (by decide)]) (fun _ _ _ _ _ => rfl) (fun _ _ => rfl) (fun _ _ => rfl) (fun k hk => ?_) (fun k hk => ?_)
        · simp at hk
          rw [hI2 0 (by decide), Q0, K0, x5, upd_ne (by omega), upd_ne (by omega), upd_ne (by omega), upd_ne (by omega)]
        · have hk' := hk
          simp at hk'
          rw [hI72]
          unfold mE
          rw [upd_ne (by omega), upd_ne (by omega)]
          exact q5 k hk
    · have hnd : nd < 12 := by omega
      obtain ⟨K, M5, P5, v1, v2, v3, v4, v5, v6, v7, v8, v9, va⟩ := X_keepD (b := b) (F := F) (E := E) (I := J1) (L := M) (P := P) (us := us) (a := a) hnd hJ010 (TYp.fr (hJ1 46 (by decide)) (hJ1 47 (by decide)) (hJ1 48 (by decide)) hTJ) (by rw [hJ1 45 (by decide)]; exact d2) (by rw [hJ1 45 (by decide)]; exact d3) d5 d6 (by omega) (by omega)
      have hKJ : ∀ c, c ≠ 0 → c < 149 + a → K c = J c := fun c h h' => (v3 c h' h).trans (hJ1 c h)
      have kE : ∀ c, c < 149 + a → cdE E a dl wc c = E c := fun c hc => by unfold cdE; rw [u2_ne (by omega), u2_ne (by omega), u2_ne (by omega), u2_ne (by omega), u2_ne (by omega)]
      have kdE : ∀ c, c < 149 + a → kdf (cdE E a dl wc) c = kdf E c := fun c hc => by unfold kdf; rw [kE c hc]
      obtain ⟨m0, m1⟩ := hMr (cdE E a dl wc) K M5 P5 (149 + (a + 5)) (us + 6 + dl + dl + dl + wc) (fun c q1 q2 q8 => ⟨(hKJ c (by omega) q2).trans (hJ c q1 q8), (v2 c q2).trans (x3 c (by omega) (by omega))⟩) (by rw [v5 72 (by omega) (by decide)]; exact w1) (K12_fr (fun j hj => kdE _ (by omega)) w2)
      rw [hout] at m1
      obtain ⟨Q, N, m2, m5, m6, m7, m8, m9⟩ := m1
      obtain ⟨q1, q2, q3, q4, q5⟩ := hQ K Q M5 N m5 ((hKJ 72 (by decide) (by omega)).trans (hJ 72 (by decide) (by decide)))
      have Q0 : Q 0 = K 0 := q1 0 (by decide) (by decide) (by omega)
      obtain ⟨E2, I2, L2, P2, t1, t2, t3, t4, t5, t6, t7, t8, t9, ta⟩ := M_keepD (b := b) (F := F) (E := cdE E a dl wc) (I := Q) (L := N) (P := P5) (us := us + 6 + dl + dl + dl + wc) (a := a + 5) (w := w) hnd (q4.trans c3) (by rw [v5 72 (by omega) (by decide)]; exact w1) ((kdE w (by omega)).trans w2.1) (by omega) (by omega)
      have big : ∀ x, x < 149 + a → x ≠ 0 → x ≠ 40 → x ≠ 41 → x ≠ 42 → x ≠ 44 → x ≠ 45 → x ≠ 46 → x ≠ 47 → x ≠ 48 → x ≠ 50 → x ≠ 51 → x ≠ 72 → x ≠ 90 → x ≠ 148 → (x < w ∨ w + 11 ≤ x) → I2 x = I x := fun x yl y0 y1 y2 y3 y4 y5 y6 y7 y8 y9 ya yb yc ye yd => by rw [t5 x (by omega) yb, q1 x yb yc yd, hKJ x y0 yl, x4 x y0 y1 y2 y3 y4 y5 y6 y7 y8 y9 ya ye]
      have bigL : ∀ x, x < 149 + a → x ≠ 43 → x ≠ 49 → x ≠ 72 → x ≠ w + 11 → L2 x = L x := fun x yl y0 y1 y2 y3 => by rw [t4 x (by omega), m5.2.2.1 x y2 y3, v2 x yl, x3 x y0 y1]
      have kE2 : ∀ c, c < 149 + a → kdf E2 c = kdf E c := fun c hc => (t2 c (by omega)).trans (kdE c hc)
      let ow2 : Nat → Nat := fun c => if a ≤ c ∧ c < a + 5 then 12 else if a + 5 ≤ c ∧ c < a + 17 then 11 else ow c
      have owl : ∀ c, c < a → ow2 c = ow c := fun c hc => by show (if _ then _ else _) = _; rw [if_neg (by omega), if_neg (by omega)]
      let cd2 : Nat → Nat := fun d => if d = nd then 149 + a else cd d
      let rd2 : Nat → Nat := fun d => if d = nd then w else rd d
      have cdn : cd2 nd = 149 + a := if_pos rfl
      have rdn : rd2 nd = w := if_pos rfl
      have cdl : ∀ d, d < nd → cd2 d = cd d := fun d hd => if_neg (by omega)
      have rdl : ∀ d, d < nd → rd2 d = rd d := fun d hd => if_neg (by omega)
      have I0 : I2 0 = upd (upd (upd (upd (J 0) 17 (J 40 5)) 18 (J 40 6)) 10 (Int32.ofNat (nd + 1))) 16 0 := by rw [t5 0 (by omega) (by decide), Q0, v4, J10]
      refine ⟨E2, I2, L2, P2, a + 17, us + 6 + dl + dl + dl + wc + 1413, ow2, 0, nd + 1, cd2, rd2, 149 + (a + 5), ⟨Int32.ofNat nd, cdE E a dl wc, K, M5, P5, 149 + (a + 5), us + 6 + dl + dl + dl + wc, ?_, ?_⟩, by omega, Nat.le_refl _, by omega, ?_, ?_, by omega, ?_, ?_, ?_, ?_, ?_, ?_⟩
      · rw [hX, if_pos d1, v1]
        rfl
      · rw [m0, m2, t1]
        rfl
      · unfold GTI
        rw [I0, t6, d1]
        simp (decide := true) only [q3, u2_same, u2_ne, u2_u2, upd_same, upd_ne, mE, u2_dyn, dyn_u2, dyn_hi, u2_hi, u2_hj, u2_dynj, u2_dd, u2_d0, u2_0d]
        exact ⟨rfl, rfl, rfl⟩
      · rw [I0, t6, x5]
        simp (decide := true) only [u2_same, u2_ne, u2_u2, upd_same, upd_ne, mE, u2_dyn, dyn_u2, dyn_hi, u2_hi, u2_hj, u2_dynj, u2_dd, u2_d0, u2_0d]
        exact ⟨by omega, rfl, q2⟩
      · rw [I0, t6]
        simp (decide := true) only [u2_same, u2_ne, u2_u2, upd_same, upd_ne, mE, u2_dyn, dyn_u2, dyn_hi, u2_hi, u2_hj, u2_dynj, u2_dd, u2_d0, u2_0d]
        exact ⟨by omega, rfl, rfl⟩
      · intro d hd
        by_cases hdn : d = nd
        · subst hdn
          rw [cdn, rdn, t8, t7 52 (by omega) (by decide) (by decide), v6]
          refine ⟨Or.inl (by omega), vup_same _ _ _, vup_same _ _ _, K12_fr (fun j hj => kE2 _ (by omega)) w2, DT_ow hO owl w3, ⟨a, rfl, fun j hj => if_pos (by omega)⟩, dl, wc, D1.1, D1.2.2.1, ?_⟩
          have ce : ∀ j, j < 5 → cdE E a dl wc (149 + a + j) = (if j = 0 then some (.inr (1, true)) else if j = 1 then some (.inl (1, dl)) else if j = 4 then some (.inl (4, wc)) else some (.inl (3, dl))) := by
            intro j hj
            unfold cdE
            rcases (show j = 0 ∨ j = 1 ∨ j = 2 ∨ j = 3 ∨ j = 4 by omega) with rfl | rfl | rfl | rfl | rfl
            · rw [u2_ne (by omega), u2_ne (by omega), u2_ne (by omega), u2_ne (by omega)]; exact u2_same _ _ _
            · rw [u2_ne (by omega), u2_ne (by omega), u2_ne (by omega), u2_same]; rfl
            · rw [u2_ne (by omega), u2_ne (by omega), u2_same]; rfl
            · rw [u2_ne (by omega), u2_same]; rfl
            · rw [u2_same]; rfl
          have ck : ∀ j, j < 5 → kdf E2 (149 + a + j) = (if j = 0 then some (.inr (1, true)) else if j = 1 then some (.inl (1, dl)) else if j = 4 then some (.inl (4, wc)) else some (.inl (3, dl))) := fun j hj => by rw [t2 _ (by omega), kdf_E (by omega)]; exact ce j hj
          have ci : ∀ j, j < 5 → I2 (149 + a + j) = K (149 + a + j) := fun j hj => by rw [t5 _ (by omega) (by omega), q1 _ (by omega) (by omega) (by omega)]
          have cl : L2 (149 + a + 4) = M5 (149 + a + 4) := by rw [t4 _ (by omega), m5.2.2.1 _ (by omega) (by omega)]
          have wr : ∀ j, j < 11 → I2 (w + j) = Q (w + j) := fun j hj => t5 _ (by omega) (by omega)
          have w0 := wr 0 (by decide)
          rw [Nat.add_zero] at w0
          have c0 := ci 0 (by decide)
          rw [Nat.add_zero] at c0
          refine ⟨ck 0 (by decide), ck 1 (by decide), ck 2 (by decide), ck 3 (by decide), ck 4 (by decide), by rw [c0]; exact v7, by rw [c0]; exact v8, by rw [w0]; exact m6, by rw [w0]; exact m7, d4, d5, d6, d7, d8, ?_⟩
          refine Blk_fr (Nat.le_refl _) (Nat.le_refl _) 40 6 0 D1.1 0 dl ⟨fun j j1 j2 x _ _ => ?_, fun x _ _ => ⟨?_, ?_⟩, fun x _ => ⟨?_, ?_⟩, fun x _ _ => ?_, fun j _ j2 => ⟨?_, ?_, ?_⟩, fun k k2 => ?_⟩ d9
          · show I2 (w + j) x = D1.2.2.2.1 j x
            rw [wr j (by omega), m8 j j1 (by omega)]
          · show I2 (w + 7) x = D1.2.2.2.1 7 x
            rw [wr 7 (by decide), m8 7 (by decide) (by decide)]
          · show I2 (w + 8) x = D1.2.2.2.1 8 x
            rw [wr 8 (by decide), m8 8 (by decide) (by decide)]
          · show I2 (w + 9) x = D1.2.2.2.1 9 x
            rw [wr 9 (by decide), m8 9 (by decide) (by decide)]
          · show I2 (w + 10) x = D1.2.2.2.1 10 x
            rw [wr 10 (by decide), m8 10 (by decide) (by decide)]
          · show L2 (w + 11) x = D1.2.2.2.2 x
            rw [t4 _ (by omega), m9]
          · show I2 (149 + a + 1) j = J 46 j
            rw [ci 1 (by decide), (v9 j j2).1, hJ1 46 (by decide)]
          · show I2 (149 + a + 2) j = J 47 j
            rw [ci 2 (by decide), (v9 j j2).2.1, hJ1 47 (by decide)]
          · show I2 (149 + a + 3) j = J 48 j
            rw [ci 3 (by decide), (v9 j j2).2.2, hJ1 48 (by decide)]
          · show L2 (149 + a + 4) k = M 49 k
            rw [cl, va k k2]
        · have hd' : d < nd := by omega
          have k := GDr_keep hO hD w3 owl kE2 (E2 := E2) (I2 := I2) (L2 := L2) (P2 := P2) (fun x y1 y2 y4 y3 => ⟨big x y2 (by omega) (by omega) (by omega) (by omega) (by omega) (by omega) (by omega) (by omega) (by omega) (by omega) (by omega) (by omega) (by omega) y4 (by omega), bigL x y2 (by omega) (by omega) (by omega) (by omega)⟩) (fun d hd => by
            rw [t8, t7 52 (by omega) (by decide) (by decide), v6, v5 92 (by omega) (by decide)]
            exact ⟨vup_ne (by omega), vup_ne (by omega)⟩) d hd'
          rw [cdl d hd', rdl d hd']
          exact ⟨Or.inl (by omega), k.2⟩
      · exact ⟨by rw [t9]; exact vup_same _ _ _, ta, Or.inr ⟨a + 5, rfl, fun j hj => by show (if _ then _ else _) = _; rw [if_neg (by omega), if_pos (by omega)]⟩⟩
      · refine TYp.fr ?_ ?_ ?_ hTJ
        · rw [t5 46 (by omega) (by decide), q1 46 (by decide) (by decide) (by omega), hKJ 46 (by decide) (by omega)]
        · rw [t5 47 (by omega) (by decide), q1 47 (by decide) (by decide) (by omega), hKJ 47 (by decide) (by omega)]
        · rw [t5 48 (by omega) (by decide), q1 48 (by decide) (by decide) (by omega), hKJ 48 (by decide) (by omega)]
      · intro c hc
        show (if _ then _ else _) = _
        rw [if_neg (by omega), if_neg (by omega)]
        exact hO c (by omega)
      · refine FrDr_mk hO w3 (fun c hc => ?_) big bigL (fun j hj => by rw [t4 72 (by omega), m5.2.2.2 j hj, v2 72 (by omega), x3 72 (by decide) (by decide)]) (fun c y1 y2 y3 y4 => by rw [t7 c (by omega) y3 y4, v5 c y1 y2]) (fun k hk => by rw [t9, vup_ne hk, v5 72 (by omega) (by decide)]) owl (fun k hk => ?_) (fun k hk => ?_)
        · rw [t3 c (by omega), kE c hc]
        · simp at hk
          rw [I0, x5, upd_ne (by omega), upd_ne (by omega), upd_ne (by omega), upd_ne (by omega), upd_ne (by omega)]
        · have hk' := hk
          simp at hk'
          rw [t6]
          unfold mE
          rw [upd_ne (by omega), upd_ne (by omega), upd_ne (by omega)]
          exact q5 k hk
end DRC
