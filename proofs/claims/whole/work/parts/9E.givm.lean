/-! ===== give: the head of the hopes; the reference up to its search ===== -/
/-- the class's table of hopes -/
def GHo (E : Nat → Option KD) (P : Nat → Nat → Option Nat) (ow : Nat → Nat) : Prop := ∃ sc len, P 26 7 = some sc ∧ kdf E sc = some (.inl (0, len)) ∧ len ≤ 7168 ∧ ((sc = 29 ∧ len = 0) ∨ ∃ d, sc = 149 + d ∧ ow d = 7)
theorem HBd_n {W : Nat → Nat → Int32} {np n : Nat} {r : RW} (h : ∀ k, k < (n + 1) * 2 ^ np → r k = 0) : HBd W np n n r := by
  have h0 : ∀ v, v < 2 ^ np → r (n * 2 ^ np + v) = 0 := fun v hv => h _ (by rw [Nat.succ_mul]; omega)
  refine ⟨h0, ?_, ?_⟩
  · intro a h1 h2 v hv
    have : a = n := by omega
    subst this
    exact ⟨0, Nat.zero_le _, h0 v hv⟩
  · intro a h1 h2
    omega
section GIVM
variable {b : Nat} {F : Nat → Option AE} {D E : Nat → Option KD} {I : Nat → Nat → Int32} {L : Nat → Nat → Int64} {P : Nat → Nat → Option Nat} {nx us : Nat}
theorem X_hopes {np n a : Nat} {ow : Nat → Nat} (hp : I 5 0 = Int32.ofNat np) (hp1 : np ≤ 10) (hn6 : n ≤ 6) (h5 : I 26 5 = Int32.ofNat n) (hHo : GHo E P ow) (hO : ∀ c, a ≤ c → ow c = 0) (r1 : a + 1 + 149 ≤ 601024) (r2 : us + 7168 ≤ 7293034) (hW : ∀ a p, a < n → p < np → ∃ w, w ≤ 101760 ∧ I 28 (10 * a + p) = Int32.ofNat w) :
    ∃ E2 L2 P2 a2 us2, ∃ ow2 : Nat → Nat, ∃ hd len r, f_X3_reckonHopes (ad b 26) (lay b F E I L P (149 + a) us) = some (lay b F E2 (u2 I (149 + hd) r) L2 P2 (149 + a2) us2) ∧ HBd (fun a p => I 28 (10 * a + p)) np n 0 r ∧ P2 26 7 = some (149 + hd) ∧ kdf E2 (149 + hd) = some (.inl (0, len)) ∧ (n + 1) * 2 ^ np ≤ len ∧ len ≤ 7168 ∧ ow2 hd = 7 ∧ a ≤ a2 ∧ a2 ≤ a + 1 ∧ us2 ≤ us + 7168 ∧ (∀ c, c < 149 + a → E2 c = E c ∧ L2 c = L c) ∧ (∀ c, c < 149 + a → c ≠ 26 → P2 c = P c) ∧ (∀ c, c < a → ow2 c = ow c) ∧ (∀ c, a2 ≤ c → ow2 c = 0) ∧ (ow hd ≠ 7 → hd = a) := by
  obtain ⟨sc, len, p1, p2, p3, p4⟩ := hHo
  have p10 : 2 ^ np ≤ 1024 := (shl_at np (by omega) 0 (by omega)).2
  have hpos : 0 < 2 ^ np := Nat.two_pow_pos np
  have hmx : (n + 1) * 2 ^ np ≤ 7168 := Nat.le_trans (Nat.mul_le_mul (show n + 1 ≤ 7 by omega) p10) (by decide)
  have hge : 2 ^ np ≤ (n + 1) * 2 ^ np := by rw [Nat.succ_mul]; omega
  have esh : (1 : Int32) <<< (Int32.ofNat np &&& 31) = Int32.ofNat (2 ^ np) := (sh_16 np (by omega)).1
  have hgA : gA 3 (lay b F E I L P (149 + a) us) (ad b 26) 7 = some (ad b sc) := by rw [gA_sP (by decide) (by decide) (by decide), p1]; rfl
  by_cases hfit : (n + 1) * 2 ^ np ≤ len
  · obtain ⟨d, rfl, hd2⟩ : ∃ d, sc = 149 + d ∧ ow d = 7 := by
      rcases p4 with ⟨-, p4⟩ | p4
      · omega
      · exact p4
    have ef : (Int32.ofNat ((n + 1) * 2 ^ np) ≤ Int32.ofNat len) = True := eq_true (oN_leL hfit (by omega))
    have hfi : f_J7_fill_53178 (ad b (149 + d)) 0 (lay b F E I L P (149 + a) us) = some (lay b F E (u2 I (149 + d) (fun k => if k < len then 0 else I (149 + d) k)) L P (149 + a) us) := J_fillI 0 p2 (by omega)
    obtain ⟨r', y1, y2⟩ := X_h50 (b := b) (F := F) (E := E) (L := L) (P := P) (nx := 149 + a) (us := us) (I := I) hp hp1 hn6 p1 p2 hfit (by omega) (by omega) (by omega) hW n (Nat.le_refl _) FU (fun k => if k < len then 0 else I (149 + d) k) (by unfold FU; omega) (HBd_n (fun k hk => if_pos (by omega)))
    refine ⟨E, L, P, a, us, ow, d, len, r', ?_, y2, p1, p2, hfit, p3, hd2, Nat.le_refl _, by omega, by omega, fun _ _ => ⟨rfl, rfl⟩, fun _ _ _ => rfl, fun _ _ => rfl, hO, fun h => absurd hd2 h⟩
    simp (decide := true) only [f_X3_reckonHopes_142, f_X3_reckonHopes_35, f_X3_reckonHopes, hp, esh, h5, oN_succ, oN_mul, hgA, aN_d p2, ef, hfi, isO_s, gI_s, gA_s, gL_s, pI_s, pZ_s, pL_s, aI_s, aL_s, aN_s, aQ_s, sI_s, sL_s, cr, LNs, Option.map_some, Option.map_none, Option.bind_some, b2, tr, lt, if_true, if_false, ckZ, X_within, M_in, inR_z, X_refuse, X_tell, X_deny, X_grant, M_refused, M_denied, M_done, M_granted, u2_same, u2_ne, u2_u2, upd_same, upd_ne, aW0, ixR_z, ixR_1, M_isWall, M_isPainter, M_isWork, X_has4, X_has10, X_at, or_false, false_or, or_true, true_or, not_true, not_false_iff, Option.isSome_some, isO_d, gI_d, gA_d, pI_d, ne_eq, not_false_eq_true, u2_hi, u2_hj, u2_dyn, u2_dynj, Nat.reduceAdd, mX_r, mX_rD, mX_rDj, mM_r, mX_u, mX_uM, mX_uD, mX_uDj, mM_u, mM_uX, mM_uD, mM_uDj, u2_dd, u2_d0, u2_0d]
    exact y1
  · have ef : (Int32.ofNat ((n + 1) * 2 ^ np) ≤ Int32.ofNat len) = False := oN_leF (by omega) (by omega)
    have hnw := nwA_r (b := b) (F := F) (D := kdf E) (I := I) (L := L) (P := P) (nx := 149 + a) (us := us) (t := 0) (n := (n + 1) * 2 ^ np) (by decide) (by omega) (by omega) (by omega)
    rw [kdf_u2 (show 149 ≤ 149 + a by omega)] at hnw
    let E' : Nat → Option KD := u2 E (149 + a) (some (.inl (0, (n + 1) * 2 ^ np)))
    let L' : Nat → Nat → Int64 := u2 L (149 + a) (fun _ => 0)
    let P' : Nat → Nat → Option Nat := u2 (u2 P (149 + a) (fun _ => none)) 26 (va_up (P 26) 7 (some (149 + a)))
    have hP26 : P' 26 7 = some (149 + a) := by
      have : P' 26 = va_up (P 26) 7 (some (149 + a)) := u2_same _ _ _
      rw [this]; exact vup_same _ _ _
    have hP3' : u2 P (149 + a) (fun _ => none) 26 = P 26 := u2_ne (by omega)
    have hK' : kdf E' (149 + a) = some (.inl (0, (n + 1) * 2 ^ np)) := kdf_of (by omega) (u2_same _ _ _)
    have hgA' : gA 3 (lay b F E' (u2 I (149 + a) (fun _ => 0)) L' P' (149 + a + 1) (us + (n + 1) * 2 ^ np)) (ad b 26) 7 = some (ad b (149 + a)) := by rw [gA_sP (by decide) (by decide) (by decide), hP26]; rfl
    have hfi : f_J7_fill_53178 (ad b (149 + a)) 0 (lay b F E' (u2 I (149 + a) (fun _ => 0)) L' P' (149 + a + 1) (us + (n + 1) * 2 ^ np)) = some (lay b F E' (u2 (u2 I (149 + a) (fun _ => 0)) (149 + a) (fun k => if k < (n + 1) * 2 ^ np then 0 else u2 I (149 + a) (fun _ => 0) (149 + a) k)) L' P' (149 + a + 1) (us + (n + 1) * 2 ^ np)) := J_fillI 0 hK' (by omega)
    rw [u2_u2, u2_same] at hfi
    obtain ⟨r', y1, y2⟩ := X_h50 (b := b) (F := F) (E := E') (L := L') (P := P') (nx := 149 + a + 1) (us := us + (n + 1) * 2 ^ np) (I := I) hp hp1 hn6 hP26 hK' (Nat.le_refl _) (by omega) (by omega) (by omega) hW n (Nat.le_refl _) FU (fun k => if k < (n + 1) * 2 ^ np then 0 else 0) (by unfold FU; omega) (HBd_n (fun k hk => if_pos hk))
    refine ⟨E', L', P', a + 1, us + (n + 1) * 2 ^ np, fun c => if c = a then 7 else ow c, a, (n + 1) * 2 ^ np, r', ?_, y2, hP26, hK', Nat.le_refl _, hmx, if_pos rfl, by omega, Nat.le_refl _, by omega, fun c hc => ⟨u2_ne (by omega), u2_ne (by omega)⟩, ?_, ?_, ?_, fun _ => rfl⟩
    · simp only [E', L', P'] at y1 hgA' hfi ⊢
      simp (decide := true) only [f_X3_reckonHopes_142, f_X3_reckonHopes_35, f_X3_reckonHopes, hp, esh, h5, oN_succ, oN_mul, hgA, aN_d p2, ef, hnw, pQ_s, hP3', hgA', hfi, isO_s, gI_s, gA_s, gL_s, pI_s, pZ_s, pL_s, aI_s, aL_s, aN_s, aQ_s, sI_s, sL_s, cr, LNs, Option.map_some, Option.map_none, Option.bind_some, b2, tr, lt, if_true, if_false, ckZ, X_within, M_in, inR_z, X_refuse, X_tell, X_deny, X_grant, M_refused, M_denied, M_done, M_granted, u2_same, u2_ne, u2_u2, upd_same, upd_ne, aW0, ixR_z, ixR_1, M_isWall, M_isPainter, M_isWork, X_has4, X_has10, X_at, or_false, false_or, or_true, true_or, not_true, not_false_iff, Option.isSome_some, isO_d, gI_d, gA_d, pI_d, ne_eq, not_false_eq_true, u2_hi, u2_hj, u2_dyn, u2_dynj, Nat.reduceAdd, mX_r, mX_rD, mX_rDj, mM_r, mX_u, mX_uM, mX_uD, mX_uDj, mM_u, mM_uX, mM_uD, mM_uDj, u2_dd, u2_d0, u2_0d]
      exact y1
    · intro c hc hc2
      show u2 (u2 P _ _) 26 _ c = _
      rw [u2_ne hc2, u2_ne (by omega)]
    · intro c hc
      exact if_neg (by omega)
    · intro c hc
      show (if c = a then 7 else ow c) = 0
      rw [if_neg (by omega)]
      exact hO c (by omega)
end GIVM
def j0 (I : Nat → Nat → Int32) : Nat → Nat → Int32 := u2 I 72 (upd (I 72) 0 0)
def j1 (I : Nat → Nat → Int32) : Nat → Nat → Int32 := u2 I 72 (upd (I 72) 72 0)
def jA (s nw n : Nat) (I : Nat → Nat → Int32) : Nat → Nat → Int32 := u2 (u2 (u2 I 121 (nonR 0 nw (I 121))) 118 (askR s nw 0 0 (I 118))) 72 (upd (I 72) 72 (Int32.ofNat n))
def jB (nw : Nat) (I : Nat → Nat → Int32) : Nat → Nat → Int32 := u2 I 121 (nonR nw (16 - nw) (I 121))
def jC (nk np : Nat) (I : Nat → Nat → Int32) : Nat → Nat → Int32 := u2 (u2 I 122 (wkR (I 124) nk 0 np (I 122))) 72 (upd (upd (I 72) 73 (-1)) 74 0)
theorem j0_mm {Z I : Nat → Nat → Int32} : j0 (mM Z I) = mM Z (j0 I) := by unfold j0; simp (decide := true) only [mM_u, mM_r]
theorem j1_mm {Z I : Nat → Nat → Int32} : j1 (mM Z I) = mM Z (j1 I) := by unfold j1; simp (decide := true) only [mM_u, mM_r]
theorem jA_mm {s nw n : Nat} {Z I : Nat → Nat → Int32} : jA s nw n (mM Z I) = mM Z (jA s nw n I) := by unfold jA; simp (decide := true) only [mM_u, mM_r]
theorem jB_mm {nw : Nat} {Z I : Nat → Nat → Int32} : jB nw (mM Z I) = mM Z (jB nw I) := by unfold jB; simp (decide := true) only [mM_u, mM_r]
theorem jC_mm {nk np : Nat} {Z I : Nat → Nat → Int32} : jC nk np (mM Z I) = mM Z (jC nk np I) := by unfold jC; simp (decide := true) only [mM_u, mM_r]
section GIVM2
variable {b : Nat} {F : Nat → Option AE} {D E : Nat → Option KD} {I : Nat → Nat → Int32} {L : Nat → Nat → Int64} {P : Nat → Nat → Option Nat} {nx us : Nat}
theorem M_pre {s nw n nk np : Nat} (hs : s < 65536) (hsn : s < 2 ^ nw) (h16 : nw ≤ 16) (hn6 : bcN s = n) (h6 : n ≤ 6) (hk : nk ≤ 40) (hp : np ≤ 10) (h4 : I 72 4 = Int32.ofNat nw) (h76 : I 72 76 = Int32.ofNat nk) (h58 : I 72 58 = Int32.ofNat np) (hfr : frV s (I 72 5 / 365) (I 77) (I 78) (I 80) nw 0 ≠ 0) (hp0 : ¬ Int32.ofNat s ≤ 0) (hp2 : Int32.ofNat s < (1 : Int32) <<< (Int32.ofNat nw &&& 31)) : f_X15_give (ad b 72) (Int32.ofNat s) (lay b F E I L P nx us) = ((f_X15_gives 8 (ad b 72) 0 0 0 (lay b F E (jC nk np (jB nw (jA s nw n (j1 (j0 I))))) L P nx us)).bind fun h4 => (pZ 15 h4 (ad b 72) 75 1).bind fun h5 => f_X15_give_279 FU (ad b 72) 0 h5) := by
  have z0 : Int32.ofNat 0 = 0 := rfl
  have hsz : s >>> nw = 0 := by rw [Nat.shiftRight_eq_div_pow]; exact Nat.div_eq_of_lt hsn
  have h1 := M_free (b := b) (F := F) (E := E) (L := L) (P := P) (nx := nx) (us := us) (I := j0 I) (s := s) (nw := nw) hs (by simp (decide := true) only [j0, u2_same, u2_ne, u2_u2, upd_same, upd_ne, mE, u2_dyn, dyn_u2, dyn_hi, u2_hi, u2_hj, u2_dynj, u2_dd, u2_d0, u2_0d]; exact h4) h16 nw 0 (by omega) FU (by unfold FU; omega)
  have hf' : ¬ frV s (j0 I 72 5 / 365) (j0 I 77) (j0 I 78) (j0 I 80) nw 0 = 0 := by
    intro q
    refine hfr ?_
    simp (decide := true) only [j0, u2_same, u2_ne, u2_u2, upd_same, upd_ne, mE, u2_dyn, dyn_u2, dyn_hi, u2_hi, u2_hj, u2_dynj, u2_dd, u2_d0, u2_0d] at q
    exact q
  rw [if_neg hf', if_pos (by rw [hn6]; exact oN_leL h6 (by decide)), z0] at h1
  have h2 := M_ask (b := b) (F := F) (E := E) (L := L) (P := P) (nx := nx) (us := us) (n := n) hs h16 h6 hsz nw 0 (by omega) FU 0 (j1 (j0 I)) (by unfold FU; omega) (by simp (decide := true) only [j1, j0, u2_same, u2_ne, u2_u2, upd_same, upd_ne, mE, u2_dyn, dyn_u2, dyn_hi, u2_hi, u2_hj, u2_dynj, u2_dd, u2_d0, u2_0d]; exact h4) (by rw [Nat.shiftRight_zero]; omega) (by simp (decide := true) only [j1, u2_same, u2_ne, u2_u2, upd_same, upd_ne, mE, u2_dyn, dyn_u2, dyn_hi, u2_hi, u2_hj, u2_dynj, u2_dd, u2_d0, u2_0d])
  rw [z0] at h2
  have h3 := M_non (b := b) (F := F) (E := E) (L := L) (P := P) (nx := nx) (us := us) (16 - nw) nw (by omega) FU (jA s nw n (j1 (j0 I))) (by unfold FU; omega)
  have h4' := M_wk2 (b := b) (F := F) (E := E) (L := L) (P := P) (nx := nx) (us := us) hk hp np 0 (by omega) FU (jB nw (jA s nw n (j1 (j0 I)))) (by unfold FU; omega) (by simp (decide := true) only [jB, jA, j1, j0, u2_same, u2_ne, u2_u2, upd_same, upd_ne, mE, u2_dyn, dyn_u2, dyn_hi, u2_hi, u2_hj, u2_dynj, u2_dd, u2_d0, u2_0d]; exact h76) (by simp (decide := true) only [jB, jA, j1, j0, u2_same, u2_ne, u2_u2, upd_same, upd_ne, mE, u2_dyn, dyn_u2, dyn_hi, u2_hi, u2_hj, u2_dynj, u2_dd, u2_d0, u2_0d]; exact h58)
  rw [z0] at h4'
  have hst : f_X15_give (ad b 72) (Int32.ofNat s) (lay b F E I L P nx us) = f_X15_give_29 FU (ad b 72) (Int32.ofNat s) 1 0 (lay b F E (j0 I) L P nx us) := by
    simp (decide := true) only [f_X15_give, hp0, h4, hp2, isO_s, gI_s, gA_s, gL_s, pI_s, pZ_s, pL_s, aI_s, aL_s, aN_s, aQ_s, sI_s, sL_s, cr, LNs, Option.map_some, Option.map_none, Option.bind_some, b2, tr, lt, if_true, if_false, ckZ, X_within, M_in, inR_z, X_refuse, X_tell, X_deny, X_grant, M_refused, M_denied, M_done, M_granted, u2_same, u2_ne, u2_u2, upd_same, upd_ne, aW0, ixR_z, ixR_1, M_isWall, M_isPainter, M_isWork, X_has4, X_has10, X_at, or_false, false_or, or_true, true_or, not_true, not_false_iff, Option.isSome_some, isO_d, gI_d, gA_d, pI_d, ne_eq, not_false_eq_true, u2_hi, u2_hj, u2_dyn, u2_dynj, Nat.reduceAdd, mX_r, mX_rD, mX_rDj, mM_r, mX_u, mX_uM, mX_uD, mX_uDj, mM_u, mM_uX, mM_uD, mM_uDj, u2_dd, u2_d0, u2_0d]
    rfl
  rw [hst]
  exact h1.trans (h2.trans (h3.trans h4'))
end GIVM2
