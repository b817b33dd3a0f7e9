/-! ===== give: the call ===== -/
theorem bcN_le (s : Nat) : bcN s ≤ 63 := Nat.and_le_right
theorem frV_01 (s : Nat) (y : Int32) (m77 m78 m80 : RW) : ∀ (m i : Nat), frV s y m77 m78 m80 m i = 0 ∨ frV s y m77 m78 m80 m i = 1 := by
  intro m
  induction m with
  | zero => intro i; exact Or.inr rfl
  | succ m ih =>
    intro i
    unfold frV
    split
    · exact Or.inl rfl
    · exact ih (i + 1)
section GIVN
variable {b : Nat} {F : Nat → Option AE} {D E : Nat → Option KD} {I : Nat → Nat → Int32} {L : Nat → Nat → Int64} {P : Nat → Nat → Option Nat} {nx us : Nat}
theorem LW_of {nw nk nt np ndr td : Nat} {q wd hg : Nat → Nat} (hW : WALL nw nk nt q wd hg I) (hG : GWrk nk nw np ndr td (I 14) (I 15) (I 16) (I 17) (I 18) (I 20) (I 21) (I 22) (I 123) (I 124) (I 125) (I 126) (I 127) (I 128) (I 129) (I 130) (I 131)) (hk : nk ≤ 40) : LWx nw nk np q I (I 82) (I 124) := by
  intro j hj
  obtain ⟨e1, e2, e3, e4, e5⟩ := hW.2.2.2.1.1 j hj
  have d8 : I (149 + q j) 8 = I 80 j := e1
  have d9 : I (149 + q j) 9 = I 81 j := e2
  have nn : ∀ k, k < nk → ¬ Int32.ofNat k = -2 := fun k hk' => (oN_m12 k (by omega)).1
  rcases e4 with e4 | ⟨k, k1, k2, -⟩
  · rw [e4, if_neg (by decide)] at e3
    rcases e5 with e5 | ⟨k, k1, k2, -⟩
    · rw [e5, if_neg (by decide)] at e3
      exact Or.inl ⟨d8.trans e4, d9.trans e5, e3⟩
    · rw [k2, if_pos (nn k k1)] at e3
      obtain ⟨-, -, x15, ⟨p, p1, p2⟩, -⟩ := hG k k1
      exact Or.inr ⟨k, p, k1, p1, e3, p2, x15.trans p2, Or.inr ⟨d8.trans e4, d9.trans k2⟩⟩
  · rw [k2, if_pos (nn k k1)] at e3
    obtain ⟨-, -, x15, ⟨p, p1, p2⟩, -⟩ := hG k k1
    exact Or.inr ⟨k, p, k1, p1, e3, p2, x15.trans p2, Or.inl (d8.trans k2)⟩
theorem LWm_of {nw nk np : Nat} {q : Nat → Nat} {m82 m124 : RW} (h : LWx nw nk np q I m82 m124) : LWm nw nk np m82 m124 := by
  intro j hj
  rcases h j hj with ⟨-, -, h⟩ | ⟨k, p, h1, h2, h3, h4, -⟩
  · exact Or.inl h
  · exact Or.inr ⟨k, p, h1, h2, h3, h4⟩
theorem call_give (p : Int32) {nw nk nt np nv ndr td a : Nat} {q wd hg ow : Nat → Nat} (hT : GTI I) (hnw : Cn nw 16 (I 1 1) (I 72 4)) (hA : WA nw q wd hg ow E (P 2)) (hWa : WALL nw nk nt q wd hg I) (ht : Cn td 3649 (I 13 14) (I 72 5)) (hG : GBes (I 3) (I 85)) (hSy : GSym (I 85)) (hnp : Cn np 10 (I 5 0) (I 72 58)) (hnv : Cn nv 300 (I 5 6) (I 72 59)) (hPa : GPai np (I 6) (I 7) (I 111) (I 112)) (hWi : GWis (I 9) (I 113)) (hV : GVot nv np nw (I 10) (I 11) (I 12) (I 114) (I 115) (I 116) (I 117)) (hk : Cn nk 40 (I 13 1) (I 72 76)) (hBe : GBeg nk (I 8) (I 124)) (hWk : GWrk nk nw np ndr td (I 14) (I 15) (I 16) (I 17) (I 18) (I 20) (I 21) (I 22) (I 123) (I 124) (I 125) (I 126) (I 127) (I 128) (I 129) (I 130) (I 131)) (hGi : GGiv nw (I 32) (I 121) (I 72 75)) (hHo : GHo E P ow) (hnx : nx = 149 + a) (hO : ∀ c, a ≤ c → ow c = 0) (r1 : a + 1 + 149 ≤ 601024) (r2 : us + 7168 ≤ 7293034) :
    ∃ E2 I2 L2 P2 a2 us2 ow2, RunG b F (f_X11_give (ad b 0) p) (f_X15_give (ad b 72) p) E I L P nx us E2 I2 L2 P2 (149 + a2) us2 ∧ a ≤ a2 ∧ a2 ≤ a + 1 ∧ us2 ≤ us + 7168 ∧ GTI I2 ∧ GGiv nw (I2 32) (I2 121) (I2 72 75) ∧ GHo E2 P2 ow2 ∧ (∀ c, c < 149 + a → E2 c = E c ∧ L2 c = L c) ∧ (∀ c, c < 149 + a → c ≠ 26 → P2 c = P c) ∧ (∀ c, c < a → ow2 c = ow c) ∧ (∀ c, a2 ≤ c → ow2 c = 0) ∧ (∀ c, c < a → ow c ≠ 7 → dyn I2 c = dyn I c) ∧ (∀ c k, c < 149 → [(0, 16), (26, 3), (26, 5), (26, 10), (72, 0), (72, 1), (72, 2), (72, 72), (72, 73), (72, 74), (72, 75)].contains (c, k) = false → [27, 28, 30, 31, 32, 118, 119, 120, 121, 122].contains c = false → I2 c k = I c k) := by
  subst hnx
  obtain ⟨h16, hn2, hn3⟩ := hnw
  obtain ⟨hp10, hp2, hp3⟩ := hnp
  obtain ⟨hv3, hv2, hv4⟩ := hnv
  obtain ⟨hk4, hk2, hk3⟩ := hk
  have href : ∀ x : Int32, x ≠ 4 → (∃ v, f_X11_give (ad b 0) p (lay b F E I L P (149 + a) us) = some (v, lay b F E (u2 I 0 (upd (I 0) 16 x)) L P (149 + a) us) ∧ f_X15_give (ad b 72) p (lay b F E (u2 I 0 (upd (I 0) 16 x)) L P (149 + a) us) = some (v, lay b F E (rf I x) L P (149 + a) us)) → ∃ E2 I2 L2 P2 a2 us2 ow2, RunG b F (f_X11_give (ad b 0) p) (f_X15_give (ad b 72) p) E I L P (149 + a) us E2 I2 L2 P2 (149 + a2) us2 ∧ a ≤ a2 ∧ a2 ≤ a + 1 ∧ us2 ≤ us + 7168 ∧ GTI I2 ∧ GGiv nw (I2 32) (I2 121) (I2 72 75) ∧ GHo E2 P2 ow2 ∧ (∀ c, c < 149 + a → E2 c = E c ∧ L2 c = L c) ∧ (∀ c, c < 149 + a → c ≠ 26 → P2 c = P c) ∧ (∀ c, c < a → ow2 c = ow c) ∧ (∀ c, a2 ≤ c → ow2 c = 0) ∧ (∀ c, c < a → ow c ≠ 7 → dyn I2 c = dyn I c) ∧ (∀ c k, c < 149 → [(0, 16), (26, 3), (26, 5), (26, 10), (72, 0), (72, 1), (72, 2), (72, 72), (72, 73), (72, 74), (72, 75)].contains (c, k) = false → [27, 28, 30, 31, 32, 118, 119, 120, 121, 122].contains c = false → I2 c k = I c k) := by
    intro x hx hr
    obtain ⟨v, e1, e2⟩ := hr
    refine ⟨E, rf I x, L, P, a, us, ow, ⟨v, E, u2 I 0 (upd (I 0) 16 x), L, P, 149 + a, us, e1, e2⟩, Nat.le_refl _, by omega, by omega, rf_GT hT hx, ?_, hHo, fun _ _ => ⟨rfl, rfl⟩, fun _ _ _ => rfl, fun _ _ => rfl, hO, ?_, ?_⟩
    · simp (decide := true) only [rf, u2_same, u2_ne, u2_u2, upd_same, upd_ne, mE, u2_dyn, dyn_u2, dyn_hi, u2_hi, u2_hj, u2_dynj, u2_dd, u2_d0, u2_0d]; exact hGi
    · intro c hc _
      show rf I x (149 + c) = I (149 + c)
      unfold rf
      rw [u2_ne (by omega), u2_ne (by omega)]
    · intro c k h0 k1 k2
      refine rf_Fr I x c k ?_ (by simp)
      simp at k1 ⊢
      omega
  have e11 : ((1 : Int32) = 0) = False := by decide
  rcases setCase p h16 with h0 | ⟨h0, h1, h2⟩ | ⟨s, s0, s1, s2, rfl, h0, h1, h2⟩
  · refine href 1 (by decide) ⟨-1, ?_, ?_⟩
    · (simp (decide := true) only [f_X11_give, f_X3_areWalls_21, f_X3_areWalls_20, f_X3_areWalls, h0, isO_s, gI_s, gA_s, gL_s, pI_s, pZ_s, pL_s, aI_s, aL_s, aN_s, aQ_s, sI_s, sL_s, cr, LNs, Option.map_some, Option.map_none, Option.bind_some, b2, tr, lt, if_true, if_false, ckZ, X_within, M_in, inR_z, X_refuse, X_tell, X_deny, X_grant, M_refused, M_denied, M_done, M_granted, u2_same, u2_ne, u2_u2, upd_same, upd_ne, aW0, ixR_z, ixR_1, M_isWall, M_isPainter, M_isWork, X_has4, X_has10, X_at, or_false, false_or, or_true, true_or, not_true, not_false_iff, Option.isSome_some, isO_d, gI_d, gA_d, pI_d, ne_eq, not_false_eq_true, u2_hi, u2_hj, u2_dyn, u2_dynj, Nat.reduceAdd, mX_r, mX_rD, mX_rDj, mM_r, mX_u, mX_uM, mX_uD, mX_uDj, mM_u, mM_uX, mM_uD, mM_uDj, u2_dd, u2_d0, u2_0d]; try exact rfl)
    · (simp (decide := true) only [f_X15_give_241, f_X15_give_159, f_X15_give_73, f_X15_give_72, f_X15_give_68, f_X15_give_19, f_X15_give, h0, isO_s, gI_s, gA_s, gL_s, pI_s, pZ_s, pL_s, aI_s, aL_s, aN_s, aQ_s, sI_s, sL_s, cr, LNs, Option.map_some, Option.map_none, Option.bind_some, b2, tr, lt, if_true, if_false, ckZ, X_within, M_in, inR_z, X_refuse, X_tell, X_deny, X_grant, M_refused, M_denied, M_done, M_granted, u2_same, u2_ne, u2_u2, upd_same, upd_ne, aW0, ixR_z, ixR_1, M_isWall, M_isPainter, M_isWork, X_has4, X_has10, X_at, or_false, false_or, or_true, true_or, not_true, not_false_iff, Option.isSome_some, isO_d, gI_d, gA_d, pI_d, ne_eq, not_false_eq_true, u2_hi, u2_hj, u2_dyn, u2_dynj, Nat.reduceAdd, mX_r, mX_rD, mX_rDj, mM_r, mX_u, mX_uM, mX_uD, mX_uDj, mM_u, mM_uX, mM_uD, mM_uDj, u2_dd, u2_d0, u2_0d]; try exact rfl)
  · refine href 1 (by decide) ⟨-1, ?_, ?_⟩
    · (simp (decide := true) only [f_X11_give, f_X3_areWalls_21, f_X3_areWalls_20, f_X3_areWalls, h0, hn2, h1, isO_s, gI_s, gA_s, gL_s, pI_s, pZ_s, pL_s, aI_s, aL_s, aN_s, aQ_s, sI_s, sL_s, cr, LNs, Option.map_some, Option.map_none, Option.bind_some, b2, tr, lt, if_true, if_false, ckZ, X_within, M_in, inR_z, X_refuse, X_tell, X_deny, X_grant, M_refused, M_denied, M_done, M_granted, u2_same, u2_ne, u2_u2, upd_same, upd_ne, aW0, ixR_z, ixR_1, M_isWall, M_isPainter, M_isWork, X_has4, X_has10, X_at, or_false, false_or, or_true, true_or, not_true, not_false_iff, Option.isSome_some, isO_d, gI_d, gA_d, pI_d, ne_eq, not_false_eq_true, u2_hi, u2_hj, u2_dyn, u2_dynj, Nat.reduceAdd, mX_r, mX_rD, mX_rDj, mM_r, mX_u, mX_uM, mX_uD, mX_uDj, mM_u, mM_uX, mM_uD, mM_uDj, u2_dd, u2_d0, u2_0d]; try exact rfl)
    · (simp (decide := true) only [f_X15_give_241, f_X15_give_159, f_X15_give_73, f_X15_give_72, f_X15_give_68, f_X15_give_19, f_X15_give, h0, hn3, h2, isO_s, gI_s, gA_s, gL_s, pI_s, pZ_s, pL_s, aI_s, aL_s, aN_s, aQ_s, sI_s, sL_s, cr, LNs, Option.map_some, Option.map_none, Option.bind_some, b2, tr, lt, if_true, if_false, ckZ, X_within, M_in, inR_z, X_refuse, X_tell, X_deny, X_grant, M_refused, M_denied, M_done, M_granted, u2_same, u2_ne, u2_u2, upd_same, upd_ne, aW0, ixR_z, ixR_1, M_isWall, M_isPainter, M_isWork, X_has4, X_has10, X_at, or_false, false_or, or_true, true_or, not_true, not_false_iff, Option.isSome_some, isO_d, gI_d, gA_d, pI_d, ne_eq, not_false_eq_true, u2_hi, u2_hj, u2_dyn, u2_dynj, Nat.reduceAdd, mX_r, mX_rD, mX_rDj, mM_r, mX_u, mX_uM, mX_uD, mX_uDj, mM_u, mM_uX, mM_uD, mM_uDj, u2_dd, u2_d0, u2_0d]; try exact rfl)
  have hy : I 13 14 / 365 = I 72 5 / 365 := by rw [ht.2.1, ht.2.2]
  have hfx := X_free (b := b) (F := F) (L := L) (nx := 149 + a) (us := us) (I := I) (m77 := I 77) (m78 := I 78) (m80 := I 80) s2 hn2 h16 hA hy (fun w hw => (hWa.2.2.1 w hw).2.2 _ (Int32.le_refl _)) (fun w hw => (hWa.2.2.2.1.1 w hw).1) nw 0 (by omega) FU (by unfold FU; omega)
  have z0 : Int32.ofNat 0 = 0 := rfl
  rw [z0] at hfx
  by_cases hfr : frV s (I 72 5 / 365) (I 77) (I 78) (I 80) nw 0 = 0
  · refine href 5 (by decide) ⟨-1, ?_, ?_⟩
    · rw [hfr] at hfx
      (simp (decide := true) only [f_X11_give, f_X3_areWalls_21, f_X3_areWalls_20, f_X3_areWalls, f_X3_areFree_72, f_X3_areFree_70, f_X3_areFree_36, f_X3_areFree, h0, hn2, h1, hfx, e11, isO_s, gI_s, gA_s, gL_s, pI_s, pZ_s, pL_s, aI_s, aL_s, aN_s, aQ_s, sI_s, sL_s, cr, LNs, Option.map_some, Option.map_none, Option.bind_some, b2, tr, lt, if_true, if_false, ckZ, X_within, M_in, inR_z, X_refuse, X_tell, X_deny, X_grant, M_refused, M_denied, M_done, M_granted, u2_same, u2_ne, u2_u2, upd_same, upd_ne, aW0, ixR_z, ixR_1, M_isWall, M_isPainter, M_isWork, X_has4, X_has10, X_at, or_false, false_or, or_true, true_or, not_true, not_false_iff, Option.isSome_some, isO_d, gI_d, gA_d, pI_d, ne_eq, not_false_eq_true, u2_hi, u2_hj, u2_dyn, u2_dynj, Nat.reduceAdd, mX_r, mX_rD, mX_rDj, mM_r, mX_u, mX_uM, mX_uD, mX_uDj, mM_u, mM_uX, mM_uD, mM_uDj, u2_dd, u2_d0, u2_0d]; try exact rfl)
    · have hm := M_free (b := b) (F := F) (E := E) (L := L) (P := P) (nx := 149 + a) (us := us) (I := j0 (u2 I 0 (upd (I 0) 16 5))) (s := s) (nw := nw) s2 (by simp (decide := true) only [j0, u2_same, u2_ne, u2_u2, upd_same, upd_ne, mE, u2_dyn, dyn_u2, dyn_hi, u2_hi, u2_hj, u2_dynj, u2_dd, u2_d0, u2_0d]; exact hn3) h16 nw 0 (by omega) FU (by unfold FU; omega)
      rw [if_pos (by simp (decide := true) only [j0, u2_same, u2_ne, u2_u2, upd_same, upd_ne, mE, u2_dyn, dyn_u2, dyn_hi, u2_hi, u2_hj, u2_dynj, u2_dd, u2_d0, u2_0d]; exact hfr), z0] at hm
      simp (decide := true) only [f_X15_give, h0, hn3, h2, isO_s, gI_s, gA_s, gL_s, pI_s, pZ_s, pL_s, aI_s, aL_s, aN_s, aQ_s, sI_s, sL_s, cr, LNs, Option.map_some, Option.map_none, Option.bind_some, b2, tr, lt, if_true, if_false, ckZ, X_within, M_in, inR_z, X_refuse, X_tell, X_deny, X_grant, M_refused, M_denied, M_done, M_granted, u2_same, u2_ne, u2_u2, upd_same, upd_ne, aW0, ixR_z, ixR_1, M_isWall, M_isPainter, M_isWork, X_has4, X_has10, X_at, or_false, false_or, or_true, true_or, not_true, not_false_iff, Option.isSome_some, isO_d, gI_d, gA_d, pI_d, ne_eq, not_false_eq_true, u2_hi, u2_hj, u2_dyn, u2_dynj, Nat.reduceAdd, mX_r, mX_rD, mX_rDj, mM_r, mX_u, mX_uM, mX_uD, mX_uDj, mM_u, mM_uX, mM_uD, mM_uDj, u2_dd, u2_d0, u2_0d]
      refine hm.trans ?_
      simp (decide := true) only [j0, rf, u2_same, u2_ne, u2_u2, upd_same, upd_ne, mE, u2_dyn, dyn_u2, dyn_hi, u2_hi, u2_hj, u2_dynj, u2_dd, u2_d0, u2_0d]
  have hfr1 : frV s (I 72 5 / 365) (I 77) (I 78) (I 80) nw 0 = 1 := by
    rcases frV_01 s (I 72 5 / 365) (I 77) (I 78) (I 80) nw 0 with h | h
    · exact absurd h hfr
    · exact h
  rw [hfr1] at hfx
  have hbc : f_J6_bitCount_0f7a4 (Int32.ofNat s) (lay b F E I L P (149 + a) us) = some (Int32.ofNat (bcN s), lay b F E I L P (149 + a) us) := by rw [J_bitCount, bcF_N s2]
  by_cases h6 : bcN s ≤ 6
  · have hc6 : (Int32.ofNat (bcN s) ≤ 6) = True := eq_true (oN_leL h6 (by decide))
    have hszz : s >>> nw = 0 := by rw [Nat.shiftRight_eq_div_pow]; exact Nat.div_eq_of_lt s1
    obtain ⟨ak, hAK, hask⟩ := ask_all (nw := nw) (n := bcN s) s2 hszz rfl
    generalize hn : bcN s = n at *
    let lk : Nat → Nat → Int32 := lkS nv (I 113) (I 115) (I 116) (I 117)
    let cn : Nat → Nat → Prop := fun a p => ¬ lk p (ak a) ≤ 0 ∧ ¬ ∃ j, 0 ≤ j ∧ j < nw ∧ likeAt s nk np (I 82) (I 85) (I 111) (I 124) (ak a) (I 111 p) j
    have hLx := LW_of hWa hWk hk4
    obtain ⟨W, hW⟩ : ∃ W, WoS s nw nk np n lk (I 8) (I 82) (I 85) (I 111) (I 124) ak W := ⟨fun a p => @ite _ (cn a p) (Classical.propDecidable _) (lk p (ak a) * 64 - I 8 p) 0, fun a p ha hp => ⟨fun h => if_pos h, fun h => if_neg h⟩⟩
    have hak16 : ∀ k, k < n → ak k < 16 := fun k hk => by have := (hAK.1 k hk).1; omega
    have hlN0 : ∀ a, ∃ f : Nat → Nat, ∀ p, a < n → p < np → f p ≤ 1590 ∧ lk p (ak a) = Int32.ofNat (f p) := by
      intro a
      refine Classical.axiomOfChoice (r := fun p l => a < n → p < np → l ≤ 1590 ∧ lk p (ak a) = Int32.ofNat l) ?_
      intro p
      by_cases h : a < n ∧ p < np
      · obtain ⟨l, l1, l2⟩ := lk_N (p := p) (w := ak a) hv3 (by omega) (hak16 a h.1) hWi hV
        exact ⟨l, fun _ _ => ⟨l1, l2⟩⟩
      · exact ⟨0, fun h1 h2 => absurd ⟨h1, h2⟩ h⟩
    obtain ⟨lN, hlN⟩ := Classical.axiomOfChoice hlN0
    let wN : Nat → Nat := wkN (I 124) nk
    have hwN : ∀ p, p < np → I 8 p = Int32.ofNat (wN p) := fun p hp => (hBe p (by omega)).trans wk_sm
    have hGW : GvW n np cn lN wN W := by
      refine ⟨fun p hp => ?_, ?_⟩
      · have := sN_le (f := fun k => if I 124 k = Int32.ofNat p then 1 else 0) (c := 1) nk 0 (fun k _ _ => by show (if _ then 1 else 0) ≤ 1; split <;> decide)
        have e : wN p = sN (fun k => if I 124 k = Int32.ofNat p then 1 else 0) 0 nk := rfl
        omega
      · intro a' p' ha hp'
        obtain ⟨l1, l2⟩ := hlN a' p' ha hp'
        obtain ⟨w1, w2⟩ := hW a' p' ha hp'
        have hw40 : wN p' ≤ 40 := by
          have := sN_le (f := fun k => if I 124 k = Int32.ofNat p' then 1 else 0) (c := 1) nk 0 (fun k _ _ => by show (if _ then 1 else 0) ≤ 1; split <;> decide)
          have e : wN p' = sN (fun k => if I 124 k = Int32.ofNat p' then 1 else 0) 0 nk := rfl
          omega
        refine ⟨l1, fun hc => ?_, w2⟩
        have hl1 : 1 ≤ lN a' p' := by
          by_cases hz : lN a' p' = 0
          · exfalso
            refine hc.1 ?_
            rw [l2, hz]
            exact Int32.le_refl _
          · omega
        refine ⟨hl1, ?_⟩
        rw [w1 hc, l2, hwN p' hp', show (64 : Int32) = Int32.ofNat 64 from rfl, oN_mul, oN_sub (by omega), Nat.mul_comm]
    -- the class
    let Ia : Nat → Nat → Int32 := u2 (u2 I 27 (askR s nw 0 0 (I 27))) 26 (upd (upd (I 26) 3 (Int32.ofNat s)) 5 (Int32.ofNat n))
    have hIa : ∀ c, c ≠ 26 → c ≠ 27 → Ia c = I c := fun c h1 h2 => by show u2 (u2 I 27 _) 26 _ c = _; rw [u2_ne h1, u2_ne h2]
    have x1 := X_ask (b := b) (F := F) (E := E) (L := L) (P := P) (nx := 149 + a) (us := us) (n := n) s2 h16 h6 hszz nw 0 (by omega) FU 0 (u2 I 26 (upd (upd (I 26) 3 (Int32.ofNat s)) 5 0)) (by unfold FU; omega) (by simp (decide := true) only [u2_same, u2_ne, u2_u2, upd_same, upd_ne, mE, u2_dyn, dyn_u2, dyn_hi, u2_hi, u2_hj, u2_dynj, u2_dd, u2_d0, u2_0d]; exact hn2) (by rw [Nat.shiftRight_zero]; omega) (by simp (decide := true) only [u2_same, u2_ne, u2_u2, upd_same, upd_ne, mE, u2_dyn, dyn_u2, dyn_hi, u2_hi, u2_hj, u2_dynj, u2_dd, u2_d0, u2_0d])
    rw [z0] at x1
    have eIa : u2 (u2 (u2 I 26 (upd (upd (I 26) 3 (Int32.ofNat s)) 5 0)) 27 (askR s nw 0 0 (I 27))) 26 (upd (upd (upd (I 26) 3 (Int32.ofNat s)) 5 0) 5 (Int32.ofNat n)) = Ia := by
      funext c
      show _ = u2 (u2 I 27 _) 26 _ c
      unfold u2
      rw [upd_upd]
      by_cases c1 : c = 26
      · subst c1; simp (decide := true) only [if_true, if_false]
      · simp only [c1, if_false]
    simp (decide := true) only [eIa, u2_same, u2_ne, u2_u2, upd_same, upd_ne, mE, u2_dyn, dyn_u2, dyn_hi, u2_hi, u2_hj, u2_dynj, u2_dd, u2_d0, u2_0d] at x1
    have hga : ∀ k, k < n → Ia 27 k = Int32.ofNat (ak k) := fun k hk => by show u2 (u2 I 27 _) 26 _ 27 k = _; rw [u2_ne (by decide), u2_same]; exact hask _ k hk
    have x2 := X_wo2 (b := b) (F := F) (L := L) (nx := 149 + a) (us := us) (I := Ia) (m82 := I 82) (m85 := I 85) (m111 := I 111) (m124 := I 124) (nk := nk) (lk := lk) (W := W) s2 (by rw [hIa 1 (by decide) (by decide)]; exact hn2) h16 hA (by rw [hIa 3 (by decide) (by decide)]; exact hG) (by simp (decide := true) only [Ia, u2_same, u2_ne, u2_u2, upd_same, upd_ne, mE, u2_dyn, dyn_u2, dyn_hi, u2_hi, u2_hj, u2_dynj, u2_dd, u2_d0, u2_0d]) (by simp (decide := true) only [Ia, u2_same, u2_ne, u2_u2, upd_same, upd_ne, mE, u2_dyn, dyn_u2, dyn_hi, u2_hi, u2_hj, u2_dynj, u2_dd, u2_d0, u2_0d]) (by rw [hIa 13 (by decide) (by decide)]; exact hk2) hk4 (by rw [hIa 5 (by decide) (by decide)]; exact hp2) hp10 (by rw [hIa 6 (by decide) (by decide)]; exact fun p hp => (hPa p hp).1) (by intro j hj; rw [hIa (149 + q j) (by omega) (by omega), hIa 15 (by decide) (by decide)]; exact hLx j hj) h6 hAK hga (by rw [hIa 9 (by decide) (by decide), hIa 10 (by decide) (by decide)]; exact fun p w hp hw => lk_eq (by omega) (by omega) hWi hV) (by rw [hIa 8 (by decide) (by decide)]; exact hW) n 0 (by omega) FU (Ia 28) (by unfold FU; omega)
    rw [z0, u2_idr] at x2
    let Iw : Nat → Nat → Int32 := u2 Ia 28 (woA W np n 0 (Ia 28))
    have hIw : ∀ c, c ≠ 26 → c ≠ 27 → c ≠ 28 → Iw c = I c := fun c h1 h2 h3 => by show u2 Ia 28 _ c = _; rw [u2_ne h3, hIa c h1 h2]
    have hW28 : ∀ a p, a < n → p < np → Iw 28 (10 * a + p) = W a p := fun a p ha hp => by show u2 Ia 28 _ 28 _ = _; rw [u2_same]; exact woA_at hp10 n 0 _ a p (by omega) (by omega) hp
    have hIw26 : Iw 26 = upd (upd (I 26) 3 (Int32.ofNat s)) 5 (Int32.ofNat n) := by show u2 Ia 28 _ 26 = _; rw [u2_ne (by decide)]; exact u2_same _ _ _
    obtain ⟨E2, L2, P2, a2, us2, ow2, hd, len, r, y1, y2, y3, y4, y5, y6, y7, y8, y9, ya, yb, yc, yd, ye, yf⟩ := X_hopes (b := b) (F := F) (E := E) (L := L) (P := P) (us := us) (I := Iw) (np := np) (n := n) (a := a) (ow := ow) (by rw [hIw 5 (by decide) (by decide) (by decide)]; exact hp2) hp10 h6 (by rw [hIw26]; exact upd_same _ _ _) hHo hO r1 r2 (fun a p ha hp => by rw [hW28 a p ha hp]; exact GW_rng hGW ha hp)
    have hlow : ∀ w, w < nw → q w + 5 ≤ a := by
      intro w hw
      have := (hA w hw).2.2.2.2.2.2.2 4 (by omega)
      have h4 : ¬ a ≤ q w + 4 := fun h => by rw [hO _ h] at this; cases this
      omega
    have hA2 : WA nw q wd hg ow E2 (P2 2) := by
      rw [yc 2 (by omega) (by decide)]
      intro w hw
      obtain ⟨b1, ⟨k0, k1, k2, k3, k4⟩, b2⟩ := hA w hw
      have := hlow w hw
      exact ⟨b1, ⟨(yb _ (by omega)).1.trans k0, (yb _ (by omega)).1.trans k1, (yb _ (by omega)).1.trans k2, (yb _ (by omega)).1.trans k3, (yb _ (by omega)).1.trans k4⟩, b2⟩
    let I3 : Nat → Nat → Int32 := u2 (u2 Iw (149 + hd) r) 26 (upd (Iw 26) 10 (-1))
    have hI3 : ∀ c, c ≠ 26 → c ≠ 27 → c ≠ 28 → c ≠ 149 + hd → I3 c = I c := fun c h1 h2 h3 h4 => by show u2 (u2 Iw _ _) 26 _ c = _; rw [u2_ne h1, u2_ne h4, hIw c h1 h2 h3]
    have hHB : HBd W np n 0 r := by
      obtain ⟨b1, b2, b3⟩ := y2
      refine ⟨b1, b2, fun a ha han v hv => ?_⟩
      obtain ⟨c1, c2⟩ := b3 a ha han v hv
      refine ⟨c1, fun p hp hb hw => ?_⟩
      have := c2 p hp hb (by show ¬ Iw 28 (10 * a + p) ≤ 0; rw [hW28 a p han hp]; exact hw)
      have h3 : Iw 28 (10 * a + p) + _ ≤ _ := this
      rw [hW28 a p han hp] at h3
      exact h3
    have hGX : GvX E2 P2 s nw np n (149 + hd) len q wd hg ow ak (I 85) (I 111) W I3 := by
      refine ⟨?_, h16, hA2, ?_, ?_, hp10, ?_, h6, hAK, ?_, ?_, y3, y4, y5, by omega, by omega, ?_, ?_⟩
      · rw [hI3 1 (by decide) (by decide) (by decide) (by omega)]; exact hn2
      · rw [hI3 3 (by decide) (by decide) (by decide) (by omega)]; exact hG
      · rw [hI3 5 (by decide) (by decide) (by decide) (by omega)]; exact hp2
      · rw [hI3 6 (by decide) (by decide) (by decide) (by omega)]; exact fun p hp => (hPa p hp).1
      · have : I3 27 = Ia 27 := by show u2 (u2 Iw _ _) 26 _ 27 = _; rw [u2_ne (by decide), u2_ne (by omega)]; exact u2_ne (by decide)
        rw [this]; exact hga
      · show u2 (u2 Iw _ _) 26 _ 26 5 = _
        rw [u2_same, upd_ne (by decide), hIw26, upd_same]
      · have : I3 28 = Iw 28 := by show u2 (u2 Iw _ _) 26 _ 28 = _; rw [u2_ne (by decide), u2_ne (by omega)]
        rw [this]; exact hW28
      · have : I3 (149 + hd) = r := by show u2 (u2 Iw _ _) 26 _ (149 + hd) = _; rw [u2_ne (by omega), u2_same]
        rw [this]; exact hHB
    -- the reference
    let J : Nat → Nat → Int32 := jC nk np (jB nw (jA s nw n (j1 (j0 I))))
    have hJ : ∀ c, c ≠ 72 → c ≠ 118 → c ≠ 121 → c ≠ 122 → J c = I c := by
      intro c c1 c2 c3 c4
      show jC nk np (jB nw (jA s nw n (j1 (j0 I)))) c = I c
      unfold jC jB jA j1 j0
      rw [u2_ne c1, u2_ne c4, u2_ne c3, u2_ne c1, u2_ne c2, u2_ne c3, u2_ne c1, u2_ne c1]
    have hJ72 : J 72 = upd (upd (upd (upd (upd (I 72) 0 0) 72 0) 72 (Int32.ofNat n)) 73 (-1)) 74 0 := by
      show jC nk np (jB nw (jA s nw n (j1 (j0 I)))) 72 = _
      simp (decide := true) only [jC, jB, jA, j1, j0, u2_same, u2_ne, u2_u2, upd_same, upd_ne, mE, u2_dyn, dyn_u2, dyn_hi, u2_hi, u2_hj, u2_dynj, u2_dd, u2_d0, u2_0d]
    have hJ118 : J 118 = askR s nw 0 0 (I 118) := by
      show jC nk np (jB nw (jA s nw n (j1 (j0 I)))) 118 = _
      simp (decide := true) only [jC, jB, jA, j1, j0, u2_same, u2_ne, u2_u2, upd_same, upd_ne, mE, u2_dyn, dyn_u2, dyn_hi, u2_hi, u2_hj, u2_dynj, u2_dd, u2_d0, u2_0d]
    have hJ121 : J 121 = nonR nw (16 - nw) (nonR 0 nw (I 121)) := by
      show jC nk np (jB nw (jA s nw n (j1 (j0 I)))) 121 = _
      simp (decide := true) only [jC, jB, jA, j1, j0, u2_same, u2_ne, u2_u2, upd_same, upd_ne, mE, u2_dyn, dyn_u2, dyn_hi, u2_hi, u2_hj, u2_dynj, u2_dd, u2_d0, u2_0d]
    have hJ122 : J 122 = wkR (I 124) nk 0 np (I 122) := by
      show jC nk np (jB nw (jA s nw n (j1 (j0 I)))) 122 = _
      simp (decide := true) only [jC, jB, jA, j1, j0, u2_same, u2_ne, u2_u2, upd_same, upd_ne, mE, u2_dyn, dyn_u2, dyn_hi, u2_hi, u2_hj, u2_dynj, u2_dd, u2_d0, u2_0d]
    have hGM : GvM s nw nk np nv n ak (I 85) (I 111) cn lN wN J := by
      unfold GvM
      rw [hJ72, hJ118, hJ122, hJ 82 (by decide) (by decide) (by decide) (by decide), hJ 124 (by decide) (by decide) (by decide) (by decide), hJ 85 (by decide) (by decide) (by decide) (by decide), hJ 111 (by decide) (by decide) (by decide) (by decide), hJ 113 (by decide) (by decide) (by decide) (by decide), hJ 115 (by decide) (by decide) (by decide) (by decide), hJ 116 (by decide) (by decide) (by decide) (by decide), hJ 117 (by decide) (by decide) (by decide) (by decide)]
      refine ⟨by simp (decide := true) only [u2_same, u2_ne, u2_u2, upd_same, upd_ne, mE, u2_dyn, dyn_u2, dyn_hi, u2_hi, u2_hj, u2_dynj, u2_dd, u2_d0, u2_0d]; exact hn3, h16, hk4, hp10, by simp (decide := true) only [u2_same, u2_ne, u2_u2, upd_same, upd_ne, mE, u2_dyn, dyn_u2, dyn_hi, u2_hi, u2_hj, u2_dynj, u2_dd, u2_d0, u2_0d]; exact hv4, hv3, h6, by simp (decide := true) only [u2_same, u2_ne, u2_u2, upd_same, upd_ne, mE, u2_dyn, dyn_u2, dyn_hi, u2_hi, u2_hj, u2_dynj, u2_dd, u2_d0, u2_0d], by simp (decide := true) only [u2_same, u2_ne, u2_u2, upd_same, upd_ne, mE, u2_dyn, dyn_u2, dyn_hi, u2_hi, u2_hj, u2_dynj, u2_dd, u2_d0, u2_0d]; exact hp3, hAK, fun k hk => hask _ k hk, LWm_of hLx, ?_, rfl, rfl, ?_⟩
      · intro p hp
        unfold wkR
        rw [if_pos (by omega)]
        exact wk_sm
      · intro a p ha hp
        exact ⟨(hlN a p ha hp).2, Iff.rfl⟩
    obtain ⟨v, I4, J4, t1, t2, t3, t4, t5, t6, t7, t8, t9, ta⟩ := giveTail (b := b) (F := F) (L := L2) (nx := 149 + a2) (us := us2) hSy hGW (Nat.le_trans (rm_0 hp10) hk4) hGX hGM (by show u2 (u2 Iw _ _) 26 _ 26 10 = _; rw [u2_same, upd_same]) (by rw [hJ72]; simp (decide := true) only [u2_same, u2_ne, u2_u2, upd_same, upd_ne, mE, u2_dyn, dyn_u2, dyn_hi, u2_hi, u2_hj, u2_dynj, u2_dd, u2_d0, u2_0d]) (by rw [hJ72]; simp (decide := true) only [u2_same, u2_ne, u2_u2, upd_same, upd_ne, mE, u2_dyn, dyn_u2, dyn_hi, u2_hi, u2_hj, u2_dynj, u2_dd, u2_d0, u2_0d]) (fun k hk => by
      rw [hJ121]
      unfold nonR
      by_cases hkn : k < nw
      · rw [if_neg (by omega), if_pos (by omega)]
      · rw [if_pos (by omega)])
    have hI4 : ∀ c, c ≠ 26 → c ≠ 27 → c ≠ 28 → c ≠ 30 → c ≠ 31 → c ≠ 32 → c ≠ 149 + hd → I4 c = I c := fun c h1 h2 h3 h4 h5 h6 h7 => by rw [t3 c h1 h4 h5 h6, hI3 c h1 h2 h3 h7]
    let I1 : Nat → Nat → Int32 := u2 I4 0 (upd (I4 0) 16 0)
    have hI1m : mM I1 I = I1 := by
      funext c
      unfold mM
      by_cases hc : 72 ≤ c ∧ c < 148
      · rw [if_pos hc]
        show I c = u2 I4 0 _ c
        rw [u2_ne (by omega), hI4 c (by omega) (by omega) (by omega) (by omega) (by omega) (by omega) (by omega)]
      · rw [if_neg hc]
    have hJ4 : ∀ c, c ≠ 72 → c ≠ 118 → c ≠ 119 → c ≠ 120 → c ≠ 121 → c ≠ 122 → J4 c = I c := fun c h1 h2 h3 h4 h5 h6 => by rw [t5 c h1 h3 h4 h5, hJ c h1 h2 h5 h6]
    have hJ4k : ∀ k, k ≠ 0 → k ≠ 1 → k ≠ 2 → k ≠ 72 → k ≠ 73 → k ≠ 74 → k ≠ 75 → J4 72 k = I 72 k := fun k h0 h1 h2 h3 h4 h5 h6 => by rw [t6 k h1 h2 h4 h5 h6, hJ72, upd_ne h5, upd_ne h4, upd_ne h3, upd_ne h3, upd_ne h0]
    refine ⟨E2, mM I1 J4, L2, P2, a2, us2, ow2, ⟨v, E2, I1, L2, P2, 149 + a2, us2, ?_, ?_⟩, y8, y9, ya, ?_, ?_, ⟨149 + hd, len, y3, y4, y6, Or.inr ⟨hd, rfl, y7⟩⟩, yb, yc, yd, ye, ?_, ?_⟩
    · have hall : f_X3_giveAll (ad b 26) (Int32.ofNat s) (lay b F E I L P (149 + a) us) = some (v, lay b F E2 I4 L2 P2 (149 + a2) us2) := by
        have h67 : f_X3_giveAll_67 (ad b 26) (lay b F E Ia L P (149 + a) us) = some (v, lay b F E2 I4 L2 P2 (149 + a2) us2) := by
          have x2' : f_X3_reckonWorths (ad b 26) (lay b F E Ia L P (149 + a) us) = some (lay b F E Iw L P (149 + a) us) := by
            simp (decide := true) only [f_X3_reckonWorths, isO_s, gI_s, gA_s, gL_s, pI_s, pZ_s, pL_s, aI_s, aL_s, aN_s, aQ_s, sI_s, sL_s, cr, LNs, Option.map_some, Option.map_none, Option.bind_some, b2, tr, lt, if_true, if_false, ckZ, X_within, M_in, inR_z, X_refuse, X_tell, X_deny, X_grant, M_refused, M_denied, M_done, M_granted, u2_same, u2_ne, u2_u2, upd_same, upd_ne, aW0, ixR_z, ixR_1, M_isWall, M_isPainter, M_isWork, X_has4, X_has10, X_at, or_false, false_or, or_true, true_or, not_true, not_false_iff, Option.isSome_some, isO_d, gI_d, gA_d, pI_d, ne_eq, not_false_eq_true, u2_hi, u2_hj, u2_dyn, u2_dynj, Nat.reduceAdd, mX_r, mX_rD, mX_rDj, mM_r, mX_u, mX_uM, mX_uD, mX_uDj, mM_u, mM_uX, mM_uD, mM_uDj, u2_dd, u2_d0, u2_0d]
            exact x2
          unfold f_X3_giveAll_67
          rw [x2', Option.bind_some, y1, Option.bind_some]
          have hpi : pI 3 (lay b F E2 (u2 Iw (149 + hd) r) L2 P2 (149 + a2) us2) (ad b 26) 10 (-1) = some (lay b F E2 I3 L2 P2 (149 + a2) us2) := by
            simp (decide := true) only [isO_s, gI_s, gA_s, gL_s, pI_s, pZ_s, pL_s, aI_s, aL_s, aN_s, aQ_s, sI_s, sL_s, cr, LNs, Option.map_some, Option.map_none, Option.bind_some, b2, tr, lt, if_true, if_false, ckZ, X_within, M_in, inR_z, X_refuse, X_tell, X_deny, X_grant, M_refused, M_denied, M_done, M_granted, u2_same, u2_ne, u2_u2, upd_same, upd_ne, aW0, ixR_z, ixR_1, M_isWall, M_isPainter, M_isWork, X_has4, X_has10, X_at, or_false, false_or, or_true, true_or, not_true, not_false_iff, Option.isSome_some, isO_d, gI_d, gA_d, pI_d, ne_eq, not_false_eq_true, u2_hi, u2_hj, u2_dyn, u2_dynj, Nat.reduceAdd, mX_r, mX_rD, mX_rDj, mM_r, mX_u, mX_uM, mX_uD, mX_uDj, mM_u, mM_uX, mM_uD, mM_uDj, u2_dd, u2_d0, u2_0d]
            rfl
          rw [hpi, Option.bind_some]
          exact t1
        simp (decide := true) only [f_X3_giveAll, isO_s, gI_s, gA_s, gL_s, pI_s, pZ_s, pL_s, aI_s, aL_s, aN_s, aQ_s, sI_s, sL_s, cr, LNs, Option.map_some, Option.map_none, Option.bind_some, b2, tr, lt, if_true, if_false, ckZ, X_within, M_in, inR_z, X_refuse, X_tell, X_deny, X_grant, M_refused, M_denied, M_done, M_granted, u2_same, u2_ne, u2_u2, upd_same, upd_ne, aW0, ixR_z, ixR_1, M_isWall, M_isPainter, M_isWork, X_has4, X_has10, X_at, or_false, false_or, or_true, true_or, not_true, not_false_iff, Option.isSome_some, isO_d, gI_d, gA_d, pI_d, ne_eq, not_false_eq_true, u2_hi, u2_hj, u2_dyn, u2_dynj, Nat.reduceAdd, mX_r, mX_rD, mX_rDj, mM_r, mX_u, mX_uM, mX_uD, mX_uDj, mM_u, mM_uX, mM_uD, mM_uDj, u2_dd, u2_d0, u2_0d]
        exact x1.trans h67
      simp (decide := true) only [f_X11_give, f_X3_areWalls_21, f_X3_areWalls_20, f_X3_areWalls, f_X3_areFree_72, f_X3_areFree_70, f_X3_areFree_36, f_X3_areFree, h0, hn2, h1, hfx, e11, hbc, hc6, hall, isO_s, gI_s, gA_s, gL_s, pI_s, pZ_s, pL_s, aI_s, aL_s, aN_s, aQ_s, sI_s, sL_s, cr, LNs, Option.map_some, Option.map_none, Option.bind_some, b2, tr, lt, if_true, if_false, ckZ, X_within, M_in, inR_z, X_refuse, X_tell, X_deny, X_grant, M_refused, M_denied, M_done, M_granted, u2_same, u2_ne, u2_u2, upd_same, upd_ne, aW0, ixR_z, ixR_1, M_isWall, M_isPainter, M_isWork, X_has4, X_has10, X_at, or_false, false_or, or_true, true_or, not_true, not_false_iff, Option.isSome_some, isO_d, gI_d, gA_d, pI_d, ne_eq, not_false_eq_true, u2_hi, u2_hj, u2_dyn, u2_dynj, Nat.reduceAdd, mX_r, mX_rD, mX_rDj, mM_r, mX_u, mX_uM, mX_uD, mX_uDj, mM_u, mM_uX, mM_uD, mM_uDj, u2_dd, u2_d0, u2_0d]
      rfl
    · have hpre := M_pre (b := b) (F := F) (E := E2) (L := L2) (P := P2) (nx := 149 + a2) (us := us2) (I := mM I1 I) (s := s) (nw := nw) (n := n) (nk := nk) (np := np) s2 s1 h16 hn h6 hk4 hp10 (by rw [mM_r (by decide)]; exact hn3) (by rw [mM_r (by decide)]; exact hk3) (by rw [mM_r (by decide)]; exact hp3) (by simp (decide := true) only [mM_r]; exact hfr) h0 h2
      rw [j0_mm, j1_mm, jA_mm, jB_mm, jC_mm, hI1m] at hpre
      rw [hpre]
      exact t2 I1
    · have e0 : mM I1 J4 0 = upd (I 0) 16 0 := by
        have h1 : mM I1 J4 0 = I1 0 := if_neg (by decide)
        have h2 : I1 0 = upd (I4 0) 16 0 := u2_same I4 0 _
        rw [h1, h2, hI4 0 (by decide) (by decide) (by decide) (by decide) (by decide) (by decide) (by omega)]
      have e72 : mM I1 J4 72 = J4 72 := mM_r (by decide)
      unfold GTI
      rw [e0, e72, t7, t8, hJ4k 3 (by decide) (by decide) (by decide) (by decide) (by decide) (by decide) (by decide)]
      simp (decide := true) only [u2_same, u2_ne, u2_u2, upd_same, upd_ne, mE, u2_dyn, dyn_u2, dyn_hi, u2_hi, u2_hj, u2_dynj, u2_dd, u2_d0, u2_0d]
      exact GT_end hT (by decide)
    · have e32 : mM I1 J4 32 = I4 32 := (if_neg (by decide) : mM I1 J4 32 = I1 32).trans (show u2 I4 0 (upd (I4 0) 16 0) 32 = I4 32 from u2_ne (by decide))
      have e121 : mM I1 J4 121 = J4 121 := mM_r (by decide)
      have e72 : mM I1 J4 72 = J4 72 := mM_r (by decide)
      rw [e32, e121, e72]
      exact ⟨fun h => by rw [t9] at h; exact absurd h (by decide), fun _ => ta⟩
    · intro c hc hc7
      have hcd : c ≠ hd := by
        rintro rfl
        have := yf hc7
        omega
      show mM I1 J4 (149 + c) = I (149 + c)
      unfold mM
      rw [if_neg (by omega)]
      show u2 I4 0 (upd (I4 0) 16 0) (149 + c) = _
      rw [u2_ne (by omega), hI4 (149 + c) (by omega) (by omega) (by omega) (by omega) (by omega) (by omega) (by omega)]
    · intro c k h0 k1 k2
      simp at k1 k2
      by_cases hc : 72 ≤ c ∧ c < 148
      · rw [mM_r hc]
        by_cases q2 : c = 72
        · subst q2
          exact hJ4k k (by omega) (by omega) (by omega) (by omega) (by omega) (by omega) (by omega)
        · rw [hJ4 c q2 (by omega) (by omega) (by omega) (by omega) (by omega)]
      · have : mM I1 J4 c = I1 c := if_neg hc
        rw [this]
        show u2 I4 0 (upd (I4 0) 16 0) c k = _
        by_cases q0 : c = 0
        · subst q0
          rw [u2_same, upd_ne (by omega), hI4 0 (by decide) (by decide) (by decide) (by decide) (by decide) (by decide) (by omega)]
        · rw [u2_ne q0]
          by_cases q26 : c = 26
          · subst q26
            rw [t4 k (by omega)]
            show u2 (u2 Iw _ _) 26 _ 26 k = _
            rw [u2_same, upd_ne (by omega), hIw26, upd_ne (by omega), upd_ne (by omega)]
          · rw [hI4 c q26 (by omega) (by omega) (by omega) (by omega) (by omega) (by omega)]
  · have hc6 : (Int32.ofNat (bcN s) ≤ 6) = False := oN_leF (a := 6) (by omega) (by have := bcN_le s; omega)
    refine href 6 (by decide) ⟨-1, ?_, ?_⟩
    · (simp (decide := true) only [f_X11_give, f_X3_areWalls_21, f_X3_areWalls_20, f_X3_areWalls, f_X3_areFree_72, f_X3_areFree_70, f_X3_areFree_36, f_X3_areFree, h0, hn2, h1, hfx, e11, hbc, hc6, isO_s, gI_s, gA_s, gL_s, pI_s, pZ_s, pL_s, aI_s, aL_s, aN_s, aQ_s, sI_s, sL_s, cr, LNs, Option.map_some, Option.map_none, Option.bind_some, b2, tr, lt, if_true, if_false, ckZ, X_within, M_in, inR_z, X_refuse, X_tell, X_deny, X_grant, M_refused, M_denied, M_done, M_granted, u2_same, u2_ne, u2_u2, upd_same, upd_ne, aW0, ixR_z, ixR_1, M_isWall, M_isPainter, M_isWork, X_has4, X_has10, X_at, or_false, false_or, or_true, true_or, not_true, not_false_iff, Option.isSome_some, isO_d, gI_d, gA_d, pI_d, ne_eq, not_false_eq_true, u2_hi, u2_hj, u2_dyn, u2_dynj, Nat.reduceAdd, mX_r, mX_rD, mX_rDj, mM_r, mX_u, mX_uM, mX_uD, mX_uDj, mM_u, mM_uX, mM_uD, mM_uDj, u2_dd, u2_d0, u2_0d]; try exact rfl)
    · have hm := M_free (b := b) (F := F) (E := E) (L := L) (P := P) (nx := 149 + a) (us := us) (I := j0 (u2 I 0 (upd (I 0) 16 6))) (s := s) (nw := nw) s2 (by simp (decide := true) only [j0, u2_same, u2_ne, u2_u2, upd_same, upd_ne, mE, u2_dyn, dyn_u2, dyn_hi, u2_hi, u2_hj, u2_dynj, u2_dd, u2_d0, u2_0d]; exact hn3) h16 nw 0 (by omega) FU (by unfold FU; omega)
      rw [if_neg (by simp (decide := true) only [j0, u2_same, u2_ne, u2_u2, upd_same, upd_ne, mE, u2_dyn, dyn_u2, dyn_hi, u2_hi, u2_hj, u2_dynj, u2_dd, u2_d0, u2_0d]; exact hfr), if_neg (by rw [hc6]; exact id), z0] at hm
      simp (decide := true) only [f_X15_give, h0, hn3, h2, isO_s, gI_s, gA_s, gL_s, pI_s, pZ_s, pL_s, aI_s, aL_s, aN_s, aQ_s, sI_s, sL_s, cr, LNs, Option.map_some, Option.map_none, Option.bind_some, b2, tr, lt, if_true, if_false, ckZ, X_within, M_in, inR_z, X_refuse, X_tell, X_deny, X_grant, M_refused, M_denied, M_done, M_granted, u2_same, u2_ne, u2_u2, upd_same, upd_ne, aW0, ixR_z, ixR_1, M_isWall, M_isPainter, M_isWork, X_has4, X_has10, X_at, or_false, false_or, or_true, true_or, not_true, not_false_iff, Option.isSome_some, isO_d, gI_d, gA_d, pI_d, ne_eq, not_false_eq_true, u2_hi, u2_hj, u2_dyn, u2_dynj, Nat.reduceAdd, mX_r, mX_rD, mX_rDj, mM_r, mX_u, mX_uM, mX_uD, mX_uDj, mM_u, mM_uX, mM_uD, mM_uDj, u2_dd, u2_d0, u2_0d]
      refine hm.trans ?_
      simp (decide := true) only [j0, rf, u2_same, u2_ne, u2_u2, upd_same, upd_ne, mE, u2_dyn, dyn_u2, dyn_hi, u2_hi, u2_hj, u2_dynj, u2_dd, u2_d0, u2_0d]
end GIVN
