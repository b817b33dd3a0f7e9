/-! ===== trail: one set of stops ===== -/
def rvV (n : Nat) (st : Nat → Nat) (m89 T : RW) (s k : Nat) : Int32 := tvV n st m89 T (s - 2 ^ k) k
/-- the row of set s, from stop i on; T0 is the table ahead of it -/
def rowF (n : Nat) (st : Nat → Nat) (m89 T0 T : RW) (s i : Nat) : RW := fun x => if (9 * s + i ≤ x ∧ x < 9 * s + n) ∧ s.testBit (x - 9 * s) = true then rvV n st m89 T0 s (x - 9 * s) else T x
def lnF (n : Nat) (st : Nat → Nat) (m89 T0 : RW) (s : Nat) : Nat → Nat → Int32 → Int32
  | _, 0, a => a
  | i, m + 1, a => lnF n st m89 T0 s (i + 1) m (if s.testBit i = true then mnI a (rvV n st m89 T0 s i) else a)
def hsF (st : Nat → Nat) (th : RW) (s : Nat) : Nat → Nat → Int32 → Int32
  | _, 0, a => a
  | i, m + 1, a => hsF st th s (i + 1) m (if s.testBit i = true then a ||| th (st i) else a)
theorem rowF_0 {n : Nat} {st : Nat → Nat} {m89 T0 T : RW} {s : Nat} : rowF n st m89 T0 T s n = T := by
  funext x
  unfold rowF
  rw [if_neg (by omega)]
theorem rowF_s {n : Nat} {st : Nat → Nat} {m89 T0 T : RW} {s i : Nat} (h : ¬ s.testBit i = true) : rowF n st m89 T0 T s (i + 1) = rowF n st m89 T0 T s i := by
  funext x
  unfold rowF
  by_cases hz : x = 9 * s + i
  · subst hz
    rw [if_neg (by omega), if_neg]
    rintro ⟨-, h2⟩
    rw [Nat.add_sub_cancel_left] at h2
    exact h h2
  · by_cases hc : (9 * s + (i + 1) ≤ x ∧ x < 9 * s + n) ∧ s.testBit (x - 9 * s) = true
    · rw [if_pos hc, if_pos ⟨by omega, hc.2⟩]
    · rw [if_neg hc, if_neg (fun q => hc ⟨by omega, q.2⟩)]
theorem rowF_u {n : Nat} {st : Nat → Nat} {m89 T0 T : RW} {s i : Nat} (hi : i < n) (h : s.testBit i = true) : rowF n st m89 T0 (upd T (9 * s + i) (rvV n st m89 T0 s i)) s (i + 1) = rowF n st m89 T0 T s i := by
  funext x
  unfold rowF
  by_cases hz : x = 9 * s + i
  · subst hz
    rw [if_neg (by omega), upd_same, if_pos ⟨by omega, by rw [Nat.add_sub_cancel_left]; exact h⟩, Nat.add_sub_cancel_left]
  · rw [upd_ne hz]
    by_cases hc : (9 * s + (i + 1) ≤ x ∧ x < 9 * s + n) ∧ s.testBit (x - 9 * s) = true
    · rw [if_pos hc, if_pos ⟨by omega, hc.2⟩]
    · rw [if_neg hc, if_neg (fun q => hc ⟨by omega, q.2⟩)]
/-- the number of bits, as the reference reckons it -/
def knL : Nat → Int32 → Int32 → Option Int32
  | 0, _, _ => none
  | n + 1, a, x => if x = 0 then some a else knL n (a + 1) (x &&& (x - 1))
theorem knL_mono : ∀ (n m : Nat) (a x r : Int32), knL n a x = some r → knL (n + m) a x = some r := by
  intro n
  induction n with
  | zero => intro m a x r h; cases h
  | succ n ih =>
    intro m a x r h
    rw [Nat.succ_add]
    unfold knL at h ⊢
    by_cases hx : x = 0
    · rw [if_pos hx] at h ⊢; exact h
    · rw [if_neg hx] at h ⊢; exact ih m _ _ _ h
theorem M_bitsL (h : AH) : ∀ (n : Nat) (a x r : Int32), knL n a x = some r → f_X15_bits_4 n a x h = some (r, h) := by
  intro n
  induction n with
  | zero => intro a x r hh; cases hh
  | succ n ih =>
    intro a x r hh
    unfold knL at hh
    unfold f_X15_bits_4
    by_cases hx : x = 0
    · rw [if_pos hx] at hh ⊢; cases hh; rfl
    · rw [if_neg hx] at hh ⊢; exact ih _ _ _ hh
theorem kn9 : ∀ i, i < 32 → ∀ j, j < 16 → knL 10 0 (Int32.ofNat (16 * i + j)) = some (bcF (Int32.ofNat (16 * i + j))) := by decide +kernel
theorem M_bits9 {s : Nat} (hs : s < 512) (h : AH) : f_X15_bits (Int32.ofNat s) h = some (bcF (Int32.ofNat s), h) := by
  have := kn9 (s / 16) (by omega) (s % 16) (Nat.mod_lt _ (by decide))
  rw [show 16 * (s / 16) + s % 16 = s by omega] at this
  exact M_bitsL h FU _ _ _ (knL_mono 10 3999990 _ _ _ this)
section TRL2
variable {b : Nat} {F : Nat → Option AE} {D E : Nat → Option KD} {I : Nat → Nat → Int32} {L : Nat → Nat → Int64} {P : Nat → Nat → Option Nat} {nx us : Nat}
theorem X_wayOver {nw n s d len : Nat} {st : Nat → Nat} {q wd hg ow : Nat → Nat} {m89 m142 T0 : RW} (h16 : nw ≤ 16) (hA : WA nw q wd hg ow E (P 2)) (hP : P 33 8 = some (149 + d)) (hK : kdf E (149 + d) = some (.inl (0, len))) (hlen : 9 * 2 ^ n ≤ len) (hl2 : len ≤ 100000) (hs : s < 2 ^ n) : ∀ (m i : Nat), i + m = n → ∀ (I : Nat → Nat → Int32) (a : Int32) (fu : Nat), m < fu → I 1 1 = Int32.ofNat nw → GWay (I 4) m89 → TS nw n st (I 37) m142 → I 33 6 = Int32.ofNat n → (∀ x, x < 9 * s → I (149 + d) x = T0 x) → f_X6_wayOver_5 fu (ad b 33) (Int32.ofNat s) a (Int32.ofNat i) (lay b F E I L P nx us) = some (lnF n st m89 T0 s i m a, lay b F E (u2 I (149 + d) (rowF n st m89 T0 (I (149 + d)) s i)) L P nx us) := by
  have gA8 := fun (I : Nat → Nat → Int32) => (show gA 6 (lay b F E I L P nx us) (ad b 33) 8 = some (ad b (149 + d)) by rw [gA_sP (by decide) (by decide) (by decide), hP]; rfl)
  intro m
  induction m with
  | zero =>
    intro i hi I a fu hfu hn1 hG hS h6 hT
    obtain ⟨fu, rfl⟩ : ∃ z, fu = z + 1 := ⟨fu - 1, by omega⟩
    have : i = n := by omega
    subst this
    rw [rowF_0, u2_id]
    simp (decide := true) only [f_X6_wayOver_5, h6, Int32.le_refl, isO_s, gI_s, gA_s, gL_s, pI_s, pZ_s, pL_s, aI_s, aL_s, aN_s, aQ_s, sI_s, sL_s, cr, LNs, Option.map_some, Option.map_none, Option.bind_some, b2, tr, lt, if_true, if_false, ckZ, X_within, M_in, inR_z, X_refuse, X_tell, X_deny, X_grant, M_refused, M_denied, M_done, M_granted, u2_same, u2_ne, u2_u2, upd_same, upd_ne, aW0, ixR_z, ixR_1, M_isWall, M_isPainter, M_isWork, X_has4, X_has10, X_at, or_false, false_or, or_true, true_or, not_true, not_false_iff, Option.isSome_some, isO_d, gI_d, gA_d, pI_d, ne_eq, not_false_eq_true, u2_hi, u2_hj, u2_dyn, u2_dynj, Nat.reduceAdd, mX_r, mX_rD, mX_rDj, mM_r, mX_u, mX_uM, mX_uD, mX_uDj, mM_u, mM_uX, mM_uD, mM_uDj, u2_dd, u2_d0, u2_0d]
    rfl
  | succ m ih =>
    intro i hi I a fu hfu hn1 hG hS h6 hT
    obtain ⟨fu, rfl⟩ : ∃ z, fu = z + 1 := ⟨fu - 1, by omega⟩
    have hn9 := hS.1
    have hp := pw_n n (by omega)
    have hin : i < n := by omega
    have e2 := oN_leF hin (by omega)
    have eb := tb0 (s := s) (k := i) (by omega) (by omega)
    have hd : lnF n st m89 T0 s i (m + 1) a = lnF n st m89 T0 s (i + 1) m (if s.testBit i = true then mnI a (rvV n st m89 T0 s i) else a) := rfl
    rw [hd]
    by_cases hb : s.testBit i = true
    · obtain ⟨x1, x2, x3⟩ := set_rest (by omega) (by omega) hb
      have hb' : (s.testBit i = false) = False := by rw [hb]; simp
      have hw := X_wayTo (b := b) (F := F) (E := E) (L := L) (P := P) (nx := nx) (us := us) (I := I) (rest := s - 2 ^ i) (k := i) hn1 h16 hA hG hS h6 hP hK hlen hl2 (by omega) hin
      have hv : tvV n st m89 (I (149 + d)) (s - 2 ^ i) i = rvV n st m89 T0 s i := tvV_congr (fun j hj _ => hT _ (by omega))
      rw [hv] at hw
      have e9 : Int32.ofNat s * 9 + Int32.ofNat i = Int32.ofNat (9 * s + i) := by rw [show (9 : Int32) = Int32.ofNat 9 from rfl, oN_mul, oN_add, Nat.mul_comm]
      have e3 := oN_neg (w := 9 * s + i) (by omega)
      have e4 := oN_leF (show 9 * s + i < len by omega) (by omega)
      have e5 : iN (Int32.ofNat (9 * s + i)) len = some (9 * s + i) := iN_oN (by omega) (by omega)
      have := ih (i + 1) (by omega) (u2 I (149 + d) (upd (I (149 + d)) (9 * s + i) (rvV n st m89 T0 s i))) (mnI a (rvV n st m89 T0 s i)) fu (by omega) (by simp (decide := true) only [u2_same, u2_ne, u2_u2, upd_same, upd_ne, mE, u2_dyn, dyn_u2, dyn_hi, u2_hi, u2_hj, u2_dynj, u2_dd, u2_d0, u2_0d]; exact hn1) (by simp (decide := true) only [u2_same, u2_ne, u2_u2, upd_same, upd_ne, mE, u2_dyn, dyn_u2, dyn_hi, u2_hi, u2_hj, u2_dynj, u2_dd, u2_d0, u2_0d]; exact hG) (by simp (decide := true) only [u2_same, u2_ne, u2_u2, upd_same, upd_ne, mE, u2_dyn, dyn_u2, dyn_hi, u2_hi, u2_hj, u2_dynj, u2_dd, u2_d0, u2_0d]; exact hS) (by simp (decide := true) only [u2_same, u2_ne, u2_u2, upd_same, upd_ne, mE, u2_dyn, dyn_u2, dyn_hi, u2_hi, u2_hj, u2_dynj, u2_dd, u2_d0, u2_0d]; exact h6) (by
        intro x hx
        rw [u2_same, upd_ne (by omega)]
        exact hT x hx)
      simp only [u2_same, u2_u2] at this
      rw [rowF_u hin hb] at this
      rw [if_pos hb, ← this]
      simp (decide := true) only [f_X6_wayOver_5, f_X6_wayOver_68, f_X6_wayOver_75, h6, e2, eb, hb', x1, hw, e9, e3, gA8, aN_d hK, sI_d hK (by decide), e4, e5, oN_succ, isO_s, gI_s, gA_s, gL_s, pI_s, pZ_s, pL_s, aI_s, aL_s, aN_s, aQ_s, sI_s, sL_s, cr, LNs, Option.map_some, Option.map_none, Option.bind_some, b2, tr, lt, if_true, if_false, ckZ, X_within, M_in, inR_z, X_refuse, X_tell, X_deny, X_grant, M_refused, M_denied, M_done, M_granted, u2_same, u2_ne, u2_u2, upd_same, upd_ne, aW0, ixR_z, ixR_1, M_isWall, M_isPainter, M_isWork, X_has4, X_has10, X_at, or_false, false_or, or_true, true_or, not_true, not_false_iff, Option.isSome_some, isO_d, gI_d, gA_d, pI_d, ne_eq, not_false_eq_true, u2_hi, u2_hj, u2_dyn, u2_dynj, Nat.reduceAdd, mX_r, mX_rD, mX_rDj, mM_r, mX_u, mX_uM, mX_uD, mX_uDj, mM_u, mM_uX, mM_uD, mM_uDj, u2_dd, u2_d0, u2_0d]
    · have hb' : (s.testBit i = false) = True := by simp [hb]
      have := ih (i + 1) (by omega) I a fu (by omega) hn1 hG hS h6 hT
      rw [rowF_s hb] at this
      rw [if_neg hb, ← this]
      simp (decide := true) only [f_X6_wayOver_5, f_X6_wayOver_75, h6, e2, eb, hb', oN_succ, isO_s, gI_s, gA_s, gL_s, pI_s, pZ_s, pL_s, aI_s, aL_s, aN_s, aQ_s, sI_s, sL_s, cr, LNs, Option.map_some, Option.map_none, Option.bind_some, b2, tr, lt, if_true, if_false, ckZ, X_within, M_in, inR_z, X_refuse, X_tell, X_deny, X_grant, M_refused, M_denied, M_done, M_granted, u2_same, u2_ne, u2_u2, upd_same, upd_ne, aW0, ixR_z, ixR_1, M_isWall, M_isPainter, M_isWork, X_has4, X_has10, X_at, or_false, false_or, or_true, true_or, not_true, not_false_iff, Option.isSome_some, isO_d, gI_d, gA_d, pI_d, ne_eq, not_false_eq_true, u2_hi, u2_hj, u2_dyn, u2_dynj, Nat.reduceAdd, mX_r, mX_rD, mX_rDj, mM_r, mX_u, mX_uM, mX_uD, mX_uDj, mM_u, mM_uX, mM_uD, mM_uDj, u2_dd, u2_d0, u2_0d]
theorem X_themesOf {nw n s : Nat} {st : Nat → Nat} {q wd hg ow : Nat → Nat} {m75 m76 m79 m142 : RW} (hn1 : I 1 1 = Int32.ofNat nw) (h16 : nw ≤ 16) (hA : WA nw q wd hg ow E (P 2)) (hC : WC nw q (dyn I) m75 m76 m79) (hS : TS nw n st (I 37) m142) (h6 : I 33 6 = Int32.ofNat n) (hs : s < 512) : f_X6_themesOf (ad b 33) (Int32.ofNat s) (lay b F E I L P nx us) = some (hsF st m79 s 0 n 0, (lay b F E I L P nx us)) := by
  have hn9 := hS.1
  have lp : ∀ (m i : Nat), i + m = n → ∀ (a : Int32) (fu : Nat), m < fu → f_X6_themesOf_4 fu (ad b 33) (Int32.ofNat s) a (Int32.ofNat i) (lay b F E I L P nx us) = some (hsF st m79 s i m a, (lay b F E I L P nx us)) := by
    intro m
    induction m with
    | zero =>
      intro i hi a fu hfu
      obtain ⟨fu, rfl⟩ : ∃ z, fu = z + 1 := ⟨fu - 1, by omega⟩
      have : i = n := by omega
      subst this
      simp (decide := true) only [f_X6_themesOf_4, h6, Int32.le_refl, isO_s, gI_s, gA_s, gL_s, pI_s, pZ_s, pL_s, aI_s, aL_s, aN_s, aQ_s, sI_s, sL_s, cr, LNs, Option.map_some, Option.map_none, Option.bind_some, b2, tr, lt, if_true, if_false, ckZ, X_within, M_in, inR_z, X_refuse, X_tell, X_deny, X_grant, M_refused, M_denied, M_done, M_granted, u2_same, u2_ne, u2_u2, upd_same, upd_ne, aW0, ixR_z, ixR_1, M_isWall, M_isPainter, M_isWork, X_has4, X_has10, X_at, or_false, false_or, or_true, true_or, not_true, not_false_iff, Option.isSome_some, isO_d, gI_d, gA_d, pI_d, ne_eq, not_false_eq_true, u2_hi, u2_hj, u2_dyn, u2_dynj, Nat.reduceAdd, mX_r, mX_rD, mX_rDj, mM_r, mX_u, mX_uM, mX_uD, mX_uDj, mM_u, mM_uX, mM_uD, mM_uDj, u2_dd, u2_d0, u2_0d]
      rfl
    | succ m ih =>
      intro i hi a fu hfu
      obtain ⟨fu, rfl⟩ : ∃ z, fu = z + 1 := ⟨fu - 1, by omega⟩
      have hin : i < n := by omega
      have e2 := oN_leF hin (by omega)
      have e6 : iN (Int32.ofNat i) 9 = some i := iN_oN (by omega) (by omega)
      obtain ⟨s1, s2, s3⟩ := hS.2 i hin
      have hwa := wAt_w hn1 h16 hA s1
      obtain ⟨-, hKd, -⟩ := hA _ s1
      obtain ⟨k0, -⟩ := WKk hKd
      have c4 : I (149 + q (st i)) 7 = m79 (st i) := (hC _ s1).2.2.2.1
      have eb := tb1 (s := s) (k := i) (by omega) (by omega)
      have hd : hsF st m79 s i (m + 1) a = hsF st m79 s (i + 1) m (if s.testBit i = true then a ||| m79 (st i) else a) := rfl
      rw [hd, ← ih (i + 1) (by omega) _ fu (by omega)]
      by_cases hb : s.testBit i = true
      · simp (decide := true) only [f_X6_themesOf_4, f_X6_themesOf_49, h6, e2, e6, s2, hwa, eb, hb, k0, c4, oN_succ, isO_s, gI_s, gA_s, gL_s, pI_s, pZ_s, pL_s, aI_s, aL_s, aN_s, aQ_s, sI_s, sL_s, cr, LNs, Option.map_some, Option.map_none, Option.bind_some, b2, tr, lt, if_true, if_false, ckZ, X_within, M_in, inR_z, X_refuse, X_tell, X_deny, X_grant, M_refused, M_denied, M_done, M_granted, u2_same, u2_ne, u2_u2, upd_same, upd_ne, aW0, ixR_z, ixR_1, M_isWall, M_isPainter, M_isWork, X_has4, X_has10, X_at, or_false, false_or, or_true, true_or, not_true, not_false_iff, Option.isSome_some, isO_d, gI_d, gA_d, pI_d, ne_eq, not_false_eq_true, u2_hi, u2_hj, u2_dyn, u2_dynj, Nat.reduceAdd, mX_r, mX_rD, mX_rDj, mM_r, mX_u, mX_uM, mX_uD, mX_uDj, mM_u, mM_uX, mM_uD, mM_uDj, u2_dd, u2_d0, u2_0d]
      · have hb' : (s.testBit i = true) = False := eq_false hb
        simp (decide := true) only [f_X6_themesOf_4, f_X6_themesOf_49, h6, e2, e6, s2, hwa, eb, hb', oN_succ, isO_s, gI_s, gA_s, gL_s, pI_s, pZ_s, pL_s, aI_s, aL_s, aN_s, aQ_s, sI_s, sL_s, cr, LNs, Option.map_some, Option.map_none, Option.bind_some, b2, tr, lt, if_true, if_false, ckZ, X_within, M_in, inR_z, X_refuse, X_tell, X_deny, X_grant, M_refused, M_denied, M_done, M_granted, u2_same, u2_ne, u2_u2, upd_same, upd_ne, aW0, ixR_z, ixR_1, M_isWall, M_isPainter, M_isWork, X_has4, X_has10, X_at, or_false, false_or, or_true, true_or, not_true, not_false_iff, Option.isSome_some, isO_d, gI_d, gA_d, pI_d, ne_eq, not_false_eq_true, u2_hi, u2_hj, u2_dyn, u2_dynj, Nat.reduceAdd, mX_r, mX_rD, mX_rDj, mM_r, mX_u, mX_uM, mX_uD, mX_uDj, mM_u, mM_uX, mM_uD, mM_uDj, u2_dd, u2_d0, u2_0d]
  simp (decide := true) only [f_X6_themesOf_49, f_X6_themesOf, isO_s, gI_s, gA_s, gL_s, pI_s, pZ_s, pL_s, aI_s, aL_s, aN_s, aQ_s, sI_s, sL_s, cr, LNs, Option.map_some, Option.map_none, Option.bind_some, b2, tr, lt, if_true, if_false, ckZ, X_within, M_in, inR_z, X_refuse, X_tell, X_deny, X_grant, M_refused, M_denied, M_done, M_granted, u2_same, u2_ne, u2_u2, upd_same, upd_ne, aW0, ixR_z, ixR_1, M_isWall, M_isPainter, M_isWork, X_has4, X_has10, X_at, or_false, false_or, or_true, true_or, not_true, not_false_iff, Option.isSome_some, isO_d, gI_d, gA_d, pI_d, ne_eq, not_false_eq_true, u2_hi, u2_hj, u2_dyn, u2_dynj, Nat.reduceAdd, mX_r, mX_rD, mX_rDj, mM_r, mX_u, mX_uM, mX_uD, mX_uDj, mM_u, mM_uX, mM_uD, mM_uDj, u2_dd, u2_d0, u2_0d]
  exact lp n 0 (by omega) 0 FU (by unfold FU; omega)
/-- the reference's loop over the stops of a set -/
theorem M_setL {nw n s : Nat} {st : Nat → Nat} {x4 x37 T0 : RW} {i2 i3 i4 : Int32} {k129 : Nat → Int32 → Int32 → Int32 → Int32 → AH → Option (Int32 × AH)} (h16 : nw ≤ 16) (hs : s < 2 ^ n) : ∀ (m i : Nat), i + m = n → ∀ (I : Nat → Nat → Int32) (hs0 a : Int32) (fu : Nat), GWay x4 (I 89) → TS nw n st x37 (I 142) → I 72 101 = Int32.ofNat n → (∀ x, x < 9 * s → I 143 x = T0 x) → f_X15_trail_150 k129 (fu + 1 + m) (ad b 72) i2 i3 i4 (Int32.ofNat s) hs0 a (Int32.ofNat i) (lay b F E I L P nx us) = f_X15_trail_150 k129 (fu + 1) (ad b 72) i2 i3 i4 (Int32.ofNat s) (hsF st (I 79) s i m hs0) (lnF n st (I 89) T0 s i m a) (Int32.ofNat n) (lay b F E (u2 I 143 (rowF n st (I 89) T0 (I 143) s i)) L P nx us) := by
  intro m
  induction m with
  | zero =>
    intro i hi I hs0 a fu hG hS h6 hT
    have : i = n := by omega
    subst this
    rw [rowF_0, u2_id]
    rfl
  | succ m ih =>
    intro i hi I hs0 a fu hG hS h6 hT
    have hn9 := hS.1
    have hp := pw_n n (by omega)
    have hin : i < n := by omega
    have e2 := oN_leF hin (by omega)
    have eb := tb0 (s := s) (k := i) (by omega) (by omega)
    have hd : lnF n st (I 89) T0 s i (m + 1) a = lnF n st (I 89) T0 s (i + 1) m (if s.testBit i = true then mnI a (rvV n st (I 89) T0 s i) else a) := rfl
    have hd2 : hsF st (I 79) s i (m + 1) hs0 = hsF st (I 79) s (i + 1) m (if s.testBit i = true then hs0 ||| I 79 (st i) else hs0) := rfl
    rw [hd, hd2]
    show f_X15_trail_150 k129 (fu + 1 + m + 1) (ad b 72) i2 i3 i4 (Int32.ofNat s) hs0 a (Int32.ofNat i) (lay b F E I L P nx us) = _
    by_cases hb : s.testBit i = true
    · obtain ⟨x1, x2, x3⟩ := set_rest (by omega) (by omega) hb
      have hb' : (s.testBit i = false) = False := by rw [hb]; simp
      have e6 : iN (Int32.ofNat i) 9 = some i := iN_oN (by omega) (by omega)
      obtain ⟨s1, s2, s3⟩ := hS.2 i hin
      have e7 : iN (Int32.ofNat (st i)) 16 = some (st i) := iN_oN (by omega) (by omega)
      have hw := fun a0 (ha : a0 = if s - 2 ^ i = 0 then 0 else 1000000) => M_wayTo (b := b) (F := F) (E := E) (L := L) (P := P) (nx := nx) (us := us) (I := I) (nw := nw) (n := n) (st := st) (x4 := x4) (x37 := x37) (i2 := i2) (i3 := i3) (i4 := i4) (i6 := hs0 ||| I 79 (st i)) (i7 := a) (a0 := a0) (k129 := k129) (k150 := f_X15_trail_150 k129 (fu + 1 + m)) (rest := s - 2 ^ i) (s := s) (k := i) h16 hG hS h6 (by omega) hs hin ha
      have hv : tvV n st (I 89) (I 143) (s - 2 ^ i) i = rvV n st (I 89) T0 s i := tvV_congr (fun j hj _ => hT _ (by omega))
      rw [hv] at hw
      have := ih (i + 1) (by omega) (u2 I 143 (upd (I 143) (9 * s + i) (rvV n st (I 89) T0 s i))) (hs0 ||| I 79 (st i)) (mnI a (rvV n st (I 89) T0 s i)) fu (by simp (decide := true) only [u2_same, u2_ne, u2_u2, upd_same, upd_ne, mE, u2_dyn, dyn_u2, dyn_hi, u2_hi, u2_hj, u2_dynj, u2_dd, u2_d0, u2_0d]; exact hG) (by simp (decide := true) only [u2_same, u2_ne, u2_u2, upd_same, upd_ne, mE, u2_dyn, dyn_u2, dyn_hi, u2_hi, u2_hj, u2_dynj, u2_dd, u2_d0, u2_0d]; exact hS) (by simp (decide := true) only [u2_same, u2_ne, u2_u2, upd_same, upd_ne, mE, u2_dyn, dyn_u2, dyn_hi, u2_hi, u2_hj, u2_dynj, u2_dd, u2_d0, u2_0d]; exact h6) (by
        intro x hx
        rw [u2_same, upd_ne (by omega)]
        exact hT x hx)
      simp (decide := true) only [u2_same, u2_u2, u2_ne, ne_eq] at this
      rw [rowF_u hin hb] at this
      rw [if_pos hb, if_pos hb, ← this]
      by_cases h0 : s - 2 ^ i = 0
      · have hw := hw 0 (by rw [if_pos h0])
        rw [h0] at hw x2
        have e0 : (Int32.ofNat 0 = 0) = True := eq_true rfl
        simp (decide := true) only [f_X15_trail_150, f_X15_trail_211, h6, e2, eb, hb', e6, s3, e7, x2, e0, isO_s, gI_s, gA_s, gL_s, pI_s, pZ_s, pL_s, aI_s, aL_s, aN_s, aQ_s, sI_s, sL_s, cr, LNs, Option.map_some, Option.map_none, Option.bind_some, b2, tr, lt, if_true, if_false, ckZ, X_within, M_in, inR_z, X_refuse, X_tell, X_deny, X_grant, M_refused, M_denied, M_done, M_granted, u2_same, u2_ne, u2_u2, upd_same, upd_ne, aW0, ixR_z, ixR_1, M_isWall, M_isPainter, M_isWork, X_has4, X_has10, X_at, or_false, false_or, or_true, true_or, not_true, not_false_iff, Option.isSome_some, isO_d, gI_d, gA_d, pI_d, ne_eq, not_false_eq_true, u2_hi, u2_hj, u2_dyn, u2_dynj, Nat.reduceAdd, mX_r, mX_rD, mX_rDj, mM_r, mX_u, mX_uM, mX_uD, mX_uDj, mM_u, mM_uX, mM_uD, mM_uDj, u2_dd, u2_d0, u2_0d]
        exact hw
      · have hw := hw 1000000 (by rw [if_neg h0])
        have e0 : (Int32.ofNat (s - 2 ^ i) = 0) = False := oN_ne (c := 0) h0 (by omega) (by omega)
        simp (decide := true) only [f_X15_trail_150, f_X15_trail_211, h6, e2, eb, hb', e6, s3, e7, x2, e0, isO_s, gI_s, gA_s, gL_s, pI_s, pZ_s, pL_s, aI_s, aL_s, aN_s, aQ_s, sI_s, sL_s, cr, LNs, Option.map_some, Option.map_none, Option.bind_some, b2, tr, lt, if_true, if_false, ckZ, X_within, M_in, inR_z, X_refuse, X_tell, X_deny, X_grant, M_refused, M_denied, M_done, M_granted, u2_same, u2_ne, u2_u2, upd_same, upd_ne, aW0, ixR_z, ixR_1, M_isWall, M_isPainter, M_isWork, X_has4, X_has10, X_at, or_false, false_or, or_true, true_or, not_true, not_false_iff, Option.isSome_some, isO_d, gI_d, gA_d, pI_d, ne_eq, not_false_eq_true, u2_hi, u2_hj, u2_dyn, u2_dynj, Nat.reduceAdd, mX_r, mX_rD, mX_rDj, mM_r, mX_u, mX_uM, mX_uD, mX_uDj, mM_u, mM_uX, mM_uD, mM_uDj, u2_dd, u2_d0, u2_0d]
        exact hw
    · have hb' : (s.testBit i = false) = True := by simp [hb]
      have := ih (i + 1) (by omega) I hs0 a fu hG hS h6 hT
      rw [rowF_s hb] at this
      rw [if_neg hb, if_neg hb, ← this]
      simp (decide := true) only [f_X15_trail_150, f_X15_trail_305, h6, e2, eb, hb', oN_succ, isO_s, gI_s, gA_s, gL_s, pI_s, pZ_s, pL_s, aI_s, aL_s, aN_s, aQ_s, sI_s, sL_s, cr, LNs, Option.map_some, Option.map_none, Option.bind_some, b2, tr, lt, if_true, if_false, ckZ, X_within, M_in, inR_z, X_refuse, X_tell, X_deny, X_grant, M_refused, M_denied, M_done, M_granted, u2_same, u2_ne, u2_u2, upd_same, upd_ne, aW0, ixR_z, ixR_1, M_isWall, M_isPainter, M_isWork, X_has4, X_has10, X_at, or_false, false_or, or_true, true_or, not_true, not_false_iff, Option.isSome_some, isO_d, gI_d, gA_d, pI_d, ne_eq, not_false_eq_true, u2_hi, u2_hj, u2_dyn, u2_dynj, Nat.reduceAdd, mX_r, mX_rD, mX_rDj, mM_r, mX_u, mX_uM, mX_uD, mX_uDj, mM_u, mM_uX, mM_uD, mM_uDj, u2_dd, u2_d0, u2_0d]
end TRL2
