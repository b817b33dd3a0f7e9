/-! ===== trail: bits, ways over sets of stops ===== -/
theorem bt_oN {s k : Nat} (hs : s < 2147483648) (hk : k < 32) : bt (Int32.ofNat s) k = s.testBit k := by
  unfold bt
  show (BitVec.ofNat 32 s).getLsbD k = _
  rw [BitVec.getLsbD_ofNat]
  simp [hk]
theorem tb0 {s k : Nat} (hs : s < 2147483648) (hk : k < 32) : ((Int32.ofNat s >>> (Int32.ofNat k &&& 31)) &&& 1 = 0) = (s.testBit k = false) := by
  rw [bt_0 hk, bt_oN hs hk]
theorem tb1 {s k : Nat} (hs : s < 2147483648) (hk : k < 32) : ((Int32.ofNat s >>> (Int32.ofNat k &&& 31)) &&& 1 = 1) = (s.testBit k = true) := by
  rw [bt_1 hk, bt_oN hs hk]
theorem set_rest' : ∀ i, i < 32 → ∀ j, j < 16 → ∀ k, k < 9 → (16 * i + j).testBit k = true → Int32.ofNat (16 * i + j) ^^^ (1 <<< (Int32.ofNat k &&& 31)) = Int32.ofNat (16 * i + j - 2 ^ k) ∧ Int32.ofNat (16 * i + j) &&& ((1 <<< (Int32.ofNat k &&& 31)) ^^^ (-1)) = Int32.ofNat (16 * i + j - 2 ^ k) ∧ 2 ^ k ≤ 16 * i + j := by decide +kernel
theorem set_rest {s k : Nat} (hs : s < 512) (hk : k < 9) (h : s.testBit k = true) : Int32.ofNat s ^^^ (1 <<< (Int32.ofNat k &&& 31)) = Int32.ofNat (s - 2 ^ k) ∧ Int32.ofNat s &&& ((1 <<< (Int32.ofNat k &&& 31)) ^^^ (-1)) = Int32.ofNat (s - 2 ^ k) ∧ s - 2 ^ k < s := by
  have := set_rest' (s / 16) (by omega) (s % 16) (Nat.mod_lt _ (by decide)) k hk
  rw [show 16 * (s / 16) + s % 16 = s by omega] at this
  obtain ⟨a, b, c⟩ := this h
  have : 0 < 2 ^ k := Nat.two_pow_pos k
  exact ⟨a, b, by omega⟩
theorem sh_n : ∀ n, n < 10 → (1 : Int32) <<< (Int32.ofNat n &&& 31) = Int32.ofNat (2 ^ n) := by decide +kernel
theorem pw_n : ∀ n, n < 10 → 2 ^ n ≤ 512 := by decide
/-- the least way to stop k over the rest's stops -/
def tvF (st : Nat → Nat) (m89 T : RW) (rest k : Nat) : Nat → Nat → Int32 → Int32
  | _, 0, acc => acc
  | i, m + 1, acc => tvF st m89 T rest k (i + 1) m (if rest.testBit i = true then mnI acc (T (9 * rest + i) + Int32.ofNat (dN m89 (st i) (st k))) else acc)
def tvV (n : Nat) (st : Nat → Nat) (m89 T : RW) (rest k : Nat) : Int32 := if rest = 0 then 0 else tvF st m89 T rest k 0 n 1000000
theorem tvF_congr {st : Nat → Nat} {m89 T U : RW} {rest k : Nat} : ∀ (m i : Nat) (acc : Int32), (∀ j, i ≤ j → j < i + m → rest.testBit j = true → T (9 * rest + j) = U (9 * rest + j)) → tvF st m89 T rest k i m acc = tvF st m89 U rest k i m acc := by
  intro m
  induction m with
  | zero => intro i acc h; rfl
  | succ m ih =>
    intro i acc h
    show tvF st m89 T rest k (i + 1) m (if rest.testBit i = true then mnI acc (T (9 * rest + i) + _) else acc) = tvF st m89 U rest k (i + 1) m (if rest.testBit i = true then mnI acc (U (9 * rest + i) + _) else acc)
    by_cases hb : rest.testBit i = true
    · rw [if_pos hb, if_pos hb, h i (by omega) (by omega) hb]
      exact ih (i + 1) _ (fun j h1 h2 => h j (by omega) (by omega))
    · rw [if_neg hb, if_neg hb]
      exact ih (i + 1) _ (fun j h1 h2 => h j (by omega) (by omega))
theorem tvF_z {st : Nat → Nat} {m89 T : RW} {k : Nat} : ∀ (m i : Nat) (acc : Int32), tvF st m89 T 0 k i m acc = acc := by
  intro m
  induction m with
  | zero => intro i acc; rfl
  | succ m ih =>
    intro i acc
    show tvF st m89 T 0 k (i + 1) m (if (0 : Nat).testBit i = true then _ else acc) = acc
    rw [if_neg (by simp)]
    exact ih (i + 1) acc
theorem tvV_congr {n : Nat} {st : Nat → Nat} {m89 T U : RW} {rest k : Nat} (h : ∀ j, j < n → rest.testBit j = true → T (9 * rest + j) = U (9 * rest + j)) : tvV n st m89 T rest k = tvV n st m89 U rest k := by
  unfold tvV
  rw [tvF_congr n 0 _ (fun j _ h2 h3 => h j (by omega) h3)]
/-- what stands still while a trail is looked for -/
def TS (nw n : Nat) (st : Nat → Nat) (x37 m142 : RW) : Prop := n ≤ 9 ∧ ∀ k, k < n → st k < nw ∧ x37 k = Int32.ofNat (st k) ∧ m142 k = Int32.ofNat (st k)
section TRL
variable {b : Nat} {F : Nat → Option AE} {D E : Nat → Option KD} {I : Nat → Nat → Int32} {L : Nat → Nat → Int64} {P : Nat → Nat → Option Nat} {nx us : Nat}
theorem X_wayTo {nw n rest k sc len : Nat} {st : Nat → Nat} {q wd hg ow : Nat → Nat} {m89 m142 : RW} (hn1 : I 1 1 = Int32.ofNat nw) (h16 : nw ≤ 16) (hA : WA nw q wd hg ow E (P 2)) (hG : GWay (I 4) m89) (hS : TS nw n st (I 37) m142) (h6 : I 33 6 = Int32.ofNat n) (hP : P 33 8 = some sc) (hK : kdf E sc = some (.inl (0, len))) (hlen : 9 * 2 ^ n ≤ len) (hl2 : len ≤ 100000) (hr : rest < 2 ^ n) (hk : k < n) : f_X6_wayTo (ad b 33) (Int32.ofNat rest) (Int32.ofNat k) (lay b F E I L P nx us) = some (tvV n st m89 (I sc) rest k, (lay b F E I L P nx us)) := by
  have hp := pw_n n (by have := hS.1; omega)
  have hn9 := hS.1
  have gA8 : gA 6 (lay b F E I L P nx us) (ad b 33) 8 = some (ad b sc) := by rw [gA_sP (by decide) (by decide) (by decide), hP]; rfl
  unfold tvV
  by_cases h0 : rest = 0
  · subst h0
    have e0 : (Int32.ofNat 0 = 0) = True := eq_true rfl
    simp (decide := true) only [f_X6_wayTo_88, f_X6_wayTo, e0, isO_s, gI_s, gA_s, gL_s, pI_s, pZ_s, pL_s, aI_s, aL_s, aN_s, aQ_s, sI_s, sL_s, cr, LNs, Option.map_some, Option.map_none, Option.bind_some, b2, tr, lt, if_true, if_false, ckZ, X_within, M_in, inR_z, X_refuse, X_tell, X_deny, X_grant, M_refused, M_denied, M_done, M_granted, u2_same, u2_ne, u2_u2, upd_same, upd_ne, aW0, ixR_z, ixR_1, M_isWall, M_isPainter, M_isWork, X_has4, X_has10, X_at, or_false, false_or, or_true, true_or, not_true, not_false_iff, Option.isSome_some, isO_d, gI_d, gA_d, pI_d, ne_eq, not_false_eq_true, u2_hi, u2_hj, u2_dyn, u2_dynj, Nat.reduceAdd, mX_r, mX_rD, mX_rDj, mM_r, mX_u, mX_uM, mX_uD, mX_uDj, mM_u, mM_uX, mM_uD, mM_uDj, u2_dd, u2_d0, u2_0d]
  · have e0 : (Int32.ofNat rest = 0) = False := oN_ne (c := 0) h0 (by omega) (by omega)
    rw [if_neg h0]
    simp (decide := true) only [f_X6_wayTo_88, f_X6_wayTo, e0, isO_s, gI_s, gA_s, gL_s, pI_s, pZ_s, pL_s, aI_s, aL_s, aN_s, aQ_s, sI_s, sL_s, cr, LNs, Option.map_some, Option.map_none, Option.bind_some, b2, tr, lt, if_true, if_false, ckZ, X_within, M_in, inR_z, X_refuse, X_tell, X_deny, X_grant, M_refused, M_denied, M_done, M_granted, u2_same, u2_ne, u2_u2, upd_same, upd_ne, aW0, ixR_z, ixR_1, M_isWall, M_isPainter, M_isWork, X_has4, X_has10, X_at, or_false, false_or, or_true, true_or, not_true, not_false_iff, Option.isSome_some, isO_d, gI_d, gA_d, pI_d, ne_eq, not_false_eq_true, u2_hi, u2_hj, u2_dyn, u2_dynj, Nat.reduceAdd, mX_r, mX_rD, mX_rDj, mM_r, mX_u, mX_uM, mX_uD, mX_uDj, mM_u, mM_uX, mM_uD, mM_uDj, u2_dd, u2_d0, u2_0d]
    have lp : ∀ (m i : Nat), i + m = n → ∀ (acc : Int32) (fu : Nat), m < fu → f_X6_wayTo_12 fu (ad b 33) (Int32.ofNat rest) (Int32.ofNat k) acc (Int32.ofNat i) (lay b F E I L P nx us) = some (tvF st m89 (I sc) rest k i m acc, (lay b F E I L P nx us)) := by
      intro m
      induction m with
      | zero =>
        intro i hi acc fu hfu
        obtain ⟨fu, rfl⟩ : ∃ z, fu = z + 1 := ⟨fu - 1, by omega⟩
        have : i = n := by omega
        subst this
        simp (decide := true) only [f_X6_wayTo_12, h6, Int32.le_refl, isO_s, gI_s, gA_s, gL_s, pI_s, pZ_s, pL_s, aI_s, aL_s, aN_s, aQ_s, sI_s, sL_s, cr, LNs, Option.map_some, Option.map_none, Option.bind_some, b2, tr, lt, if_true, if_false, ckZ, X_within, M_in, inR_z, X_refuse, X_tell, X_deny, X_grant, M_refused, M_denied, M_done, M_granted, u2_same, u2_ne, u2_u2, upd_same, upd_ne, aW0, ixR_z, ixR_1, M_isWall, M_isPainter, M_isWork, X_has4, X_has10, X_at, or_false, false_or, or_true, true_or, not_true, not_false_iff, Option.isSome_some, isO_d, gI_d, gA_d, pI_d, ne_eq, not_false_eq_true, u2_hi, u2_hj, u2_dyn, u2_dynj, Nat.reduceAdd, mX_r, mX_rD, mX_rDj, mM_r, mX_u, mX_uM, mX_uD, mX_uDj, mM_u, mM_uX, mM_uD, mM_uDj, u2_dd, u2_d0, u2_0d]
        rfl
      | succ m ih =>
        intro i hi acc fu hfu
        obtain ⟨fu, rfl⟩ : ∃ z, fu = z + 1 := ⟨fu - 1, by omega⟩
        have hin : i < n := by omega
        have e2 := oN_leF hin (by omega)
        show _ = some (tvF st m89 (I sc) rest k (i + 1) m (if rest.testBit i = true then mnI acc (I sc (9 * rest + i) + Int32.ofNat (dN m89 (st i) (st k))) else acc), (lay b F E I L P nx us))
        rw [← ih (i + 1) (by omega) _ fu (by omega)]
        have eb := tb1 (s := rest) (k := i) (by omega) (by omega)
        by_cases hb : rest.testBit i = true
        · have e9 : Int32.ofNat rest * 9 + Int32.ofNat i = Int32.ofNat (9 * rest + i) := by rw [show (9 : Int32) = Int32.ofNat 9 from rfl, oN_mul, oN_add, Nat.mul_comm]
          have e3 := oN_neg (w := 9 * rest + i) (by omega)
          have e4 := oN_leF (show 9 * rest + i < len by omega) (by omega)
          have e5 : iN (Int32.ofNat (9 * rest + i)) len = some (9 * rest + i) := iN_oN (by omega) (by omega)
          have e6 : iN (Int32.ofNat i) 9 = some i := iN_oN (by omega) (by omega)
          have e7 : iN (Int32.ofNat k) 9 = some k := iN_oN (by omega) (by omega)
          have hw := X_way (b := b) (F := F) (L := L) (nx := nx) (us := us) hn1 h16 hA hG (hS.2 i hin).1 (hS.2 k hk).1
          simp (decide := true) only [f_X6_wayTo_12, f_X6_wayTo_88, h6, e2, eb, hb, e9, e3, gA8, aN_d hK, aI_d hK (by decide), e4, e5, e6, e7, (hS.2 i hin).2.1, (hS.2 k hk).2.1, hw, oN_succ, isO_s, gI_s, gA_s, gL_s, pI_s, pZ_s, pL_s, aI_s, aL_s, aN_s, aQ_s, sI_s, sL_s, cr, LNs, Option.map_some, Option.map_none, Option.bind_some, b2, tr, lt, if_true, if_false, ckZ, X_within, M_in, inR_z, X_refuse, X_tell, X_deny, X_grant, M_refused, M_denied, M_done, M_granted, u2_same, u2_ne, u2_u2, upd_same, upd_ne, aW0, ixR_z, ixR_1, M_isWall, M_isPainter, M_isWork, X_has4, X_has10, X_at, or_false, false_or, or_true, true_or, not_true, not_false_iff, Option.isSome_some, isO_d, gI_d, gA_d, pI_d, ne_eq, not_false_eq_true, u2_hi, u2_hj, u2_dyn, u2_dynj, Nat.reduceAdd, mX_r, mX_rD, mX_rDj, mM_r, mX_u, mX_uM, mX_uD, mX_uDj, mM_u, mM_uX, mM_uD, mM_uDj, u2_dd, u2_d0, u2_0d]
        · have hb' : (rest.testBit i = true) = False := eq_false hb
          simp (decide := true) only [f_X6_wayTo_12, f_X6_wayTo_88, h6, e2, eb, hb', oN_succ, isO_s, gI_s, gA_s, gL_s, pI_s, pZ_s, pL_s, aI_s, aL_s, aN_s, aQ_s, sI_s, sL_s, cr, LNs, Option.map_some, Option.map_none, Option.bind_some, b2, tr, lt, if_true, if_false, ckZ, X_within, M_in, inR_z, X_refuse, X_tell, X_deny, X_grant, M_refused, M_denied, M_done, M_granted, u2_same, u2_ne, u2_u2, upd_same, upd_ne, aW0, ixR_z, ixR_1, M_isWall, M_isPainter, M_isWork, X_has4, X_has10, X_at, or_false, false_or, or_true, true_or, not_true, not_false_iff, Option.isSome_some, isO_d, gI_d, gA_d, pI_d, ne_eq, not_false_eq_true, u2_hi, u2_hj, u2_dyn, u2_dynj, Nat.reduceAdd, mX_r, mX_rD, mX_rDj, mM_r, mX_u, mX_uM, mX_uD, mX_uDj, mM_u, mM_uX, mM_uD, mM_uDj, u2_dd, u2_d0, u2_0d]
    exact lp n 0 (by omega) 1000000 FU (by unfold FU; omega)
/-- the reference's inner loop -/
theorem M_wayTo {nw n rest s k : Nat} {st : Nat → Nat} {x4 x37 : RW} {i2 i3 i4 i6 i7 a0 : Int32} {k129 : Nat → Int32 → Int32 → Int32 → Int32 → AH → Option (Int32 × AH)} {k150 : Nat → Int32 → Int32 → Int32 → Int32 → Int32 → Int32 → Int32 → AH → Option (Int32 × AH)} (h16 : nw ≤ 16) (hG : GWay x4 (I 89)) (hS : TS nw n st x37 (I 142)) (h6 : I 72 101 = Int32.ofNat n) (hr : rest < 2 ^ n) (hs : s < 2 ^ n) (hk : k < n) (ha : a0 = if rest = 0 then 0 else 1000000) : f_X15_trail_216 k129 k150 FU (ad b 72) i2 i3 i4 (Int32.ofNat s) i6 i7 (Int32.ofNat k) (Int32.ofNat rest) a0 0 (lay b F E I L P nx us) = k150 (ad b 72) i2 i3 i4 (Int32.ofNat s) i6 (mnI i7 (tvV n st (I 89) (I 143) rest k)) (Int32.ofNat (k + 1)) (lay b F E (u2 I 143 (upd (I 143) (9 * s + k) (tvV n st (I 89) (I 143) rest k))) L P nx us) := by
  have hp := pw_n n (by have := hS.1; omega)
  have hn9 := hS.1
  have lp : ∀ (m i : Nat), i + m = n → ∀ (acc : Int32) (fu : Nat), m < fu → f_X15_trail_216 k129 k150 fu (ad b 72) i2 i3 i4 (Int32.ofNat s) i6 i7 (Int32.ofNat k) (Int32.ofNat rest) acc (Int32.ofNat i) (lay b F E I L P nx us) = k150 (ad b 72) i2 i3 i4 (Int32.ofNat s) i6 (mnI i7 (tvF st (I 89) (I 143) rest k i m acc)) (Int32.ofNat (k + 1)) (lay b F E (u2 I 143 (upd (I 143) (9 * s + k) (tvF st (I 89) (I 143) rest k i m acc))) L P nx us) := by
    intro m
    induction m with
    | zero =>
      intro i hi acc fu hfu
      obtain ⟨fu, rfl⟩ : ∃ z, fu = z + 1 := ⟨fu - 1, by omega⟩
      have : i = n := by omega
      subst this
      have e9 : 9 * Int32.ofNat s + Int32.ofNat k = Int32.ofNat (9 * s + k) := by rw [show (9 : Int32) = Int32.ofNat 9 from rfl, oN_mul, oN_add]
      have e5 : iN (Int32.ofNat (9 * s + k)) 4608 = some (9 * s + k) := iN_oN (by omega) (by omega)
      simp (decide := true) only [f_X15_trail_216, f_X15_trail_305, h6, Int32.le_refl, e9, e5, oN_succ, isO_s, gI_s, gA_s, gL_s, pI_s, pZ_s, pL_s, aI_s, aL_s, aN_s, aQ_s, sI_s, sL_s, cr, LNs, Option.map_some, Option.map_none, Option.bind_some, b2, tr, lt, if_true, if_false, ckZ, X_within, M_in, inR_z, X_refuse, X_tell, X_deny, X_grant, M_refused, M_denied, M_done, M_granted, u2_same, u2_ne, u2_u2, upd_same, upd_ne, aW0, ixR_z, ixR_1, M_isWall, M_isPainter, M_isWork, X_has4, X_has10, X_at, or_false, false_or, or_true, true_or, not_true, not_false_iff, Option.isSome_some, isO_d, gI_d, gA_d, pI_d, ne_eq, not_false_eq_true, u2_hi, u2_hj, u2_dyn, u2_dynj, Nat.reduceAdd, mX_r, mX_rD, mX_rDj, mM_r, mX_u, mX_uM, mX_uD, mX_uDj, mM_u, mM_uX, mM_uD, mM_uDj, u2_dd, u2_d0, u2_0d]
      rfl
    | succ m ih =>
      intro i hi acc fu hfu
      obtain ⟨fu, rfl⟩ : ∃ z, fu = z + 1 := ⟨fu - 1, by omega⟩
      have hin : i < n := by omega
      have e2 := oN_leF hin (by omega)
      have hd : tvF st (I 89) (I 143) rest k i (m + 1) acc = tvF st (I 89) (I 143) rest k (i + 1) m (if rest.testBit i = true then mnI acc (I 143 (9 * rest + i) + Int32.ofNat (dN (I 89) (st i) (st k))) else acc) := rfl
      rw [hd, ← ih (i + 1) (by omega) _ fu (by omega)]
      have eb := tb1 (s := rest) (k := i) (by omega) (by omega)
      by_cases hb : rest.testBit i = true
      · have e9 : 9 * Int32.ofNat rest + Int32.ofNat i = Int32.ofNat (9 * rest + i) := by rw [show (9 : Int32) = Int32.ofNat 9 from rfl, oN_mul, oN_add]
        have e5 : iN (Int32.ofNat (9 * rest + i)) 4608 = some (9 * rest + i) := iN_oN (by omega) (by omega)
        have e6 : iN (Int32.ofNat i) 9 = some i := iN_oN (by omega) (by omega)
        have e7 : iN (Int32.ofNat k) 9 = some k := iN_oN (by omega) (by omega)
        have hw := M_apart (b := b) (F := F) (E := E) (L := L) (P := P) (nx := nx) (us := us) (I := I) hG (show st i < 16 by have := (hS.2 i hin).1; omega) (show st k < 16 by have := (hS.2 k hk).1; omega)
        simp (decide := true) only [f_X15_trail_216, f_X15_trail_275, h6, e2, eb, hb, e9, e5, e6, e7, (hS.2 i hin).2.2, (hS.2 k hk).2.2, hw, oN_succ, isO_s, gI_s, gA_s, gL_s, pI_s, pZ_s, pL_s, aI_s, aL_s, aN_s, aQ_s, sI_s, sL_s, cr, LNs, Option.map_some, Option.map_none, Option.bind_some, b2, tr, lt, if_true, if_false, ckZ, X_within, M_in, inR_z, X_refuse, X_tell, X_deny, X_grant, M_refused, M_denied, M_done, M_granted, u2_same, u2_ne, u2_u2, upd_same, upd_ne, aW0, ixR_z, ixR_1, M_isWall, M_isPainter, M_isWork, X_has4, X_has10, X_at, or_false, false_or, or_true, true_or, not_true, not_false_iff, Option.isSome_some, isO_d, gI_d, gA_d, pI_d, ne_eq, not_false_eq_true, u2_hi, u2_hj, u2_dyn, u2_dynj, Nat.reduceAdd, mX_r, mX_rD, mX_rDj, mM_r, mX_u, mX_uM, mX_uD, mX_uDj, mM_u, mM_uX, mM_uD, mM_uDj, u2_dd, u2_d0, u2_0d]
      · have hb' : (rest.testBit i = true) = False := eq_false hb
        simp (decide := true) only [f_X15_trail_216, f_X15_trail_275, h6, e2, eb, hb', oN_succ, isO_s, gI_s, gA_s, gL_s, pI_s, pZ_s, pL_s, aI_s, aL_s, aN_s, aQ_s, sI_s, sL_s, cr, LNs, Option.map_some, Option.map_none, Option.bind_some, b2, tr, lt, if_true, if_false, ckZ, X_within, M_in, inR_z, X_refuse, X_tell, X_deny, X_grant, M_refused, M_denied, M_done, M_granted, u2_same, u2_ne, u2_u2, upd_same, upd_ne, aW0, ixR_z, ixR_1, M_isWall, M_isPainter, M_isWork, X_has4, X_has10, X_at, or_false, false_or, or_true, true_or, not_true, not_false_iff, Option.isSome_some, isO_d, gI_d, gA_d, pI_d, ne_eq, not_false_eq_true, u2_hi, u2_hj, u2_dyn, u2_dynj, Nat.reduceAdd, mX_r, mX_rD, mX_rDj, mM_r, mX_u, mX_uM, mX_uD, mX_uDj, mM_u, mM_uX, mM_uD, mM_uDj, u2_dd, u2_d0, u2_0d]
  have := lp n 0 (by omega) a0 FU (by unfold FU; omega)
  have hv : tvF st (I 89) (I 143) rest k 0 n a0 = tvV n st (I 89) (I 143) rest k := by
    unfold tvV
    rw [ha]
    by_cases h0 : rest = 0
    · subst h0
      rw [if_pos rfl, if_pos rfl, tvF_z]
    · rw [if_neg h0, if_neg h0]
  rw [hv] at this
  exact this
end TRL
