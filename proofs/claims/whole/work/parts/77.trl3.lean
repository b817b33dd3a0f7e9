/-! ===== trail: all sets of stops ===== -/
theorem mnI_oN {a c : Nat} (ha : a < 2147483648) (hc : c < 2147483648) : mnI (Int32.ofNat a) (Int32.ofNat c) = Int32.ofNat (min a c) := by
  unfold mnI
  by_cases h : c < a
  · rw [if_pos ((oN_lt hc ha).mpr h), Nat.min_eq_right (by omega)]
  · rw [if_neg (fun q => h ((oN_lt hc ha).mp q)), Nat.min_eq_left (by omega)]
theorem tvF_bd {st : Nat → Nat} {m89 T : RW} {rest k : Nat} (hr : rest < 512) : ∀ (m i : Nat) (va : Nat), va ≤ 1000000 → (∀ j, i ≤ j → j < i + m → dN m89 (st j) (st k) ≤ 120) → (∀ j, i ≤ j → j < i + m → rest.testBit j = true → ∃ v, v ≤ 120 * rest ∧ T (9 * rest + j) = Int32.ofNat v) → ∃ v, v ≤ va ∧ tvF st m89 T rest k i m (Int32.ofNat va) = Int32.ofNat v ∧ ((∃ j, i ≤ j ∧ j < i + m ∧ rest.testBit j = true) → v ≤ 120 * rest + 120) := by
  intro m
  induction m with
  | zero => intro i va h1 hd h2; exact ⟨va, Nat.le_refl _, rfl, fun ⟨j, a1, a2, _⟩ => by omega⟩
  | succ m ih =>
    intro i va h1 hd h2
    by_cases hb : rest.testBit i = true
    · obtain ⟨v, hv, hT⟩ := h2 i (by omega) (by omega) hb
      have hdi := hd i (by omega) (by omega)
      obtain ⟨v', p1, p2, p3⟩ := ih (i + 1) (min va (v + dN m89 (st i) (st k))) (by omega) (fun j a1 a2 => hd j (by omega) (by omega)) (fun j a1 a2 => h2 j (by omega) (by omega))
      refine ⟨v', by omega, ?_, fun _ => by omega⟩
      show tvF st m89 T rest k (i + 1) m (if rest.testBit i = true then _ else _) = _
      rw [if_pos hb, hT, oN_add, mnI_oN (by omega) (by omega)]
      exact p2
    · obtain ⟨v', p1, p2, p3⟩ := ih (i + 1) va h1 (fun j a1 a2 => hd j (by omega) (by omega)) (fun j a1 a2 => h2 j (by omega) (by omega))
      refine ⟨v', p1, ?_, ?_⟩
      · show tvF st m89 T rest k (i + 1) m (if rest.testBit i = true then _ else _) = _
        rw [if_neg hb]
        exact p2
      · rintro ⟨j, a1, a2, a3⟩
        have : j ≠ i := fun q => hb (q ▸ a3)
        exact p3 ⟨j, by omega, by omega, a3⟩
/-- a set that isn't empty has a stop -/
theorem bit_ex {r n : Nat} (h0 : r ≠ 0) (h : r < 2 ^ n) : ∃ j, j < n ∧ r.testBit j = true := by
  obtain ⟨j, hj⟩ := Nat.exists_testBit_of_ne_zero h0
  refine ⟨j, ?_, hj⟩
  by_cases hn : j < n
  · exact hn
  · have : r.testBit j = false := Nat.testBit_lt_two_pow (Nat.lt_of_lt_of_le h (Nat.pow_le_pow_right (by decide) (by omega)))
    rw [hj] at this
    cases this
/-- the table holds small numbers up to set s -/
def TB (n : Nat) (T : RW) (s : Nat) : Prop := ∀ s', s' < s → ∀ k, k < n → s'.testBit k = true → ∃ v, v ≤ 120 * s' ∧ T (9 * s' + k) = Int32.ofNat v
theorem rv_bd {n s k : Nat} {st : Nat → Nat} {m89 T : RW} (hn : n ≤ 9) (hd : ∀ i j, i < n → j < n → dN m89 (st i) (st j) ≤ 120) (hs : s < 2 ^ n) (hk : k < n) (hb : s.testBit k = true) (hT : TB n T s) : ∃ v, v ≤ 120 * s ∧ rvV n st m89 T s k = Int32.ofNat v := by
  have hp := pw_n n (by omega)
  obtain ⟨-, -, x3⟩ := set_rest (by omega) (by omega) hb
  unfold rvV tvV
  by_cases h0 : s - 2 ^ k = 0
  · rw [if_pos h0]; exact ⟨0, by omega, rfl⟩
  · rw [if_neg h0]
    obtain ⟨v, -, p2, p3⟩ := tvF_bd (st := st) (m89 := m89) (T := T) (k := k) (show s - 2 ^ k < 512 by omega) n 0 1000000 (Nat.le_refl _) (fun j _ h => hd j k (by omega) hk) (fun j _ h hb => hT (s - 2 ^ k) x3 j (by omega) hb)
    obtain ⟨j, j1, j2⟩ := bit_ex h0 (show s - 2 ^ k < 2 ^ n by omega)
    exact ⟨v, by have := p3 ⟨j, by omega, by omega, j2⟩; omega, p2⟩
theorem ln_bd {n s : Nat} {st : Nat → Nat} {m89 T : RW} (hs : s < 512) (hv : ∀ k, k < n → s.testBit k = true → ∃ v, v ≤ 120 * s ∧ rvV n st m89 T s k = Int32.ofNat v) : ∀ (m i va : Nat), i + m ≤ n → va ≤ 1000000 → ∃ v, v ≤ va ∧ lnF n st m89 T s i m (Int32.ofNat va) = Int32.ofNat v ∧ ((∃ j, i ≤ j ∧ j < i + m ∧ s.testBit j = true) → v ≤ 120 * s) := by
  intro m
  induction m with
  | zero => intro i va h0 h1; exact ⟨va, Nat.le_refl _, rfl, fun ⟨j, a1, a2, _⟩ => by omega⟩
  | succ m ih =>
    intro i va h0 h1
    by_cases hb : s.testBit i = true
    · obtain ⟨v, hvv, hT⟩ := hv i (by omega) hb
      obtain ⟨v', p1, p2, p3⟩ := ih (i + 1) (min va v) (by omega) (by omega)
      refine ⟨v', by omega, ?_, fun _ => by omega⟩
      show lnF n st m89 T s (i + 1) m (if s.testBit i = true then _ else _) = _
      rw [if_pos hb, hT, mnI_oN (by omega) (by omega)]
      exact p2
    · obtain ⟨v', p1, p2, p3⟩ := ih (i + 1) va (by omega) h1
      refine ⟨v', p1, ?_, ?_⟩
      · show lnF n st m89 T s (i + 1) m (if s.testBit i = true then _ else _) = _
        rw [if_neg hb]
        exact p2
      · rintro ⟨j, a1, a2, a3⟩
        have : j ≠ i := fun q => hb (q ▸ a3)
        exact p3 ⟨j, by omega, by omega, a3⟩
theorem ln_congr {n s : Nat} {st : Nat → Nat} {m89 T U : RW} (h : ∀ k, k < n → s.testBit k = true → rvV n st m89 T s k = rvV n st m89 U s k) : ∀ (m i : Nat) (a : Int32), i + m ≤ n → lnF n st m89 T s i m a = lnF n st m89 U s i m a := by
  intro m
  induction m with
  | zero => intro i a h0; rfl
  | succ m ih =>
    intro i a h0
    show lnF n st m89 T s (i + 1) m (if s.testBit i = true then mnI a (rvV n st m89 T s i) else a) = lnF n st m89 U s (i + 1) m (if s.testBit i = true then mnI a (rvV n st m89 U s i) else a)
    by_cases hb : s.testBit i = true
    · rw [if_pos hb, if_pos hb, h i (by omega) hb]; exact ih _ _ (by omega)
    · rw [if_neg hb, if_neg hb]; exact ih _ _ (by omega)
/-- all wanted themes are there, in two ways -/
theorem wantE (w h : Int32) : (w &&& (h ^^^ (-1)) = 0) = (h &&& w = w) := by
  apply propext
  constructor
  · intro hz
    refine b_ext fun i hi => ?_
    have := congrArg (fun z => bt z i) hz
    simp only [b_and, b_xor, b_m1 i hi, b_0] at this
    rw [b_and]
    cases h1 : bt w i <;> cases h2 : bt h i <;> simp_all
  · intro hz
    refine b_ext fun i hi => ?_
    have := congrArg (fun z => bt z i) hz
    simp only [b_and] at this
    rw [b_and, b_xor, b_m1 i hi, b_0]
    cases h1 : bt w i <;> cases h2 : bt h i <;> simp_all
theorem aheadE (s d e : Int32) : ((s &&& d) &&& e = 0) = ((d &&& e) &&& s = 0) := by
  rw [Int32.and_assoc, Int32.and_comm]
/-- is set s ahead of t of the same length -/
def ahR (s t : Nat) : Prop := bcF (Int32.ofNat s) < bcF (Int32.ofNat t) ∨ (bcF (Int32.ofNat s) = bcF (Int32.ofNat t) ∧ ¬ ((Int32.ofNat s ^^^ Int32.ofNat t) &&& (-(Int32.ofNat s ^^^ Int32.ofNat t))) &&& Int32.ofNat s = 0)
theorem X_ahead1 {s t : Nat} (h : AH) (hh : ahR s t) : f_X6_isAhead (Int32.ofNat s) (Int32.ofNat t) h = some (1, h) := by
  have ha := aheadE (Int32.ofNat s) (Int32.ofNat s ^^^ Int32.ofNat t) (-(Int32.ofNat s ^^^ Int32.ofNat t))
  simp (decide := true) only [f_X6_isAhead, f_X6_isAhead_33, f_X6_isAhead_37, f_X6_isAhead_38, J_bitCount, J_cmp, b2, ha]
  unfold ahR at hh
  generalize hA : bcF (Int32.ofNat s) = A at hh ⊢
  generalize hB : bcF (Int32.ofNat t) = B at hh ⊢
  rcases hh with h1 | ⟨h1, h2⟩
  · have h3 : ¬ B ≤ A := Int32.not_le.mpr h1
    simp (decide := true) only [h3, if_false, if_true, ckZ, Option.bind_some]
  · simp (decide := true) only [h1, h2, Int32.le_refl, if_true, if_false, ckZ, Option.bind_some]
theorem X_ahead0 {s t : Nat} (h : AH) (hh : ¬ ahR s t) : f_X6_isAhead (Int32.ofNat s) (Int32.ofNat t) h = some (0, h) := by
  have ha := aheadE (Int32.ofNat s) (Int32.ofNat s ^^^ Int32.ofNat t) (-(Int32.ofNat s ^^^ Int32.ofNat t))
  simp (decide := true) only [f_X6_isAhead, f_X6_isAhead_33, f_X6_isAhead_37, f_X6_isAhead_38, J_bitCount, J_cmp, b2, ha]
  have h1 : bcF (Int32.ofNat t) ≤ bcF (Int32.ofNat s) := Int32.not_lt.mp fun q => hh (Or.inl q)
  by_cases h2 : bcF (Int32.ofNat s) = bcF (Int32.ofNat t)
  · have h3 : ((Int32.ofNat s ^^^ Int32.ofNat t) &&& (-(Int32.ofNat s ^^^ Int32.ofNat t))) &&& Int32.ofNat s = 0 := Decidable.byContradiction fun q => hh (Or.inr ⟨h2, q⟩)
    simp (decide := true) only [h2, h3, Int32.le_refl, if_true, if_false, ckZ, Option.bind_some]
  · simp (decide := true) only [h1, h2, if_true, if_false, ckZ, Option.bind_some]
/-- what both sides hold while sets are gone through -/
def TQ (nw n d : Nat) (st : Nat → Nat) (q : Nat → Nat) (wt : Int32) (I : Nat → Nat → Int32) : Prop := I 1 1 = Int32.ofNat nw ∧ GWay (I 4) (I 89) ∧ TS nw n st (I 37) (I 142) ∧ I 33 6 = Int32.ofNat n ∧ I 72 101 = Int32.ofNat n ∧ WC nw q (dyn I) (I 75) (I 76) (I 79) ∧ I 33 7 = wt
def TF (d : Nat) (I I2 : Nat → Nat → Int32) : Prop := ∀ c, c ≠ 149 + d → c ≠ 143 → I2 c = I c
section TRL3
variable {b : Nat} {F : Nat → Option AE} {D E : Nat → Option KD} {I : Nat → Nat → Int32} {L : Nat → Nat → Int64} {P : Nat → Nat → Option Nat} {nx us : Nat}
theorem sets {nw n d len : Nat} {st : Nat → Nat} {q wd hg ow : Nat → Nat} {wt : Int32} (h16 : nw ≤ 16) (hA : WA nw q wd hg ow E (P 2)) (hdq : ∀ w, w < nw → q w ≠ d) (hP : P 33 8 = some (149 + d)) (hK : kdf E (149 + d) = some (.inl (0, len))) (hlen : 9 * 2 ^ n ≤ len) (hl2 : len ≤ 100000) : ∀ (m s : Nat), s + m = 2 ^ n → 1 ≤ s → ∀ (I : Nat → Nat → Int32) (be : Nat) (bw le : Int32), TQ nw n d st q wt I → (∀ s', s' < s → ∀ k, k < n → s'.testBit k = true → I (149 + d) (9 * s' + k) = I 143 (9 * s' + k)) → TB n (I 143) s → be < 2 ^ n → ((be = 0 ∧ le = 1000000) ∨ (be ≠ 0 ∧ bw = le)) →
    ∃ (be2 : Nat) (bw2 le2 : Int32) (I2 : Nat → Nat → Int32), be2 < 2 ^ n ∧ TF d I I2 ∧ ((be2 = 0 ∧ be = 0 ∧ ∀ s', s ≤ s' → s' < 2 ^ n → ¬ hsF st (I 79) s' 0 n 0 &&& wt = wt) ∨ (be2 ≠ 0 ∧ bw2 = le2)) ∧
    (∀ (J : Nat → Nat → Int32) (fu : Nat), m < fu → f_X6_shortestTrail_33 fu (ad b 33) (Int32.ofNat be) bw (Int32.ofNat s) (lay b F E (mX J I) L P nx us) = f_X6_shortestTrail_118 FU (ad b 33) (Int32.ofNat be2) bw2 0 (lay b F E (mX J (u2 I2 33 (upd (I 33) 9 0))) L P nx us)) ∧
    (∀ (J : Nat → Nat → Int32) (fu : Nat), m < fu → f_X15_trail_129 fu (ad b 72) wt (Int32.ofNat be) le (Int32.ofNat s) (lay b F E (mM J I) L P nx us) = f_X15_trail_415 FU (ad b 72) (Int32.ofNat be2) le2 0 (lay b F E (mM J (u2 I2 72 (upd (I 72) 102 0))) L P nx us)) := by
  intro m
  induction m with
  | zero =>
    intro s hs h1 I be bw le hQ hT hB hbe hinv
    obtain ⟨q1, q2, q3, q4, q5, q6, q7⟩ := hQ
    have hn9 := q3.1
    have hp := pw_n n (by omega)
    have hsn : s = 2 ^ n := by omega
    subst hsn
    refine ⟨be, bw, le, I, hbe, fun _ _ _ => rfl, ?_, ?_, ?_⟩
    · rcases hinv with ⟨a1, a2⟩ | a
      · exact Or.inl ⟨a1, a1, fun s' b1 b2 => by omega⟩
      · exact Or.inr a
    · intro J fu hfu
      obtain ⟨fu, rfl⟩ : ∃ z, fu = z + 1 := ⟨fu - 1, by omega⟩
      simp (decide := true) only [f_X6_shortestTrail_33, q4, sh_n n (by omega), Int32.le_refl, isO_s, gI_s, gA_s, gL_s, pI_s, pZ_s, pL_s, aI_s, aL_s, aN_s, aQ_s, sI_s, sL_s, cr, LNs, Option.map_some, Option.map_none, Option.bind_some, b2, tr, lt, if_true, if_false, ckZ, X_within, M_in, inR_z, X_refuse, X_tell, X_deny, X_grant, M_refused, M_denied, M_done, M_granted, u2_same, u2_ne, u2_u2, upd_same, upd_ne, aW0, ixR_z, ixR_1, M_isWall, M_isPainter, M_isWork, X_has4, X_has10, X_at, or_false, false_or, or_true, true_or, not_true, not_false_iff, Option.isSome_some, isO_d, gI_d, gA_d, pI_d, ne_eq, not_false_eq_true, u2_hi, u2_hj, u2_dyn, u2_dynj, Nat.reduceAdd, mX_r, mX_rD, mX_rDj, mM_r, mX_u, mX_uM, mX_uD, mX_uDj, mM_u, mM_uX, mM_uD, mM_uDj, u2_dd, u2_d0, u2_0d]
    · intro J fu hfu
      obtain ⟨fu, rfl⟩ : ∃ z, fu = z + 1 := ⟨fu - 1, by omega⟩
      simp (decide := true) only [f_X15_trail_129, q5, sh_n n (by omega), Int32.le_refl, isO_s, gI_s, gA_s, gL_s, pI_s, pZ_s, pL_s, aI_s, aL_s, aN_s, aQ_s, sI_s, sL_s, cr, LNs, Option.map_some, Option.map_none, Option.bind_some, b2, tr, lt, if_true, if_false, ckZ, X_within, M_in, inR_z, X_refuse, X_tell, X_deny, X_grant, M_refused, M_denied, M_done, M_granted, u2_same, u2_ne, u2_u2, upd_same, upd_ne, aW0, ixR_z, ixR_1, M_isWall, M_isPainter, M_isWork, X_has4, X_has10, X_at, or_false, false_or, or_true, true_or, not_true, not_false_iff, Option.isSome_some, isO_d, gI_d, gA_d, pI_d, ne_eq, not_false_eq_true, u2_hi, u2_hj, u2_dyn, u2_dynj, Nat.reduceAdd, mX_r, mX_rD, mX_rDj, mM_r, mX_u, mX_uM, mX_uD, mX_uDj, mM_u, mM_uX, mM_uD, mM_uDj, u2_dd, u2_d0, u2_0d]
  | succ m ih =>
    intro s hs h1 I be bw le hQ hT hB hbe hinv
    have hQ0 := hQ
    obtain ⟨q1, q2, q3, q4, q5, q6, q7⟩ := hQ
    have hn9 := q3.1
    have hp := pw_n n (by omega)
    have hs2 : s < 2 ^ n := by omega
    have esh := sh_n n (by omega)
    have ele := oN_leF hs2 (by omega)
    have hdd : ∀ i j, i < n → j < n → dN (I 89) (st i) (st j) ≤ 120 := fun i j hi hj => dN_le q2 (by have := (q3.2 i hi).1; omega) (by have := (q3.2 j hj).1; omega)
    -- the values of both tables
    have hrv : ∀ k, k < n → s.testBit k = true → rvV n st (I 89) (I (149 + d)) s k = rvV n st (I 89) (I 143) s k := by
      intro k hk hb
      obtain ⟨-, -, x3⟩ := set_rest (by omega) (by omega) hb
      exact tvV_congr (fun j hj hbj => hT _ x3 j hj hbj)
    have hlv := ln_congr hrv n 0 1000000 (by omega)
    have hbd := fun (k : Nat) (hk : k < n) (hb : s.testBit k = true) => rv_bd hn9 hdd hs2 hk hb hB
    obtain ⟨lv, lv1, lv2, lv3⟩ := ln_bd (show s < 512 by omega) hbd n 0 1000000 (by omega) (Nat.le_refl _)
    obtain ⟨jb, jb1, jb2⟩ := bit_ex (show s ≠ 0 by omega) hs2
    have lv4 := lv3 ⟨jb, by omega, by omega, jb2⟩
    have lv2' : lnF n st (I 89) (I 143) s 0 n 1000000 = Int32.ofNat lv := lv2
    -- the state behind the set
    let I1 : Nat → Nat → Int32 := u2 (u2 I (149 + d) (rowF n st (I 89) (I (149 + d)) (I (149 + d)) s 0)) 143 (rowF n st (I 89) (I 143) (I 143) s 0)
    have rI1 : ∀ c, c ≠ 149 + d → c ≠ 143 → I1 c = I c := by
      intro c c1 c2
      show u2 (u2 I _ _) 143 _ c = _
      rw [u2_ne c2, u2_ne c1]
    have r143 : I1 143 = rowF n st (I 89) (I 143) (I 143) s 0 := by simp (decide := true) only [I1, u2_same, u2_ne, u2_u2, upd_same, upd_ne, mE, u2_dyn, dyn_u2, dyn_hi, u2_hi, u2_hj, u2_dynj, u2_dd, u2_d0, u2_0d]
    have rd : I1 (149 + d) = rowF n st (I 89) (I (149 + d)) (I (149 + d)) s 0 := by
      show u2 (u2 I _ _) 143 _ (149 + d) = _
      rw [u2_ne (by omega), u2_same]
    have hQ1 : TQ nw n d st q wt I1 := by
      unfold TQ
      rw [rI1 1 (by omega) (by decide), rI1 4 (by omega) (by decide), rI1 89 (by omega) (by decide), rI1 37 (by omega) (by decide), rI1 142 (by omega) (by decide), rI1 33 (by omega) (by decide), rI1 72 (by omega) (by decide), rI1 75 (by omega) (by decide), rI1 76 (by omega) (by decide), rI1 79 (by omega) (by decide)]
      refine ⟨q1, q2, q3, q4, q5, ?_, q7⟩
      intro w hw
      have hqq := hdq w hw
      have : dyn I1 (q w) = dyn I (q w) := rI1 _ (by omega) (by omega)
      rw [this]
      exact q6 w hw
    have hrow : ∀ (T : RW) s' k, k < n → s'.testBit k = true → s' < s + 1 → rowF n st (I 89) T T s 0 (9 * s' + k) = if s' = s then rvV n st (I 89) T s k else T (9 * s' + k) := by
      intro T s' k hk hb hs'
      unfold rowF
      by_cases hz : s' = s
      · subst hz
        rw [if_pos ⟨by omega, by rw [Nat.add_sub_cancel_left]; exact hb⟩, if_pos rfl, Nat.add_sub_cancel_left]
      · rw [if_neg (by omega), if_neg hz]
    have hT1 : ∀ s', s' < s + 1 → ∀ k, k < n → s'.testBit k = true → I1 (149 + d) (9 * s' + k) = I1 143 (9 * s' + k) := by
      intro s' hs' k hk hb
      rw [rd, r143, hrow _ s' k hk hb hs', hrow _ s' k hk hb hs']
      by_cases hz : s' = s
      · subst hz; rw [if_pos rfl, if_pos rfl]; exact hrv k hk hb
      · rw [if_neg hz, if_neg hz]; exact hT s' (by omega) k hk hb
    have hB1 : TB n (I1 143) (s + 1) := by
      intro s' hs' k hk hb
      rw [r143, hrow _ s' k hk hb hs']
      by_cases hz : s' = s
      · subst hz; rw [if_pos rfl]; exact hbd k hk hb
      · rw [if_neg hz]; exact hB s' (by omega) k hk hb
    have hwX : ∀ J : Nat → Nat → Int32, f_X6_wayOver (ad b 33) (Int32.ofNat s) (lay b F E (mX J I) L P nx us) = some (Int32.ofNat lv, lay b F E (mX J I1) L P nx us) := by
      intro J
      have := X_wayOver (b := b) (F := F) (E := E) (L := L) (P := P) (nx := nx) (us := us) (nw := nw) (n := n) (s := s) (d := d) (len := len) (st := st) (m89 := I 89) (m142 := I 142) (T0 := I (149 + d)) h16 hA hP hK hlen hl2 hs2 n 0 (by omega) (mX J I) 1000000 FU (by unfold FU; omega) (by simp (decide := true) only [isO_s, gI_s, gA_s, gL_s, pI_s, pZ_s, pL_s, aI_s, aL_s, aN_s, aQ_s, sI_s, sL_s, cr, LNs, Option.map_some, Option.map_none, Option.bind_some, b2, tr, lt, if_true, if_false, ckZ, X_within, M_in, inR_z, X_refuse, X_tell, X_deny, X_grant, M_refused, M_denied, M_done, M_granted, u2_same, u2_ne, u2_u2, upd_same, upd_ne, aW0, ixR_z, ixR_1, M_isWall, M_isPainter, M_isWork, X_has4, X_has10, X_at, or_false, false_or, or_true, true_or, not_true, not_false_iff, Option.isSome_some, isO_d, gI_d, gA_d, pI_d, ne_eq, not_false_eq_true, u2_hi, u2_hj, u2_dyn, u2_dynj, Nat.reduceAdd, mX_r, mX_rD, mX_rDj, mM_r, mX_u, mX_uM, mX_uD, mX_uDj, mM_u, mM_uX, mM_uD, mM_uDj, u2_dd, u2_d0, u2_0d]; exact q1) (by simp (decide := true) only [isO_s, gI_s, gA_s, gL_s, pI_s, pZ_s, pL_s, aI_s, aL_s, aN_s, aQ_s, sI_s, sL_s, cr, LNs, Option.map_some, Option.map_none, Option.bind_some, b2, tr, lt, if_true, if_false, ckZ, X_within, M_in, inR_z, X_refuse, X_tell, X_deny, X_grant, M_refused, M_denied, M_done, M_granted, u2_same, u2_ne, u2_u2, upd_same, upd_ne, aW0, ixR_z, ixR_1, M_isWall, M_isPainter, M_isWork, X_has4, X_has10, X_at, or_false, false_or, or_true, true_or, not_true, not_false_iff, Option.isSome_some, isO_d, gI_d, gA_d, pI_d, ne_eq, not_false_eq_true, u2_hi, u2_hj, u2_dyn, u2_dynj, Nat.reduceAdd, mX_r, mX_rD, mX_rDj, mM_r, mX_u, mX_uM, mX_uD, mX_uDj, mM_u, mM_uX, mM_uD, mM_uDj, u2_dd, u2_d0, u2_0d]; exact q2) (by simp (decide := true) only [isO_s, gI_s, gA_s, gL_s, pI_s, pZ_s, pL_s, aI_s, aL_s, aN_s, aQ_s, sI_s, sL_s, cr, LNs, Option.map_some, Option.map_none, Option.bind_some, b2, tr, lt, if_true, if_false, ckZ, X_within, M_in, inR_z, X_refuse, X_tell, X_deny, X_grant, M_refused, M_denied, M_done, M_granted, u2_same, u2_ne, u2_u2, upd_same, upd_ne, aW0, ixR_z, ixR_1, M_isWall, M_isPainter, M_isWork, X_has4, X_has10, X_at, or_false, false_or, or_true, true_or, not_true, not_false_iff, Option.isSome_some, isO_d, gI_d, gA_d, pI_d, ne_eq, not_false_eq_true, u2_hi, u2_hj, u2_dyn, u2_dynj, Nat.reduceAdd, mX_r, mX_rD, mX_rDj, mM_r, mX_u, mX_uM, mX_uD, mX_uDj, mM_u, mM_uX, mM_uD, mM_uDj, u2_dd, u2_d0, u2_0d]; exact q3) (by simp (decide := true) only [isO_s, gI_s, gA_s, gL_s, pI_s, pZ_s, pL_s, aI_s, aL_s, aN_s, aQ_s, sI_s, sL_s, cr, LNs, Option.map_some, Option.map_none, Option.bind_some, b2, tr, lt, if_true, if_false, ckZ, X_within, M_in, inR_z, X_refuse, X_tell, X_deny, X_grant, M_refused, M_denied, M_done, M_granted, u2_same, u2_ne, u2_u2, upd_same, upd_ne, aW0, ixR_z, ixR_1, M_isWall, M_isPainter, M_isWork, X_has4, X_has10, X_at, or_false, false_or, or_true, true_or, not_true, not_false_iff, Option.isSome_some, isO_d, gI_d, gA_d, pI_d, ne_eq, not_false_eq_true, u2_hi, u2_hj, u2_dyn, u2_dynj, Nat.reduceAdd, mX_r, mX_rD, mX_rDj, mM_r, mX_u, mX_uM, mX_uD, mX_uDj, mM_u, mM_uX, mM_uD, mM_uDj, u2_dd, u2_d0, u2_0d]; exact q4) (fun x _ => by rw [mX_rD])
      rw [mX_rD, hlv, lv2'] at this
      have hI1 : u2 (mX J I) (149 + d) (rowF n st (I 89) (I (149 + d)) (I (149 + d)) s 0) = mX J I1 := by simp (decide := true) only [I1, isO_s, gI_s, gA_s, gL_s, pI_s, pZ_s, pL_s, aI_s, aL_s, aN_s, aQ_s, sI_s, sL_s, cr, LNs, Option.map_some, Option.map_none, Option.bind_some, b2, tr, lt, if_true, if_false, ckZ, X_within, M_in, inR_z, X_refuse, X_tell, X_deny, X_grant, M_refused, M_denied, M_done, M_granted, u2_same, u2_ne, u2_u2, upd_same, upd_ne, aW0, ixR_z, ixR_1, M_isWall, M_isPainter, M_isWork, X_has4, X_has10, X_at, or_false, false_or, or_true, true_or, not_true, not_false_iff, Option.isSome_some, isO_d, gI_d, gA_d, pI_d, ne_eq, not_false_eq_true, u2_hi, u2_hj, u2_dyn, u2_dynj, Nat.reduceAdd, mX_r, mX_rD, mX_rDj, mM_r, mX_u, mX_uM, mX_uD, mX_uDj, mM_u, mM_uX, mM_uD, mM_uDj, u2_dd, u2_d0, u2_0d]
      rw [hI1] at this
      simp (decide := true) only [f_X6_wayOver_75, f_X6_wayOver_68, f_X6_wayOver, isO_s, gI_s, gA_s, gL_s, pI_s, pZ_s, pL_s, aI_s, aL_s, aN_s, aQ_s, sI_s, sL_s, cr, LNs, Option.map_some, Option.map_none, Option.bind_some, b2, tr, lt, if_true, if_false, ckZ, X_within, M_in, inR_z, X_refuse, X_tell, X_deny, X_grant, M_refused, M_denied, M_done, M_granted, u2_same, u2_ne, u2_u2, upd_same, upd_ne, aW0, ixR_z, ixR_1, M_isWall, M_isPainter, M_isWork, X_has4, X_has10, X_at, or_false, false_or, or_true, true_or, not_true, not_false_iff, Option.isSome_some, isO_d, gI_d, gA_d, pI_d, ne_eq, not_false_eq_true, u2_hi, u2_hj, u2_dyn, u2_dynj, Nat.reduceAdd, mX_r, mX_rD, mX_rDj, mM_r, mX_u, mX_uM, mX_uD, mX_uDj, mM_u, mM_uX, mM_uD, mM_uDj, u2_dd, u2_d0, u2_0d]
      exact this
    have htX : ∀ J : Nat → Nat → Int32, f_X6_themesOf (ad b 33) (Int32.ofNat s) (lay b F E (mX J I1) L P nx us) = some (hsF st (I 79) s 0 n 0, lay b F E (mX J I1) L P nx us) := by
      intro J
      obtain ⟨w1, w2, w3, w4, w5, w6, w7⟩ := hQ1
      have r79 : I1 79 = I 79 := rI1 79 (by omega) (by decide)
      rw [← r79]
      exact X_themesOf (b := b) (F := F) (E := E) (L := L) (P := P) (nx := nx) (us := us) (I := mX J I1) (m75 := I1 75) (m76 := I1 76) (m79 := I1 79) (m142 := I1 142) (by simp (decide := true) only [isO_s, gI_s, gA_s, gL_s, pI_s, pZ_s, pL_s, aI_s, aL_s, aN_s, aQ_s, sI_s, sL_s, cr, LNs, Option.map_some, Option.map_none, Option.bind_some, b2, tr, lt, if_true, if_false, ckZ, X_within, M_in, inR_z, X_refuse, X_tell, X_deny, X_grant, M_refused, M_denied, M_done, M_granted, u2_same, u2_ne, u2_u2, upd_same, upd_ne, aW0, ixR_z, ixR_1, M_isWall, M_isPainter, M_isWork, X_has4, X_has10, X_at, or_false, false_or, or_true, true_or, not_true, not_false_iff, Option.isSome_some, isO_d, gI_d, gA_d, pI_d, ne_eq, not_false_eq_true, u2_hi, u2_hj, u2_dyn, u2_dynj, Nat.reduceAdd, mX_r, mX_rD, mX_rDj, mM_r, mX_u, mX_uM, mX_uD, mX_uDj, mM_u, mM_uX, mM_uD, mM_uDj, u2_dd, u2_d0, u2_0d]; exact w1) h16 hA (by
        intro w hw
        have : dyn (mX J I1) (q w) = dyn I1 (q w) := mX_rD
        rw [this]; exact w6 w hw) (by simp (decide := true) only [isO_s, gI_s, gA_s, gL_s, pI_s, pZ_s, pL_s, aI_s, aL_s, aN_s, aQ_s, sI_s, sL_s, cr, LNs, Option.map_some, Option.map_none, Option.bind_some, b2, tr, lt, if_true, if_false, ckZ, X_within, M_in, inR_z, X_refuse, X_tell, X_deny, X_grant, M_refused, M_denied, M_done, M_granted, u2_same, u2_ne, u2_u2, upd_same, upd_ne, aW0, ixR_z, ixR_1, M_isWall, M_isPainter, M_isWork, X_has4, X_has10, X_at, or_false, false_or, or_true, true_or, not_true, not_false_iff, Option.isSome_some, isO_d, gI_d, gA_d, pI_d, ne_eq, not_false_eq_true, u2_hi, u2_hj, u2_dyn, u2_dynj, Nat.reduceAdd, mX_r, mX_rD, mX_rDj, mM_r, mX_u, mX_uM, mX_uD, mX_uDj, mM_u, mM_uX, mM_uD, mM_uDj, u2_dd, u2_d0, u2_0d]; exact w3) (by simp (decide := true) only [isO_s, gI_s, gA_s, gL_s, pI_s, pZ_s, pL_s, aI_s, aL_s, aN_s, aQ_s, sI_s, sL_s, cr, LNs, Option.map_some, Option.map_none, Option.bind_some, b2, tr, lt, if_true, if_false, ckZ, X_within, M_in, inR_z, X_refuse, X_tell, X_deny, X_grant, M_refused, M_denied, M_done, M_granted, u2_same, u2_ne, u2_u2, upd_same, upd_ne, aW0, ixR_z, ixR_1, M_isWall, M_isPainter, M_isWork, X_has4, X_has10, X_at, or_false, false_or, or_true, true_or, not_true, not_false_iff, Option.isSome_some, isO_d, gI_d, gA_d, pI_d, ne_eq, not_false_eq_true, u2_hi, u2_hj, u2_dyn, u2_dynj, Nat.reduceAdd, mX_r, mX_rD, mX_rDj, mM_r, mX_u, mX_uM, mX_uD, mX_uDj, mM_u, mM_uX, mM_uD, mM_uDj, u2_dd, u2_d0, u2_0d]; exact w4) (by omega)
    have r33 : I1 33 = I 33 := rI1 33 (by omega) (by decide)
    have r72 : I1 72 = I 72 := rI1 72 (by omega) (by decide)
    have r79 : I1 79 = I 79 := rI1 79 (by omega) (by decide)
    -- going on with (be', bw', le')
    have goOn : ∀ (be' : Nat) (bw' le' : Int32), be' < 2 ^ n → ((be' = 0 ∧ le' = 1000000) ∨ (be' ≠ 0 ∧ bw' = le')) → (be' = 0 → be = 0 ∧ ¬ hsF st (I 79) s 0 n 0 &&& wt = wt) →
        (∀ (J : Nat → Nat → Int32) (fu : Nat), f_X6_shortestTrail_33 (fu + 1) (ad b 33) (Int32.ofNat be) bw (Int32.ofNat s) (lay b F E (mX J I) L P nx us) = f_X6_shortestTrail_33 fu (ad b 33) (Int32.ofNat be') bw' (Int32.ofNat (s + 1)) (lay b F E (mX J I1) L P nx us)) →
        (∀ (J : Nat → Nat → Int32) (fu : Nat), f_X15_trail_129 (fu + 1) (ad b 72) wt (Int32.ofNat be) le (Int32.ofNat s) (lay b F E (mM J I) L P nx us) = f_X15_trail_129 fu (ad b 72) wt (Int32.ofNat be') le' (Int32.ofNat (s + 1)) (lay b F E (mM J I1) L P nx us)) →
        ∃ (be2 : Nat) (bw2 le2 : Int32) (I2 : Nat → Nat → Int32), be2 < 2 ^ n ∧ TF d I I2 ∧ ((be2 = 0 ∧ be = 0 ∧ ∀ s', s ≤ s' → s' < 2 ^ n → ¬ hsF st (I 79) s' 0 n 0 &&& wt = wt) ∨ (be2 ≠ 0 ∧ bw2 = le2)) ∧
        (∀ (J : Nat → Nat → Int32) (fu : Nat), m + 1 < fu → f_X6_shortestTrail_33 fu (ad b 33) (Int32.ofNat be) bw (Int32.ofNat s) (lay b F E (mX J I) L P nx us) = f_X6_shortestTrail_118 FU (ad b 33) (Int32.ofNat be2) bw2 0 (lay b F E (mX J (u2 I2 33 (upd (I 33) 9 0))) L P nx us)) ∧
        (∀ (J : Nat → Nat → Int32) (fu : Nat), m + 1 < fu → f_X15_trail_129 fu (ad b 72) wt (Int32.ofNat be) le (Int32.ofNat s) (lay b F E (mM J I) L P nx us) = f_X15_trail_415 FU (ad b 72) (Int32.ofNat be2) le2 0 (lay b F E (mM J (u2 I2 72 (upd (I 72) 102 0))) L P nx us)) := by
      intro be' bw' le' hb' hi' h0' hx hm
      obtain ⟨be2, bw2, le2, I2, z1, z2, z3, z4, z5⟩ := ih (s + 1) (by omega) (by omega) I1 be' bw' le' hQ1 hT1 hB1 hb' hi'
      refine ⟨be2, bw2, le2, I2, z1, fun c c1 c2 => by rw [z2 c c1 c2, rI1 c c1 c2], ?_, ?_, ?_⟩
      · rcases z3 with ⟨a1, a2, a3⟩ | a
        · refine Or.inl ⟨a1, (h0' a2).1, fun s' b1 b2 => ?_⟩
          by_cases hz : s' = s
          · subst hz; exact (h0' a2).2
          · have := a3 s' (by omega) b2
            rw [r79] at this
            exact this
        · exact Or.inr a
      · intro J fu hfu
        obtain ⟨fu, rfl⟩ : ∃ z, fu = z + 1 := ⟨fu - 1, by omega⟩
        rw [hx J fu, z4 J fu (by omega), r33]
      · intro J fu hfu
        obtain ⟨fu, rfl⟩ : ∃ z, fu = z + 1 := ⟨fu - 1, by omega⟩
        rw [hm J fu, z5 J fu (by omega), r72]
    -- the reference's own step up to its decision
    have hM : ∀ (J : Nat → Nat → Int32) (fu : Nat), f_X15_trail_129 (fu + 1) (ad b 72) wt (Int32.ofNat be) le (Int32.ofNat s) (lay b F E (mM J I) L P nx us) = f_X15_trail_150 (f_X15_trail_129 fu) (FU - 1 - n + 1) (ad b 72) wt (Int32.ofNat be) le (Int32.ofNat s) (hsF st (I 79) s 0 n 0) (Int32.ofNat lv) (Int32.ofNat n) (lay b F E (mM J I1) L P nx us) := by
      intro J fu
      have := M_setL (b := b) (F := F) (E := E) (L := L) (P := P) (nx := nx) (us := us) (nw := nw) (n := n) (s := s) (st := st) (x4 := I 4) (x37 := I 37) (T0 := I 143) (i2 := wt) (i3 := Int32.ofNat be) (i4 := le) (k129 := f_X15_trail_129 fu) h16 hs2 n 0 (by omega) (mM J I) 0 1000000 (FU - 1 - n) (by simp (decide := true) only [isO_s, gI_s, gA_s, gL_s, pI_s, pZ_s, pL_s, aI_s, aL_s, aN_s, aQ_s, sI_s, sL_s, cr, LNs, Option.map_some, Option.map_none, Option.bind_some, b2, tr, lt, if_true, if_false, ckZ, X_within, M_in, inR_z, X_refuse, X_tell, X_deny, X_grant, M_refused, M_denied, M_done, M_granted, u2_same, u2_ne, u2_u2, upd_same, upd_ne, aW0, ixR_z, ixR_1, M_isWall, M_isPainter, M_isWork, X_has4, X_has10, X_at, or_false, false_or, or_true, true_or, not_true, not_false_iff, Option.isSome_some, isO_d, gI_d, gA_d, pI_d, ne_eq, not_false_eq_true, u2_hi, u2_hj, u2_dyn, u2_dynj, Nat.reduceAdd, mX_r, mX_rD, mX_rDj, mM_r, mX_u, mX_uM, mX_uD, mX_uDj, mM_u, mM_uX, mM_uD, mM_uDj, u2_dd, u2_d0, u2_0d]; exact q2) (by simp (decide := true) only [isO_s, gI_s, gA_s, gL_s, pI_s, pZ_s, pL_s, aI_s, aL_s, aN_s, aQ_s, sI_s, sL_s, cr, LNs, Option.map_some, Option.map_none, Option.bind_some, b2, tr, lt, if_true, if_false, ckZ, X_within, M_in, inR_z, X_refuse, X_tell, X_deny, X_grant, M_refused, M_denied, M_done, M_granted, u2_same, u2_ne, u2_u2, upd_same, upd_ne, aW0, ixR_z, ixR_1, M_isWall, M_isPainter, M_isWork, X_has4, X_has10, X_at, or_false, false_or, or_true, true_or, not_true, not_false_iff, Option.isSome_some, isO_d, gI_d, gA_d, pI_d, ne_eq, not_false_eq_true, u2_hi, u2_hj, u2_dyn, u2_dynj, Nat.reduceAdd, mX_r, mX_rD, mX_rDj, mM_r, mX_u, mX_uM, mX_uD, mX_uDj, mM_u, mM_uX, mM_uD, mM_uDj, u2_dd, u2_d0, u2_0d]; exact q3) (by simp (decide := true) only [isO_s, gI_s, gA_s, gL_s, pI_s, pZ_s, pL_s, aI_s, aL_s, aN_s, aQ_s, sI_s, sL_s, cr, LNs, Option.map_some, Option.map_none, Option.bind_some, b2, tr, lt, if_true, if_false, ckZ, X_within, M_in, inR_z, X_refuse, X_tell, X_deny, X_grant, M_refused, M_denied, M_done, M_granted, u2_same, u2_ne, u2_u2, upd_same, upd_ne, aW0, ixR_z, ixR_1, M_isWall, M_isPainter, M_isWork, X_has4, X_has10, X_at, or_false, false_or, or_true, true_or, not_true, not_false_iff, Option.isSome_some, isO_d, gI_d, gA_d, pI_d, ne_eq, not_false_eq_true, u2_hi, u2_hj, u2_dyn, u2_dynj, Nat.reduceAdd, mX_r, mX_rD, mX_rDj, mM_r, mX_u, mX_uM, mX_uD, mX_uDj, mM_u, mM_uX, mM_uD, mM_uDj, u2_dd, u2_d0, u2_0d]; exact q5) (fun x _ => by rw [mM_r (by decide)])
      rw [mM_r (by decide), mM_r (by decide), mM_r (by decide), lv2'] at this
      have hI1 : u2 (mM J I) 143 (rowF n st (I 89) (I 143) (I 143) s 0) = mM J I1 := by simp (decide := true) only [I1, isO_s, gI_s, gA_s, gL_s, pI_s, pZ_s, pL_s, aI_s, aL_s, aN_s, aQ_s, sI_s, sL_s, cr, LNs, Option.map_some, Option.map_none, Option.bind_some, b2, tr, lt, if_true, if_false, ckZ, X_within, M_in, inR_z, X_refuse, X_tell, X_deny, X_grant, M_refused, M_denied, M_done, M_granted, u2_same, u2_ne, u2_u2, upd_same, upd_ne, aW0, ixR_z, ixR_1, M_isWall, M_isPainter, M_isWork, X_has4, X_has10, X_at, or_false, false_or, or_true, true_or, not_true, not_false_iff, Option.isSome_some, isO_d, gI_d, gA_d, pI_d, ne_eq, not_false_eq_true, u2_hi, u2_hj, u2_dyn, u2_dynj, Nat.reduceAdd, mX_r, mX_rD, mX_rDj, mM_r, mX_u, mX_uM, mX_uD, mX_uDj, mM_u, mM_uX, mM_uD, mM_uDj, u2_dd, u2_d0, u2_0d]
      rw [hI1, show FU - 1 - n + 1 + n = FU by unfold FU; omega] at this
      rw [← this]
      simp (decide := true) only [f_X15_trail_129, q5, esh, ele, isO_s, gI_s, gA_s, gL_s, pI_s, pZ_s, pL_s, aI_s, aL_s, aN_s, aQ_s, sI_s, sL_s, cr, LNs, Option.map_some, Option.map_none, Option.bind_some, b2, tr, lt, if_true, if_false, ckZ, X_within, M_in, inR_z, X_refuse, X_tell, X_deny, X_grant, M_refused, M_denied, M_done, M_granted, u2_same, u2_ne, u2_u2, upd_same, upd_ne, aW0, ixR_z, ixR_1, M_isWall, M_isPainter, M_isWork, X_has4, X_has10, X_at, or_false, false_or, or_true, true_or, not_true, not_false_iff, Option.isSome_some, isO_d, gI_d, gA_d, pI_d, ne_eq, not_false_eq_true, u2_hi, u2_hj, u2_dyn, u2_dynj, Nat.reduceAdd, mX_r, mX_rD, mX_rDj, mM_r, mX_u, mX_uM, mX_uD, mX_uDj, mM_u, mM_uX, mM_uD, mM_uDj, u2_dd, u2_d0, u2_0d]
      rfl
    clear_value I1
    by_cases hw : hsF st (I 79) s 0 n 0 &&& wt = wt
    · have hw' : (wt &&& (hsF st (I 79) s 0 n 0 ^^^ (-1)) = 0) = True := by rw [wantE]; exact eq_true hw
      have e72 : I1 72 101 = Int32.ofNat n := by rw [r72]; exact q5
      have e337 : I1 33 7 = wt := by rw [r33]; exact q7
      have take : (be = 0 ∨ Int32.ofNat lv < bw ∨ (Int32.ofNat lv = bw ∧ ahR s be)) → (Int32.ofNat lv < le ∨ (Int32.ofNat lv = le ∧ ahR s be)) → _ := fun hx hm => goOn s (Int32.ofNat lv) (Int32.ofNat lv) hs2 (Or.inr ⟨by omega, rfl⟩) (fun q => by omega) (by
        intro J fu
        by_cases hb0 : be = 0
        · subst hb0
          have e0 : (Int32.ofNat 0 = 0) = True := eq_true rfl
          simp (decide := true) only [f_X6_shortestTrail_33, f_X6_shortestTrail_98, f_X6_shortestTrail_104, q4, esh, ele, hwX J, htX J, e337, hw, e0, oN_succ, isO_s, gI_s, gA_s, gL_s, pI_s, pZ_s, pL_s, aI_s, aL_s, aN_s, aQ_s, sI_s, sL_s, cr, LNs, Option.map_some, Option.map_none, Option.bind_some, b2, tr, lt, if_true, if_false, ckZ, X_within, M_in, inR_z, X_refuse, X_tell, X_deny, X_grant, M_refused, M_denied, M_done, M_granted, u2_same, u2_ne, u2_u2, upd_same, upd_ne, aW0, ixR_z, ixR_1, M_isWall, M_isPainter, M_isWork, X_has4, X_has10, X_at, or_false, false_or, or_true, true_or, not_true, not_false_iff, Option.isSome_some, isO_d, gI_d, gA_d, pI_d, ne_eq, not_false_eq_true, u2_hi, u2_hj, u2_dyn, u2_dynj, Nat.reduceAdd, mX_r, mX_rD, mX_rDj, mM_r, mX_u, mX_uM, mX_uD, mX_uDj, mM_u, mM_uX, mM_uD, mM_uDj, u2_dd, u2_d0, u2_0d]
        · have e0 : (Int32.ofNat be = 0) = False := oN_ne (c := 0) hb0 (by omega) (by omega)
          rcases hx with hx | hx | ⟨hx, hx2⟩
          · exact absurd hx hb0
          · simp (decide := true) only [f_X6_shortestTrail_33, f_X6_shortestTrail_98, f_X6_shortestTrail_104, q4, esh, ele, hwX J, htX J, e337, hw, e0, hx, oN_succ, isO_s, gI_s, gA_s, gL_s, pI_s, pZ_s, pL_s, aI_s, aL_s, aN_s, aQ_s, sI_s, sL_s, cr, LNs, Option.map_some, Option.map_none, Option.bind_some, b2, tr, lt, if_true, if_false, ckZ, X_within, M_in, inR_z, X_refuse, X_tell, X_deny, X_grant, M_refused, M_denied, M_done, M_granted, u2_same, u2_ne, u2_u2, upd_same, upd_ne, aW0, ixR_z, ixR_1, M_isWall, M_isPainter, M_isWork, X_has4, X_has10, X_at, or_false, false_or, or_true, true_or, not_true, not_false_iff, Option.isSome_some, isO_d, gI_d, gA_d, pI_d, ne_eq, not_false_eq_true, u2_hi, u2_hj, u2_dyn, u2_dynj, Nat.reduceAdd, mX_r, mX_rD, mX_rDj, mM_r, mX_u, mX_uM, mX_uD, mX_uDj, mM_u, mM_uX, mM_uD, mM_uDj, u2_dd, u2_d0, u2_0d]
          · have hir : ¬ bw < bw := Int32.lt_irrefl
            simp (decide := true) only [f_X6_shortestTrail_33, f_X6_shortestTrail_98, f_X6_shortestTrail_104, q4, esh, ele, hwX J, htX J, e337, hw, e0, hx, hir, X_ahead1 _ hx2, oN_succ, isO_s, gI_s, gA_s, gL_s, pI_s, pZ_s, pL_s, aI_s, aL_s, aN_s, aQ_s, sI_s, sL_s, cr, LNs, Option.map_some, Option.map_none, Option.bind_some, b2, tr, lt, if_true, if_false, ckZ, X_within, M_in, inR_z, X_refuse, X_tell, X_deny, X_grant, M_refused, M_denied, M_done, M_granted, u2_same, u2_ne, u2_u2, upd_same, upd_ne, aW0, ixR_z, ixR_1, M_isWall, M_isPainter, M_isWork, X_has4, X_has10, X_at, or_false, false_or, or_true, true_or, not_true, not_false_iff, Option.isSome_some, isO_d, gI_d, gA_d, pI_d, ne_eq, not_false_eq_true, u2_hi, u2_hj, u2_dyn, u2_dynj, Nat.reduceAdd, mX_r, mX_rD, mX_rDj, mM_r, mX_u, mX_uM, mX_uD, mX_uDj, mM_u, mM_uX, mM_uD, mM_uDj, u2_dd, u2_d0, u2_0d]) (by
        intro J fu
        rw [hM J fu]
        rcases hm with hm | ⟨hm, hm2⟩
        · simp (decide := true) only [f_X15_trail_150, f_X15_trail_379, f_X15_trail_383, f_X15_trail_384, f_X15_trail_401, e72, Int32.le_refl, hw', hm, oN_succ, isO_s, gI_s, gA_s, gL_s, pI_s, pZ_s, pL_s, aI_s, aL_s, aN_s, aQ_s, sI_s, sL_s, cr, LNs, Option.map_some, Option.map_none, Option.bind_some, b2, tr, lt, if_true, if_false, ckZ, X_within, M_in, inR_z, X_refuse, X_tell, X_deny, X_grant, M_refused, M_denied, M_done, M_granted, u2_same, u2_ne, u2_u2, upd_same, upd_ne, aW0, ixR_z, ixR_1, M_isWall, M_isPainter, M_isWork, X_has4, X_has10, X_at, or_false, false_or, or_true, true_or, not_true, not_false_iff, Option.isSome_some, isO_d, gI_d, gA_d, pI_d, ne_eq, not_false_eq_true, u2_hi, u2_hj, u2_dyn, u2_dynj, Nat.reduceAdd, mX_r, mX_rD, mX_rDj, mM_r, mX_u, mX_uM, mX_uD, mX_uDj, mM_u, mM_uX, mM_uD, mM_uDj, u2_dd, u2_d0, u2_0d]
        · have hir : ¬ le < le := Int32.lt_irrefl
          rcases hm2 with a1 | ⟨a1, a2⟩
          · simp (decide := true) only [f_X15_trail_150, f_X15_trail_379, f_X15_trail_383, f_X15_trail_384, f_X15_trail_401, e72, Int32.le_refl, hw', hm, hir, M_bits9 (show s < 512 by omega), M_bits9 (show be < 512 by omega), a1, oN_succ, isO_s, gI_s, gA_s, gL_s, pI_s, pZ_s, pL_s, aI_s, aL_s, aN_s, aQ_s, sI_s, sL_s, cr, LNs, Option.map_some, Option.map_none, Option.bind_some, b2, tr, lt, if_true, if_false, ckZ, X_within, M_in, inR_z, X_refuse, X_tell, X_deny, X_grant, M_refused, M_denied, M_done, M_granted, u2_same, u2_ne, u2_u2, upd_same, upd_ne, aW0, ixR_z, ixR_1, M_isWall, M_isPainter, M_isWork, X_has4, X_has10, X_at, or_false, false_or, or_true, true_or, not_true, not_false_iff, Option.isSome_some, isO_d, gI_d, gA_d, pI_d, ne_eq, not_false_eq_true, u2_hi, u2_hj, u2_dyn, u2_dynj, Nat.reduceAdd, mX_r, mX_rD, mX_rDj, mM_r, mX_u, mX_uM, mX_uD, mX_uDj, mM_u, mM_uX, mM_uD, mM_uDj, u2_dd, u2_d0, u2_0d]
          · have a3 : ¬ bcF (Int32.ofNat be) < bcF (Int32.ofNat be) := Int32.lt_irrefl
            simp (decide := true) only [f_X15_trail_150, f_X15_trail_379, f_X15_trail_383, f_X15_trail_384, f_X15_trail_401, e72, Int32.le_refl, hw', hm, hir, M_bits9 (show s < 512 by omega), M_bits9 (show be < 512 by omega), a1, a2, a3, oN_succ, isO_s, gI_s, gA_s, gL_s, pI_s, pZ_s, pL_s, aI_s, aL_s, aN_s, aQ_s, sI_s, sL_s, cr, LNs, Option.map_some, Option.map_none, Option.bind_some, b2, tr, lt, if_true, if_false, ckZ, X_within, M_in, inR_z, X_refuse, X_tell, X_deny, X_grant, M_refused, M_denied, M_done, M_granted, u2_same, u2_ne, u2_u2, upd_same, upd_ne, aW0, ixR_z, ixR_1, M_isWall, M_isPainter, M_isWork, X_has4, X_has10, X_at, or_false, false_or, or_true, true_or, not_true, not_false_iff, Option.isSome_some, isO_d, gI_d, gA_d, pI_d, ne_eq, not_false_eq_true, u2_hi, u2_hj, u2_dyn, u2_dynj, Nat.reduceAdd, mX_r, mX_rD, mX_rDj, mM_r, mX_u, mX_uM, mX_uD, mX_uDj, mM_u, mM_uX, mM_uD, mM_uDj, u2_dd, u2_d0, u2_0d])
      have lvF : lv < 1000000 := by omega
      rcases hinv with ⟨a1, a2⟩ | ⟨a1, a2⟩
      · refine take (Or.inl a1) (Or.inl ?_)
        rw [a2]
        exact (oN_lt (by omega) (by decide : 1000000 < 2147483648)).mpr lvF
      · subst a2
        by_cases c1 : Int32.ofNat lv < bw
        · exact take (Or.inr (Or.inl c1)) (Or.inl c1)
        · by_cases c2 : Int32.ofNat lv = bw
          · by_cases c3 : ahR s be
            · exact take (Or.inr (Or.inr ⟨c2, c3⟩)) (Or.inr ⟨c2, c3⟩)
            · have e0 : (Int32.ofNat be = 0) = False := oN_ne (c := 0) a1 (by omega) (by omega)
              have hir : ¬ bw < bw := Int32.lt_irrefl
              refine goOn be bw bw hbe (Or.inr ⟨a1, rfl⟩) (fun q => absurd q a1) ?_ ?_
              · intro J fu
                simp (decide := true) only [f_X6_shortestTrail_33, f_X6_shortestTrail_98, f_X6_shortestTrail_104, q4, esh, ele, hwX J, htX J, e337, hw, e0, c2, hir, X_ahead0 _ c3, oN_succ, isO_s, gI_s, gA_s, gL_s, pI_s, pZ_s, pL_s, aI_s, aL_s, aN_s, aQ_s, sI_s, sL_s, cr, LNs, Option.map_some, Option.map_none, Option.bind_some, b2, tr, lt, if_true, if_false, ckZ, X_within, M_in, inR_z, X_refuse, X_tell, X_deny, X_grant, M_refused, M_denied, M_done, M_granted, u2_same, u2_ne, u2_u2, upd_same, upd_ne, aW0, ixR_z, ixR_1, M_isWall, M_isPainter, M_isWork, X_has4, X_has10, X_at, or_false, false_or, or_true, true_or, not_true, not_false_iff, Option.isSome_some, isO_d, gI_d, gA_d, pI_d, ne_eq, not_false_eq_true, u2_hi, u2_hj, u2_dyn, u2_dynj, Nat.reduceAdd, mX_r, mX_rD, mX_rDj, mM_r, mX_u, mX_uM, mX_uD, mX_uDj, mM_u, mM_uX, mM_uD, mM_uDj, u2_dd, u2_d0, u2_0d]
              · intro J fu
                rw [hM J fu]
                have d1 : ¬ bcF (Int32.ofNat s) < bcF (Int32.ofNat be) := fun q => c3 (Or.inl q)
                by_cases d2 : bcF (Int32.ofNat s) = bcF (Int32.ofNat be)
                · have d3 : ((Int32.ofNat s ^^^ Int32.ofNat be) &&& (-(Int32.ofNat s ^^^ Int32.ofNat be))) &&& Int32.ofNat s = 0 := Decidable.byContradiction fun q => c3 (Or.inr ⟨d2, q⟩)
                  have d4 : ¬ bcF (Int32.ofNat be) < bcF (Int32.ofNat be) := Int32.lt_irrefl
                  simp (decide := true) only [f_X15_trail_150, f_X15_trail_379, f_X15_trail_383, f_X15_trail_384, f_X15_trail_401, e72, Int32.le_refl, hw', c2, hir, M_bits9 (show s < 512 by omega), M_bits9 (show be < 512 by omega), d2, d3, d4, oN_succ, isO_s, gI_s, gA_s, gL_s, pI_s, pZ_s, pL_s, aI_s, aL_s, aN_s, aQ_s, sI_s, sL_s, cr, LNs, Option.map_some, Option.map_none, Option.bind_some, b2, tr, lt, if_true, if_false, ckZ, X_within, M_in, inR_z, X_refuse, X_tell, X_deny, X_grant, M_refused, M_denied, M_done, M_granted, u2_same, u2_ne, u2_u2, upd_same, upd_ne, aW0, ixR_z, ixR_1, M_isWall, M_isPainter, M_isWork, X_has4, X_has10, X_at, or_false, false_or, or_true, true_or, not_true, not_false_iff, Option.isSome_some, isO_d, gI_d, gA_d, pI_d, ne_eq, not_false_eq_true, u2_hi, u2_hj, u2_dyn, u2_dynj, Nat.reduceAdd, mX_r, mX_rD, mX_rDj, mM_r, mX_u, mX_uM, mX_uD, mX_uDj, mM_u, mM_uX, mM_uD, mM_uDj, u2_dd, u2_d0, u2_0d]
                · simp (decide := true) only [f_X15_trail_150, f_X15_trail_379, f_X15_trail_383, f_X15_trail_384, f_X15_trail_401, e72, Int32.le_refl, hw', c2, hir, M_bits9 (show s < 512 by omega), M_bits9 (show be < 512 by omega), d1, d2, oN_succ, isO_s, gI_s, gA_s, gL_s, pI_s, pZ_s, pL_s, aI_s, aL_s, aN_s, aQ_s, sI_s, sL_s, cr, LNs, Option.map_some, Option.map_none, Option.bind_some, b2, tr, lt, if_true, if_false, ckZ, X_within, M_in, inR_z, X_refuse, X_tell, X_deny, X_grant, M_refused, M_denied, M_done, M_granted, u2_same, u2_ne, u2_u2, upd_same, upd_ne, aW0, ixR_z, ixR_1, M_isWall, M_isPainter, M_isWork, X_has4, X_has10, X_at, or_false, false_or, or_true, true_or, not_true, not_false_iff, Option.isSome_some, isO_d, gI_d, gA_d, pI_d, ne_eq, not_false_eq_true, u2_hi, u2_hj, u2_dyn, u2_dynj, Nat.reduceAdd, mX_r, mX_rD, mX_rDj, mM_r, mX_u, mX_uM, mX_uD, mX_uDj, mM_u, mM_uX, mM_uD, mM_uDj, u2_dd, u2_d0, u2_0d]
          · have e0 : (Int32.ofNat be = 0) = False := oN_ne (c := 0) a1 (by omega) (by omega)
            refine goOn be bw bw hbe (Or.inr ⟨a1, rfl⟩) (fun q => absurd q a1) ?_ ?_
            · intro J fu
              simp (decide := true) only [f_X6_shortestTrail_33, f_X6_shortestTrail_98, f_X6_shortestTrail_104, q4, esh, ele, hwX J, htX J, e337, hw, e0, c1, c2, oN_succ, isO_s, gI_s, gA_s, gL_s, pI_s, pZ_s, pL_s, aI_s, aL_s, aN_s, aQ_s, sI_s, sL_s, cr, LNs, Option.map_some, Option.map_none, Option.bind_some, b2, tr, lt, if_true, if_false, ckZ, X_within, M_in, inR_z, X_refuse, X_tell, X_deny, X_grant, M_refused, M_denied, M_done, M_granted, u2_same, u2_ne, u2_u2, upd_same, upd_ne, aW0, ixR_z, ixR_1, M_isWall, M_isPainter, M_isWork, X_has4, X_has10, X_at, or_false, false_or, or_true, true_or, not_true, not_false_iff, Option.isSome_some, isO_d, gI_d, gA_d, pI_d, ne_eq, not_false_eq_true, u2_hi, u2_hj, u2_dyn, u2_dynj, Nat.reduceAdd, mX_r, mX_rD, mX_rDj, mM_r, mX_u, mX_uM, mX_uD, mX_uDj, mM_u, mM_uX, mM_uD, mM_uDj, u2_dd, u2_d0, u2_0d]
            · intro J fu
              rw [hM J fu]
              simp (decide := true) only [f_X15_trail_150, f_X15_trail_379, f_X15_trail_383, f_X15_trail_384, f_X15_trail_401, e72, Int32.le_refl, hw', c1, c2, oN_succ, isO_s, gI_s, gA_s, gL_s, pI_s, pZ_s, pL_s, aI_s, aL_s, aN_s, aQ_s, sI_s, sL_s, cr, LNs, Option.map_some, Option.map_none, Option.bind_some, b2, tr, lt, if_true, if_false, ckZ, X_within, M_in, inR_z, X_refuse, X_tell, X_deny, X_grant, M_refused, M_denied, M_done, M_granted, u2_same, u2_ne, u2_u2, upd_same, upd_ne, aW0, ixR_z, ixR_1, M_isWall, M_isPainter, M_isWork, X_has4, X_has10, X_at, or_false, false_or, or_true, true_or, not_true, not_false_iff, Option.isSome_some, isO_d, gI_d, gA_d, pI_d, ne_eq, not_false_eq_true, u2_hi, u2_hj, u2_dyn, u2_dynj, Nat.reduceAdd, mX_r, mX_rD, mX_rDj, mM_r, mX_u, mX_uM, mX_uD, mX_uDj, mM_u, mM_uX, mM_uD, mM_uDj, u2_dd, u2_d0, u2_0d]
    · have hw' : (wt &&& (hsF st (I 79) s 0 n 0 ^^^ (-1)) = 0) = False := by rw [wantE]; exact eq_false hw
      have e72 : I1 72 101 = Int32.ofNat n := by rw [r72]; exact q5
      have e337 : I1 33 7 = wt := by rw [r33]; exact q7
      refine goOn be bw le hbe hinv (fun q => ⟨q, hw⟩) ?_ ?_
      · intro J fu
        simp (decide := true) only [f_X6_shortestTrail_33, f_X6_shortestTrail_104, q4, esh, ele, hwX J, htX J, e337, hw, oN_succ, isO_s, gI_s, gA_s, gL_s, pI_s, pZ_s, pL_s, aI_s, aL_s, aN_s, aQ_s, sI_s, sL_s, cr, LNs, Option.map_some, Option.map_none, Option.bind_some, b2, tr, lt, if_true, if_false, ckZ, X_within, M_in, inR_z, X_refuse, X_tell, X_deny, X_grant, M_refused, M_denied, M_done, M_granted, u2_same, u2_ne, u2_u2, upd_same, upd_ne, aW0, ixR_z, ixR_1, M_isWall, M_isPainter, M_isWork, X_has4, X_has10, X_at, or_false, false_or, or_true, true_or, not_true, not_false_iff, Option.isSome_some, isO_d, gI_d, gA_d, pI_d, ne_eq, not_false_eq_true, u2_hi, u2_hj, u2_dyn, u2_dynj, Nat.reduceAdd, mX_r, mX_rD, mX_rDj, mM_r, mX_u, mX_uM, mX_uD, mX_uDj, mM_u, mM_uX, mM_uD, mM_uDj, u2_dd, u2_d0, u2_0d]
      · intro J fu
        rw [hM J fu]
        simp (decide := true) only [f_X15_trail_150, f_X15_trail_401, e72, Int32.le_refl, hw', oN_succ, isO_s, gI_s, gA_s, gL_s, pI_s, pZ_s, pL_s, aI_s, aL_s, aN_s, aQ_s, sI_s, sL_s, cr, LNs, Option.map_some, Option.map_none, Option.bind_some, b2, tr, lt, if_true, if_false, ckZ, X_within, M_in, inR_z, X_refuse, X_tell, X_deny, X_grant, M_refused, M_denied, M_done, M_granted, u2_same, u2_ne, u2_u2, upd_same, upd_ne, aW0, ixR_z, ixR_1, M_isWall, M_isPainter, M_isWork, X_has4, X_has10, X_at, or_false, false_or, or_true, true_or, not_true, not_false_iff, Option.isSome_some, isO_d, gI_d, gA_d, pI_d, ne_eq, not_false_eq_true, u2_hi, u2_hj, u2_dyn, u2_dynj, Nat.reduceAdd, mX_r, mX_rD, mX_rDj, mM_r, mX_u, mX_uM, mX_uD, mX_uDj, mM_u, mM_uX, mM_uD, mM_uDj, u2_dd, u2_d0, u2_0d]
end TRL3
