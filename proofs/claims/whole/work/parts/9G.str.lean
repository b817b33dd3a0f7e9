/-! ===== texts below the base ===== -/
/-- a text: n letters, the i-th c i -/
def SB (b : Nat) (F : Nat → Option AE) (a n : Nat) (c : Nat → Nat) : Prop := a < b ∧ ∃ (v : Nat) (f : Nat → Value) (g : Nat → Int32), F a = some (.inr (99, f)) ∧ f 0 = .ref v ∧ f 1 = .int 0 ∧ v < b ∧ F v = some (.inl (21, n, .inl g)) ∧ n ≤ 100 ∧ ∀ i, i < n → g i = Int32.ofNat (c i) ∧ c i < 128
/-- the texts of class and reference -/
def zt : Nat → List Nat
  | 0 => [91, 93, 40, 41, 59, 60, 62, 61, 43, 45, 42, 47, 44, 37]
  | 1 => [114, 101, 99, 116]
  | 2 => [100, 105, 115, 99]
  | 3 => [115, 97, 121]
  | 4 => [101, 97, 99, 104]
  | 5 => [105, 102]
  | 6 => [105, 106, 107, 109, 110]
  | 7 => [119, 105, 100, 101]
  | 8 => [104, 105, 103, 104]
  | 9 => [102, 114, 111, 109]
  | 10 => [116, 111]
  | 11 => [114, 101, 115, 116]
  | 12 => [112, 97, 105, 110, 116, 101, 114]
  | 13 => [111, 119, 110, 101, 114]
  | 14 => [116, 111, 119, 110]
  | 15 => [115, 99, 104, 111, 111, 108]
  | 16 => [114, 101, 99, 116]
  | 17 => [100, 105, 115, 99]
  | 18 => [115, 97, 121]
  | 19 => [101, 97, 99, 104]
  | 20 => [105, 102]
  | 21 => [102, 114, 111, 109]
  | 22 => [116, 111]
  | 23 => [119, 105, 100, 101]
  | 24 => [104, 105, 103, 104]
  | 25 => [114, 101, 115, 116]
  | 26 => [112, 97, 105, 110, 116, 101, 114]
  | 27 => [111, 119, 110, 101, 114]
  | 28 => [116, 111, 119, 110]
  | 29 => [115, 99, 104, 111, 111, 108]
  | _ => []
def GZ (b : Nat) (F : Nat → Option AE) (z : ZX) : Prop := ∀ k, k < 30 → SB b F (z.1 k) (zt k).length (fun i => (zt k).getD i 0)
theorem ck_C : ∀ c, c < 128 → ckC (((Int32.ofNat c &&& 255).toUInt32 % 65536).toInt32) = some (Int32.ofNat c) ∧ ckC (Int32.ofNat c) = some (Int32.ofNat c) := by decide +kernel
/-- the letters of a text taken into a number -/
def wdF (c : Nat → Nat) : Nat → Nat → Int64 → Int64
  | 0, _, x => x
  | m + 1, i, x => wdF c m (i + 1) (32 * x + (Int32.ofNat (c i) - 97 + 1).toInt64)
def zw (k : Nat) : Int64 := wdF (fun i => (zt k).getD i 0) (zt k).length 0 0
section STR
variable {b : Nat} {F : Nat → Option AE} {D E : Nat → Option KD} {I : Nat → Nat → Int32} {L : Nat → Nat → Int64} {P : Nat → Nat → Option Nat} {nx us : Nat}
theorem S_len {a n : Nat} {c : Nat → Nat} (h : SB b F a n c) : f_J0_length_8abf5 a (lay b F E I L P nx us) = some (Int32.ofNat n, (lay b F E I L P nx us)) := by
  obtain ⟨h1, v, f, g, h2, h3, h4, h5, h6, h7, h8⟩ := h
  have e1 := hM_F (F := F) (E := E) (I := I) (L := L) (P := P) (nx := nx) (us := us) h1
  have e2 := hM_F (F := F) (E := E) (I := I) (L := L) (P := P) (nx := nx) (us := us) h5
  have o : isO 99 (lay b F E I L P nx us) a = true := by unfold isO; rw [e1, h2]; rfl
  have g0 : gA 99 (lay b F E I L P nx us) a 0 = some v := by unfold gA gV; rw [e1, h2]; simp [h3, vA]
  have g1 : gI 99 (lay b F E I L P nx us) a 1 = some 0 := by unfold gI gV; rw [e1, h2]; simp [h4, vI]
  have n1 : aN (lay b F E I L P nx us) v = some (Int32.ofNat n) := by unfold aN; rw [e2, h6]
  have cb : ckB 0 = some 0 := by decide
  have e0 : ((1 : Int32) = 0) = False := by decide
  have sh : Int32.ofNat n >>> ((0 : Int32) &&& 31) = Int32.ofNat n := by
    have : Int32.ofNat n >>> (Int32.ofNat 0 &&& 31) = Int32.ofNat (n >>> 0) := oN_sshr (by omega) (by omega)
    exact this
  unfold f_J0_length_8abf5 f_J0_coder_7d493 f_J0_coder_7d493_14
  simp only [o, g0, g1, n1, cb, e0, if_true, if_false, b2, Option.bind_some, sh]
theorem S_chr {z : ZX} {a n i : Nat} {c : Nat → Nat} (h : SB b F a n c) (hi : i < n) : f_J0_charAt_5068e z a (Int32.ofNat i) (lay b F E I L P nx us) = some (Int32.ofNat (c i), (lay b F E I L P nx us)) := by
  obtain ⟨h1, v, f, g, h2, h3, h4, h5, h6, h7, h8⟩ := h
  have e1 := hM_F (F := F) (E := E) (I := I) (L := L) (P := P) (nx := nx) (us := us) h1
  have e2 := hM_F (F := F) (E := E) (I := I) (L := L) (P := P) (nx := nx) (us := us) h5
  have o : isO 99 (lay b F E I L P nx us) a = true := by unfold isO; rw [e1, h2]; rfl
  have g0 : gA 99 (lay b F E I L P nx us) a 0 = some v := by unfold gA gV; rw [e1, h2]; simp [h3, vA]
  have g1 : gI 99 (lay b F E I L P nx us) a 1 = some 0 := by unfold gI gV; rw [e1, h2]; simp [h4, vI]
  have n1 : aN (lay b F E I L P nx us) v = some (Int32.ofNat n) := by unfold aN; rw [e2, h6]
  have n2 : aI 21 (lay b F E I L P nx us) v (Int32.ofNat i) = some (Int32.ofNat (c i)) := by unfold aI; rw [e2, h6]; simp [iN_oN hi (by omega), (h8 i hi).1]
  have e0 : ((1 : Int32) = 0) = False := by decide
  have z1 : ckZ 1 = some 1 := by decide
  obtain ⟨k1, k2⟩ := ck_C (c i) (h8 i hi).2
  have q1 := oN_neg (w := i) (by omega)
  have q2 := oN_ltT hi (by omega)
  have hck : f_J0_checkIndex_df160 z (Int32.ofNat i) (Int32.ofNat n) (lay b F E I L P nx us) = some (lay b F E I L P nx us) := by
    unfold f_J0_checkIndex_df160 f_E4
    cases z.2.2 0 <;> simp only [tr, q1, q2, if_true, if_false, b2, Option.bind_some]
  unfold f_J0_charAt_5068e f_J0_isLatin1_aae02 f_J0_isLatin1_aae02_18 f_J1_charAt_3b067
  simp only [o, g0, g1, n1, n2, z1, e0, hck, k1, k2, if_true, if_false, b2, Option.bind_some]
theorem M_wdl {z : ZX} {a n : Nat} {c : Nat → Nat} (h : SB b F a n c) (hn : n ≤ 100) : ∀ (m i : Nat), i + m = n → ∀ (fu : Nat) (x : Int64), m < fu → f_X15_wordOf_4 z fu a x (Int32.ofNat i) (lay b F E I L P nx us) = some (wdF c m i x, (lay b F E I L P nx us)) := by
  intro m
  induction m with
  | zero =>
    intro i hi fu x hf
    obtain ⟨fu, rfl⟩ : ∃ f, fu = f + 1 := ⟨fu - 1, by omega⟩
    have : i = n := by omega
    subst this
    unfold f_X15_wordOf_4
    simp only [S_len h, b2, Option.bind_some, Int32.le_refl, if_true]
    rfl
  | succ m ih =>
    intro i hi fu x hf
    obtain ⟨fu, rfl⟩ : ∃ f, fu = f + 1 := ⟨fu - 1, by omega⟩
    have e2 := oN_leF (show i < n by omega) (by omega)
    unfold f_X15_wordOf_4
    simp only [S_len h, S_chr (z := z) h (show i < n by omega), b2, lt, Option.bind_some, e2, if_false, oN_succ]
    exact ih (i + 1) (by omega) fu _ (by omega)
theorem M_wordOf {z : ZX} {k : Nat} (hz : GZ b F z) (hk : k < 30) : f_X15_wordOf z (z.1 k) (lay b F E I L P nx us) = some (zw k, (lay b F E I L P nx us)) := by
  have h := hz k hk
  have hn : (zt k).length ≤ 100 := by obtain ⟨-, v, f, g, -, -, -, -, -, h7, -⟩ := h; exact h7
  exact M_wdl h hn (zt k).length 0 (by omega) FU 0 (by unfold FU; omega)
/-- the class's comparison with a text -/
theorem X_is15 {z : ZX} {a n at0 : Nat} {c : Nat → Nat} (h : SB b F a n c) (hn : n ≤ 100) (hat : at0 ≤ 400) (h4 : I 40 4 = Int32.ofNat at0) : ∀ (m i : Nat), i + m = n → ∀ (fu : Nat) (x : Int64), m < fu → f_X7_is_15 z fu (ad b 40) a x (Int32.ofNat i) (lay b F E I L P nx us) = some (if lg_cmp (wdF c m i x) (L 43 at0) = 0 then 1 else 0, (lay b F E I L P nx us)) := by
  have e1 := oN_neg (w := at0) (by omega)
  have e3 : ((Int32.ofNat 401 : Int32) ≤ Int32.ofNat at0) = False := oN_leF (c := 401) (by omega) (by omega)
  have e4 : iN (Int32.ofNat at0) 401 = some at0 := iN_oN (by omega) (by omega)
  intro m
  induction m with
  | zero =>
    intro i hi fu x hf
    obtain ⟨fu, rfl⟩ : ∃ f, fu = f + 1 := ⟨fu - 1, by omega⟩
    have : i = n := by omega
    subst this
    show _ = some (if lg_cmp x (L 43 at0) = 0 then 1 else 0, (lay b F E I L P nx us))
    by_cases hc : lg_cmp x (L 43 at0) = 0
    · rw [if_pos hc]
      simp (decide := true) only [f_X7_is_15, f_X7_is_55, f_X7_value_32, f_X7_value_31, f_X7_value, S_len h, Int32.le_refl, h4, e1, e3, e4, hc, isO_s, gI_s, gA_s, gL_s, pI_s, pZ_s, pL_s, aI_s, aL_s, aN_s, aQ_s, sI_s, sL_s, cr, LNs, Option.map_some, Option.map_none, Option.bind_some, b2, tr, lt, if_true, if_false, ckZ, X_within, M_in, inR_z, X_refuse, X_tell, X_deny, X_grant, M_refused, M_denied, M_done, M_granted, u2_same, u2_ne, u2_u2, upd_same, upd_ne, aW0, ixR_z, ixR_1, M_isWall, M_isPainter, M_isWork, X_has4, X_has10, X_at, or_false, false_or, or_true, true_or, not_true, not_false_iff, Option.isSome_some, isO_d, gI_d, gA_d, pI_d, ne_eq, not_false_eq_true, u2_hi, u2_hj, u2_dyn, u2_dynj, Nat.reduceAdd, mX_r, mX_rD, mX_rDj, mM_r, mX_u, mX_uM, mX_uD, mX_uDj, mM_u, mM_uX, mM_uD, mM_uDj, u2_dd, u2_d0, u2_0d]
    · rw [if_neg hc]
      simp (decide := true) only [f_X7_is_15, f_X7_is_55, f_X7_value_32, f_X7_value_31, f_X7_value, S_len h, Int32.le_refl, h4, e1, e3, e4, hc, isO_s, gI_s, gA_s, gL_s, pI_s, pZ_s, pL_s, aI_s, aL_s, aN_s, aQ_s, sI_s, sL_s, cr, LNs, Option.map_some, Option.map_none, Option.bind_some, b2, tr, lt, if_true, if_false, ckZ, X_within, M_in, inR_z, X_refuse, X_tell, X_deny, X_grant, M_refused, M_denied, M_done, M_granted, u2_same, u2_ne, u2_u2, upd_same, upd_ne, aW0, ixR_z, ixR_1, M_isWall, M_isPainter, M_isWork, X_has4, X_has10, X_at, or_false, false_or, or_true, true_or, not_true, not_false_iff, Option.isSome_some, isO_d, gI_d, gA_d, pI_d, ne_eq, not_false_eq_true, u2_hi, u2_hj, u2_dyn, u2_dynj, Nat.reduceAdd, mX_r, mX_rD, mX_rDj, mM_r, mX_u, mX_uM, mX_uD, mX_uDj, mM_u, mM_uX, mM_uD, mM_uDj, u2_dd, u2_d0, u2_0d]
  | succ m ih =>
    intro i hi fu x hf
    obtain ⟨fu, rfl⟩ : ∃ f, fu = f + 1 := ⟨fu - 1, by omega⟩
    have e2 := oN_leF (show i < n by omega) (by omega)
    have ih' := ih (i + 1) (by omega) fu (32 * x + (Int32.ofNat (c i) - 97 + 1).toInt64) (by omega)
    have em : x * 32 + (Int32.ofNat (c i) - 97 + 1).toInt64 = 32 * x + (Int32.ofNat (c i) - 97 + 1).toInt64 := by rw [Int64.mul_comm]
    show _ = some (if lg_cmp (wdF c m (i + 1) (32 * x + (Int32.ofNat (c i) - 97 + 1).toInt64)) (L 43 at0) = 0 then 1 else 0, (lay b F E I L P nx us))
    simp (decide := true) only [f_X7_is_15, f_X7_withLetter, S_len h, S_chr (z := z) h (show i < n by omega), e2, oN_succ, em, isO_s, gI_s, gA_s, gL_s, pI_s, pZ_s, pL_s, aI_s, aL_s, aN_s, aQ_s, sI_s, sL_s, cr, LNs, Option.map_some, Option.map_none, Option.bind_some, b2, tr, lt, if_true, if_false, ckZ, X_within, M_in, inR_z, X_refuse, X_tell, X_deny, X_grant, M_refused, M_denied, M_done, M_granted, u2_same, u2_ne, u2_u2, upd_same, upd_ne, aW0, ixR_z, ixR_1, M_isWall, M_isPainter, M_isWork, X_has4, X_has10, X_at, or_false, false_or, or_true, true_or, not_true, not_false_iff, Option.isSome_some, isO_d, gI_d, gA_d, pI_d, ne_eq, not_false_eq_true, u2_hi, u2_hj, u2_dyn, u2_dynj, Nat.reduceAdd, mX_r, mX_rD, mX_rDj, mM_r, mX_u, mX_uM, mX_uD, mX_uDj, mM_u, mM_uX, mM_uD, mM_uDj, u2_dd, u2_d0, u2_0d]
    exact ih'
end STR
