/-! ===== ends of calls, indices, dynamic cells, sums ===== -/
/-- the state behind an end with trouble x -/
def rf (I : Nat → Nat → Int32) (x : Int32) : Nat → Nat → Int32 := u2 (u2 I 0 (upd (I 0) 16 x)) 72 (mE (upd (I 72) 0 0) x)
/-- the state behind a plain query -/
def th (I : Nat → Nat → Int32) : Nat → Nat → Int32 := u2 I 72 (upd (I 72) 0 0)
theorem rf_GT {I : Nat → Nat → Int32} {x : Int32} (h : GTI I) (hx : x ≠ 4) : GTI (rf I x) := by
  simp (decide := true) only [GTI, rf, u2_same, u2_ne, u2_u2, upd_same, upd_ne, mE, u2_dyn, dyn_u2]
  exact GT_end h hx
theorem th_GT {I : Nat → Nat → Int32} (h : GTI I) : GTI (th I) := by
  simp (decide := true) only [GTI, th, u2_same, u2_ne, u2_u2, upd_same, upd_ne, mE, u2_dyn, dyn_u2]
  exact h
theorem rf_Fr (I : Nat → Nat → Int32) (x : Int32) : Fr I (rf I x) [(0, 16), (72, 0), (72, 1), (72, 2)] [] := by
  unfold rf
  exact (by intro c k h1 h2; simp at h1 h2; simp only [mE, u2, upd]; (repeat' split) <;> first | rfl | (subst_vars; simp_all [upd]))
theorem th_Fr (I : Nat → Nat → Int32) : Fr I (th I) [(72, 0)] [] := by
  unfold th
  exact (by intro c k h1 h2; simp at h1 h2; simp only [mE, u2, upd]; (repeat' split) <;> first | rfl | (subst_vars; simp_all [upd]))
/-- is p a place below n -/
def ixR (p n : Int32) : Int32 := if p < 0 then 0 else if n ≤ p then 0 else 1
theorem ixR_z (p n : Int32) : (ixR p n = 0) = (p < 0 ∨ n ≤ p) := by
  unfold ixR
  apply propext
  constructor
  · intro h
    split at h
    · rename_i q; exact Or.inl q
    · split at h
      · rename_i q; exact Or.inr q
      · cases h
  · rintro (h | h)
    · rw [if_pos h]
    · split
      · rfl
      · rfl
theorem ixR_1 (p n : Int32) : (ixR p n = 1) = (¬ p < 0 ∧ ¬ n ≤ p) := by
  unfold ixR
  apply propext
  by_cases h1 : p < 0
  · simp [h1]
  · by_cases h2 : n ≤ p
    · simp [h1, h2]
    · simp [h1, h2]
/-- the cases of a place -/
theorem ixc (p : Int32) {n : Nat} (hn : n < 2147483648) : (p < 0 ∨ Int32.ofNat n ≤ p) ∨ ∃ w, w < n ∧ p = Int32.ofNat w := by
  by_cases h1 : p < 0
  · exact Or.inl (Or.inl h1)
  · obtain ⟨w, hw, rfl⟩ := nn_oN h1
    by_cases h2 : w < n
    · exact Or.inr ⟨w, h2, rfl⟩
    · exact Or.inl (Or.inr ((oN_le hn hw).mpr (by omega)))
theorem oN_neg {w : Nat} (h : w < 2147483648) : (Int32.ofNat w < 0) = False := by
  apply propext
  rw [Int32.lt_iff_toInt_lt, oN_toInt h]
  constructor
  · intro q
    have e : (0 : Int32).toInt = 0 := by decide
    omega
  · intro q; cases q
theorem oN_leF {a c : Nat} (h : a < c) (hc : c < 2147483648) : (Int32.ofNat c ≤ Int32.ofNat a) = False := by
  apply propext
  rw [oN_le hc (by omega)]
  constructor
  · intro q; omega
  · intro q; cases q
/-- the literal n as a Nat's number -/
theorem lit (n : Nat) : (OfNat.ofNat n : Int32) = Int32.ofNat n := rfl
section INF
variable {b : Nat} {F : Nat → Option AE} {D E : Nat → Option KD} {I : Nat → Nat → Int32} {L : Nat → Nat → Int64} {P : Nat → Nat → Option Nat} {nx us : Nat}
theorem M_isWall (p : Int32) : f_X15_isWall (ad b 72) p (lay b F E I L P nx us) = some (ixR p (I 72 4), (lay b F E I L P nx us)) := by
  unfold ixR
  simp (decide := true) only [f_X15_isWall, f_X15_isWall_17, f_X15_isWall_16, isO_s, gI_s, if_true, Option.bind_some, ckZ]
  split
  · rfl
  · split <;> rfl
theorem M_isPainter (p : Int32) : f_X15_isPainter (ad b 72) p (lay b F E I L P nx us) = some (ixR p (I 72 58), (lay b F E I L P nx us)) := by
  unfold ixR
  simp (decide := true) only [f_X15_isPainter, f_X15_isPainter_17, f_X15_isPainter_16, isO_s, gI_s, if_true, Option.bind_some, ckZ]
  split
  · rfl
  · split <;> rfl
theorem M_isWork (p : Int32) : f_X15_isWork (ad b 72) p (lay b F E I L P nx us) = some (ixR p (I 72 76), (lay b F E I L P nx us)) := by
  unfold ixR
  simp (decide := true) only [f_X15_isWork, f_X15_isWork_17, f_X15_isWork_16, isO_s, gI_s, if_true, Option.bind_some, ckZ]
  split
  · rfl
  · split <;> rfl
theorem X_has4 {p : Int32} (h10 : I 5 0 ≤ 10) : f_X4_has (ad b 5) p (lay b F E I L P nx us) = some (ixR p (I 5 0), (lay b F E I L P nx us)) := by
  unfold ixR
  simp (decide := true) only [f_X4_has, f_X4_has_23, f_X4_has_22, isO_s, gI_s, if_true, Option.bind_some, ckZ]
  split
  · rfl
  · split
    · rfl
    · rename_i h1 h2
      have h3 : ¬ 10 ≤ p := fun q => h2 (Int32.le_trans h10 q)
      rw [if_neg h3]
theorem X_has10 {p : Int32} (h40 : I 13 1 ≤ 40) : f_X10_has (ad b 13) p (lay b F E I L P nx us) = some (ixR p (I 13 1), (lay b F E I L P nx us)) := by
  unfold ixR
  simp (decide := true) only [f_X10_has, f_X10_has_23, f_X10_has_22, isO_s, gI_s, if_true, Option.bind_some, ckZ]
  split
  · rfl
  · split
    · rfl
    · rename_i h1 h2
      have h3 : ¬ 40 ≤ p := fun q => h2 (Int32.le_trans h40 q)
      rw [if_neg h3]
/-- the cell of wall p -/
def wAt (p n : Int32) (Q : Nat → Option Nat) : Option Nat := if p < 0 then none else if n ≤ p then none else if 16 ≤ p then none else Q p.toNatClampNeg
theorem X_at (p : Int32) : f_X9_at (ad b 1) p (lay b F E I L P nx us) = some ((wAt p (I 1 1) (P 2)).map (ad b), (lay b F E I L P nx us)) := by
  unfold wAt
  simp (decide := true) only [f_X9_at, f_X9_at_31, f_X9_at_30, isO_s, gI_s, gA_s, aN_s, cr, LNs, Option.map_some, if_true, Option.bind_some, tr]
  by_cases h1 : p < 0
  · simp only [h1, if_true, Option.map_none]
  · simp only [h1, if_false]
    by_cases h2 : I 1 1 ≤ p
    · simp only [h2, if_true, Option.map_none]
    · simp only [h2, if_false]
      by_cases h3 : (16 : Int32) ≤ p
      · have h3' : Int32.ofNat 16 ≤ p := h3
        simp only [h3, h3', if_true, Option.map_none]
      · have h3' : ¬ Int32.ofNat 16 ≤ p := h3
        simp only [h3, h3', if_false]
        obtain ⟨w, hw, rfl⟩ := nn_oN h1
        have hw16 : w < 16 := by
          have h4 : ¬ Int32.ofNat 16 ≤ Int32.ofNat w := h3
          rw [oN_le (by decide) hw] at h4
          omega
        simp (decide := true) only [aQ_s, LNs, iN_oN hw16 hw, oN_nn hw, Option.map_some, Option.bind_some]
        cases P 2 w <;> rfl
/-! cells above the static ones -/
theorem kdf_E {c : Nat} (h : 149 ≤ c) : kdf E c = E c := by
  unfold kdf
  rw [if_neg (by omega)]
theorem kdf_of {c : Nat} {k : KD} (h : 149 ≤ c) (hk : E c = some k) : kdf E c = some k := by rw [kdf_E h, hk]
theorem isO_d {c ci : Nat} (h : kdf E c = some (.inr (ci, true))) : isO ci (lay b F E I L P nx us) (ad b c) = true := isO_lay h
theorem gI_d {c ci k : Nat} (h : kdf E c = some (.inr (ci, true))) (hk : fk ci k = 0) : gI ci (lay b F E I L P nx us) (ad b c) k = some (I c k) := gI_lay h hk
theorem gA_d {c ci k : Nat} (h : kdf E c = some (.inr (ci, true))) (hk : fk ci k = 2) (hj : (cr ci c k).isSome = true) : gA ci (lay b F E I L P nx us) (ad b c) k = (cr ci c k).map (ad b) := by
  obtain ⟨j, hj⟩ := Option.isSome_iff_exists.mp hj
  rw [gA_cr h hk hj, hj]
  rfl
theorem pI_d {c ci k : Nat} {x : Int32} (h : kdf E c = some (.inr (ci, true))) (hk : fk ci k = 0) : pI ci (lay b F E I L P nx us) (ad b c) k x = some (lay b F E (u2 I c (upd (I c) k x)) L P nx us) := pI_lay h hk
theorem pZ_d {c ci k : Nat} {x : Int32} (h : kdf E c = some (.inr (ci, true))) (hk : fk ci k = 0) (hx : x = 0 ∨ x = 1) : pZ ci (lay b F E I L P nx us) (ad b c) k x = some (lay b F E (u2 I c (upd (I c) k x)) L P nx us) := pZ_lay h hk hx
theorem aN_d {c t n : Nat} (h : kdf E c = some (.inl (t, n))) : aN (lay b F E I L P nx us) (ad b c) = some (Int32.ofNat n) := aN_lay h
theorem aI_d {c t n : Nat} {i : Int32} (h : kdf E c = some (.inl (t, n))) (ht : t ≤ 3) : aI t (lay b F E I L P nx us) (ad b c) i = (iN i n).map (I c) := aI_lay h ht
theorem sI_d {c t n : Nat} {i x : Int32} (h : kdf E c = some (.inl (t, n))) (ht : t ≤ 3) : sI t (lay b F E I L P nx us) (ad b c) i x = (iN i n).map (fun j => lay b F E (u2 I c (upd (I c) j (aW t x))) L P nx us) := sI_lay h ht
end INF
/-! sums -/
def sm (f : Nat → Int32) : Nat → Nat → Int32
  | _, 0 => 0
  | i, m + 1 => f i + sm f (i + 1) m
theorem sm_congr {f g : Nat → Int32} : ∀ (m i : Nat), (∀ k, i ≤ k → k < i + m → f k = g k) → sm f i m = sm g i m := by
  intro m
  induction m with
  | zero => intro i h; rfl
  | succ m ih =>
    intro i h
    show f i + sm f (i + 1) m = g i + sm g (i + 1) m
    rw [h i (by omega) (by omega), ih (i + 1) (fun k h1 h2 => h k (by omega) (by omega))]
theorem sm_step (f : Nat → Int32) (a : Int32) (i m : Nat) : a + f i + sm f (i + 1) m = a + sm f i (m + 1) := by
  show a + f i + sm f (i + 1) m = a + (f i + sm f (i + 1) m)
  exact Int32.add_assoc _ _ _
theorem sm_zero (f : Nat → Int32) (a : Int32) (i : Nat) : a + sm f i 0 = a := Int32.add_zero a
theorem sm_0 (f : Nat → Int32) (i m : Nat) : 0 + sm f i m = sm f i m := Int32.zero_add _
/-- one loop as a sum: T n a k is the loop at place k with fuel n; at the end a comes out, else f k is added -/
theorem lp_sum {β : Type} {T : Nat → Int32 → Int32 → Option β} {R : Int32 → Option β} {f : Nat → Int32} {N : Nat} (hN : N < 2147483648) (h1 : ∀ n a, T (n + 1) a (Int32.ofNat N) = R a) (h2 : ∀ n a k, k < N → T (n + 1) a (Int32.ofNat k) = T n (a + f k) (Int32.ofNat (k + 1))) : ∀ (m i : Nat) (a : Int32) (n : Nat), i + m = N → m < n → T n a (Int32.ofNat i) = R (a + sm f i m) := by
  intro m
  induction m with
  | zero =>
    intro i a n hi hn
    obtain ⟨n, rfl⟩ : ∃ z, n = z + 1 := ⟨n - 1, by omega⟩
    have : i = N := by omega
    subst this
    rw [h1, sm_zero]
  | succ m ih =>
    intro i a n hi hn
    obtain ⟨n, rfl⟩ : ∃ z, n = z + 1 := ⟨n - 1, by omega⟩
    rw [h2 n a i (by omega), ih (i + 1) _ n (by omega) (by omega), sm_step]
theorem lp_sum0 {β : Type} {T : Nat → Int32 → Int32 → Option β} {R : Int32 → Option β} {f : Nat → Int32} {N : Nat} (hN : N < 4000000) (h1 : ∀ n a, T (n + 1) a (Int32.ofNat N) = R a) (h2 : ∀ n a k, k < N → T (n + 1) a (Int32.ofNat k) = T n (a + f k) (Int32.ofNat (k + 1))) : T FU 0 0 = R (sm f 0 N) := by
  have := lp_sum (by omega) h1 h2 N 0 0 FU (by omega) (by unfold FU; omega)
  rw [sm_0] at this
  exact this
