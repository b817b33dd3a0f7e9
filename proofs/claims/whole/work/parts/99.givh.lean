/-! ===== give: numbers ===== -/
def sN (f : Nat → Nat) : Nat → Nat → Nat
  | _, 0 => 0
  | i, m + 1 => f i + sN f (i + 1) m
theorem sm_N {g : Nat → Int32} {f : Nat → Nat} : ∀ (m i : Nat), (∀ k, i ≤ k → k < i + m → g k = Int32.ofNat (f k)) → sm g i m = Int32.ofNat (sN f i m) := by
  intro m
  induction m with
  | zero => intro i _; rfl
  | succ m ih =>
    intro i h
    show g i + sm g (i + 1) m = Int32.ofNat (f i + sN f (i + 1) m)
    rw [ih (i + 1) (fun k h1 h2 => h k (by omega) (by omega)), h i (by omega) (by omega), oN_add]
theorem sN_le {f : Nat → Nat} {c : Nat} : ∀ (m i : Nat), (∀ k, i ≤ k → k < i + m → f k ≤ c) → sN f i m ≤ c * m := by
  intro m
  induction m with
  | zero => intro i _; exact Nat.zero_le _
  | succ m ih =>
    intro i h
    show f i + sN f (i + 1) m ≤ c * (m + 1)
    have h1 := ih (i + 1) (fun k h1 h2 => h k (by omega) (by omega))
    have h2 := h i (by omega) (by omega)
    rw [Nat.mul_succ]
    omega
theorem sN_add {f g : Nat → Nat} : ∀ (m i : Nat), sN (fun k => f k + g k) i m = sN f i m + sN g i m := by
  intro m
  induction m with
  | zero => intro i; rfl
  | succ m ih =>
    intro i
    show f i + g i + sN (fun k => f k + g k) (i + 1) m = f i + sN f (i + 1) m + (g i + sN g (i + 1) m)
    rw [ih (i + 1)]
    omega
theorem sN_cg {f g : Nat → Nat} : ∀ (m i : Nat), (∀ k, i ≤ k → k < i + m → f k = g k) → sN f i m = sN g i m := by
  intro m
  induction m with
  | zero => intro i _; rfl
  | succ m ih =>
    intro i h
    show f i + sN f (i + 1) m = g i + sN g (i + 1) m
    rw [ih (i + 1) (fun k h1 h2 => h k (by omega) (by omega)), h i (by omega) (by omega)]
theorem sN_mono {f g : Nat → Nat} : ∀ (m i : Nat), (∀ k, i ≤ k → k < i + m → f k ≤ g k) → sN f i m ≤ sN g i m := by
  intro m
  induction m with
  | zero => intro i _; exact Nat.le_refl _
  | succ m ih =>
    intro i h
    show f i + sN f (i + 1) m ≤ g i + sN g (i + 1) m
    have h1 := ih (i + 1) (fun k h1 h2 => h k (by omega) (by omega))
    have h2 := h i (by omega) (by omega)
    omega
theorem sN_one {f g : Nat → Nat} {p : Nat} (hne : ∀ k, k ≠ p → f k = g k) : ∀ (m i : Nat), i ≤ p → p < i + m → sN f i m + g p = sN g i m + f p := by
  intro m
  induction m with
  | zero => intro i h1 h2; omega
  | succ m ih =>
    intro i h1 h2
    show f i + sN f (i + 1) m + g p = g i + sN g (i + 1) m + f p
    by_cases h : i = p
    · subst h
      rw [sN_cg m (i + 1) (fun k h1 h2 => hne k (by omega))]
      omega
    · have := ih (i + 1) (by omega) (by omega)
      rw [hne i h]
      omega
theorem sN_0 {f : Nat → Nat} : ∀ (m i : Nat), (∀ k, i ≤ k → k < i + m → f k = 0) → sN f i m = 0 := by
  intro m i h
  have := sN_le (c := 0) m i (fun k h1 h2 => Nat.le_of_eq (h k h1 h2))
  omega
/-- the works of painter p -/
def wkN (m124 : RW) (nk p : Nat) : Nat := sN (fun k => if m124 k = Int32.ofNat p then 1 else 0) 0 nk
theorem wk_sm {m124 : RW} {nk p : Nat} : sm (fun k => if m124 k = Int32.ofNat p then 1 else 0) 0 nk = Int32.ofNat (wkN m124 nk p) := by
  refine sm_N nk 0 ?_
  intro k _ _
  split <;> rfl
theorem one_p {x : Int32} {np : Nat} (h : np ≤ 10) : sN (fun p => if x = Int32.ofNat p then 1 else 0) 0 np ≤ 1 := by
  by_cases hx : ∃ p, p < np ∧ x = Int32.ofNat p
  · obtain ⟨p, hp, rfl⟩ := hx
    have e := sN_one (f := fun p' => if p' < 10 ∧ Int32.ofNat p = Int32.ofNat p' then 1 else 0) (g := fun _ => 0) (p := p) (fun k hk => by
      show (if k < 10 ∧ Int32.ofNat p = Int32.ofNat k then 1 else 0) = 0
      rw [if_neg]
      rintro ⟨h1, h2⟩
      exact hk ((oN_eq (by omega) (by omega)).mp h2).symm) np 0 (by omega) (by omega)
    rw [sN_0 (f := fun _ => 0) np 0 (fun k _ _ => rfl)] at e
    have e2 : sN (fun p' => if Int32.ofNat p = Int32.ofNat p' then 1 else 0) 0 np = sN (fun p' => if p' < 10 ∧ Int32.ofNat p = Int32.ofNat p' then 1 else 0) 0 np := sN_cg np 0 (fun k _ hk => by
      have hk' : k < 10 := by omega
      simp only [hk', true_and])
    rw [e2]
    have : (if p < 10 ∧ Int32.ofNat p = Int32.ofNat p then 1 else 0) ≤ 1 := by split <;> decide
    omega
  · rw [sN_0 np 0 (fun k _ hk => if_neg (fun q => hx ⟨k, by omega, q⟩))]
    exact Nat.zero_le _
theorem wk_all {m124 : RW} {np : Nat} (h : np ≤ 10) : ∀ (m i : Nat), sN (fun p => sN (fun k => if m124 k = Int32.ofNat p then 1 else 0) i m) 0 np ≤ m := by
  intro m
  induction m with
  | zero => intro i; exact Nat.le_of_eq (sN_0 np 0 (fun k _ _ => rfl))
  | succ m ih =>
    intro i
    have e : sN (fun p => sN (fun k => if m124 k = Int32.ofNat p then 1 else 0) i (m + 1)) 0 np = sN (fun p => (if m124 i = Int32.ofNat p then 1 else 0) + sN (fun k => if m124 k = Int32.ofNat p then 1 else 0) (i + 1) m) 0 np := rfl
    rw [e, sN_add]
    have h1 := one_p (x := m124 i) h
    have h2 := ih (i + 1)
    omega
/-- the works of the painters that are not used -/
def rmN (wN : Nat → Nat) (np u : Nat) : Nat := sN (fun p => if u.testBit p = true then 0 else wN p) 0 np
theorem rm_0 {m124 : RW} {nk np : Nat} (h : np ≤ 10) : rmN (wkN m124 nk) np 0 ≤ nk := by
  refine Nat.le_trans (sN_mono np 0 ?_) (wk_all (m124 := m124) h nk 0)
  intro k _ _
  split
  · exact Nat.zero_le _
  · exact Nat.le_refl _
theorem tb_or {u p k : Nat} : (u ||| 2 ^ p).testBit k = (u.testBit k || decide (p = k)) := by
  rw [Nat.testBit_or, Nat.testBit_two_pow]
theorem rm_s {wN : Nat → Nat} {np u p : Nat} (hp : p < np) (hb : u.testBit p = false) : rmN wN np (u ||| 2 ^ p) + wN p = rmN wN np u := by
  have h := sN_one (f := fun k => if (u ||| 2 ^ p).testBit k = true then 0 else wN k) (g := fun k => if u.testBit k = true then 0 else wN k) (p := p) (fun k hk => by
    have : decide (p = k) = false := decide_eq_false (fun q => hk q.symm)
    simp only [tb_or, this, Bool.or_false]) np 0 (by omega) (by omega)
  have e1 : (u ||| 2 ^ p).testBit p = true := by rw [tb_or]; simp
  simp only [e1, hb, if_true] at h
  unfold rmN
  simp at h ⊢
  omega
/-- what is liked, as a number -/
theorem lk_N {nv np nw p w : Nat} {x9 x10 x11 x12 m113 m114 m115 m116 m117 : RW} (hv : nv ≤ 300) (hp : p < 10) (hw : w < 16) (hW : GWis x9 m113) (hV : GVot nv np nw x10 x11 x12 m114 m115 m116 m117) : ∃ l, l ≤ 1590 ∧ lkS nv m113 m115 m116 m117 p w = Int32.ofNat l := by
  obtain ⟨-, w1, w2⟩ := hW (16 * p + w) (by omega)
  have e0 : ∀ (x : Int32) (c : Nat), c < 2147483648 → 0 ≤ x → x ≤ Int32.ofNat c → ∃ y, y ≤ c ∧ x = Int32.ofNat y := by
    intro x c hc h0 h1
    obtain ⟨y, hy, rfl⟩ := nn_oN (x := x) (Int32.not_lt.mpr h0)
    exact ⟨y, (oN_le hy (by omega)).mp h1, rfl⟩
  obtain ⟨a, ha, ea⟩ := e0 _ 9 (by decide) w1 w2
  have hf : ∀ k, ∃ y, y ≤ 5 ∧ (k < nv → (if m115 k = Int32.ofNat p ∧ m116 k = Int32.ofNat w then m117 k else 0) = Int32.ofNat y) := by
    intro k
    by_cases hk : k < nv
    · obtain ⟨-, -, -, -, -, -, -, -, -, -, -, v1, v2⟩ := hV.1 k hk
      obtain ⟨y, hy, ey⟩ := e0 _ 5 (by decide) v1 v2
      by_cases hc : m115 k = Int32.ofNat p ∧ m116 k = Int32.ofNat w
      · exact ⟨y, hy, fun _ => by rw [if_pos hc, ey]⟩
      · exact ⟨0, by omega, fun _ => by rw [if_neg hc]; rfl⟩
    · exact ⟨0, by omega, fun q => absurd q hk⟩
  obtain ⟨f, hf⟩ := Classical.axiomOfChoice hf
  refine ⟨10 * a + sN f 0 nv, ?_, ?_⟩
  · have := sN_le (f := f) (c := 5) nv 0 (fun k _ _ => (hf k).1)
    omega
  · unfold lkS
    rw [ea, sm_N (f := f) nv 0 (fun k _ hk => (hf k).2 (by omega)), show (10 : Int32) = Int32.ofNat 10 from rfl, oN_mul, oN_add]
