/-! ===== give: a hope is a bound ===== -/
theorem mxI_l (x y : Int32) : x ≤ mxI x y := by
  unfold mxI
  split
  · rename_i h
    first | exact Int32.le_of_lt h | exact Int32.le_refl _ | exact h
  · rename_i h
    first | exact Int32.le_refl _ | exact Int32.not_lt.mp h
theorem mxI_r (x y : Int32) : y ≤ mxI x y := by
  unfold mxI
  split
  · rename_i h
    first | exact Int32.le_refl _ | exact Int32.le_of_lt h | exact h
  · rename_i h
    first | exact Int32.not_lt.mp h | exact Int32.le_refl _
theorem hmF_ge {W : RW} {H : Nat → Int32} {u : Nat} : ∀ (m i : Nat) (acc : Int32), acc ≤ hmF W H u m i acc := by
  intro m
  induction m with
  | zero => intro i acc; exact Int32.le_refl _
  | succ m ih =>
    intro i acc
    unfold hmF
    refine Int32.le_trans ?_ (ih (i + 1) _)
    split
    · exact mxI_l _ _
    · exact Int32.le_refl _
theorem hmF_at {W : RW} {H : Nat → Int32} {u : Nat} : ∀ (m i : Nat) (acc : Int32) (p : Nat), i ≤ p → p < i + m → u.testBit p = false → ¬ W p ≤ 0 → W p + H (u ||| 2 ^ p) ≤ hmF W H u m i acc := by
  intro m
  induction m with
  | zero => intro i acc p h1 h2; omega
  | succ m ih =>
    intro i acc p h1 h2 h3 h4
    unfold hmF
    by_cases h : p = i
    · subst h
      refine Int32.le_trans ?_ (hmF_ge m (p + 1) _)
      rw [if_pos ⟨h3, h4⟩]
      exact mxI_r _ _
    · exact ih (i + 1) _ p (by omega) (by omega) h3 h4
