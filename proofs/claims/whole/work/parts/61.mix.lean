/-! ===== both sides at once: the class's cells and the reference's ===== -/
/-- the class's cells of K, else J -/
def mX (J K : Nat → Nat → Int32) : Nat → Nat → Int32 := fun c => if 72 ≤ c ∧ c < 148 then J c else K c
/-- the reference's cells of K, else J -/
def mM (J K : Nat → Nat → Int32) : Nat → Nat → Int32 := fun c => if 72 ≤ c ∧ c < 148 then K c else J c
section MIX
variable {J I : Nat → Nat → Int32} {c a j : Nat} {f : RW}
theorem mX_r (h : ¬ (72 ≤ c ∧ c < 148)) : mX J I c = I c := if_neg h
theorem mX_rD : mX J I (149 + a) = I (149 + a) := if_neg (by omega)
theorem mX_rDj : mX J I (149 + a + j) = I (149 + a + j) := if_neg (by omega)
theorem mM_r (h : 72 ≤ c ∧ c < 148) : mM J I c = I c := if_pos h
theorem mX_u (h : ¬ (72 ≤ c ∧ c < 148)) : mX J (u2 I c f) = u2 (mX J I) c f := by
  funext q
  unfold mX u2
  by_cases h1 : q = c
  · subst h1; simp [h]
  · simp [h1]
theorem mX_uM (h : 72 ≤ c ∧ c < 148) : mX J (u2 I c f) = mX J I := by
  funext q
  unfold mX u2
  by_cases h1 : q = c
  · subst h1; simp [h]
  · simp [h1]
theorem mX_uD : mX J (u2 I (149 + a) f) = u2 (mX J I) (149 + a) f := mX_u (by omega)
theorem mX_uDj : mX J (u2 I (149 + a + j) f) = u2 (mX J I) (149 + a + j) f := mX_u (by omega)
theorem mM_u (h : 72 ≤ c ∧ c < 148) : mM J (u2 I c f) = u2 (mM J I) c f := by
  funext q
  unfold mM u2
  by_cases h1 : q = c
  · subst h1; simp [h]
  · simp [h1]
theorem mM_uX (h : ¬ (72 ≤ c ∧ c < 148)) : mM J (u2 I c f) = mM J I := by
  funext q
  unfold mM u2
  by_cases h1 : q = c
  · subst h1; simp [h]
  · simp [h1]
theorem mM_uD : mM J (u2 I (149 + a) f) = mM J I := mM_uX (by omega)
theorem mM_uDj : mM J (u2 I (149 + a + j) f) = mM J I := mM_uX (by omega)
theorem mX_id : mX I I = I := by funext q; unfold mX; split <;> rfl
theorem mM_id : mM I I = I := by funext q; unfold mM; split <;> rfl
theorem mM_mX {K : Nat → Nat → Int32} : mM (mX I K) K = K := by
  funext q
  unfold mM mX
  split <;> rfl
theorem mM_over {K : Nat → Nat → Int32} : mM (mX I K) I = mX I K := by
  funext q
  unfold mM mX
  split <;> rfl
end MIX
