/-! ===== frames; the first calls ===== -/
def dyn {α : Type} (f : Nat → α) : Nat → α := fun q => f (149 + q)
theorem u2_dyn {α : Type} {I : Nat → α} {c q : Nat} {f : α} (h : c < 149) : u2 I c f (149 + q) = I (149 + q) := u2_ne (by omega)
theorem dyn_u2 {α : Type} {I : Nat → α} {c : Nat} {f : α} (h : c < 149) : dyn (u2 I c f) = dyn I := by funext q; exact u2_dyn h
/-- only the slots T and the rows R are touched (of the static cells; dynamic rows are untouched) -/
def Fr (I J : Nat → Nat → Int32) (T : List (Nat × Nat)) (R : List Nat) : Prop := ∀ c k, T.contains (c, k) = false → R.contains c = false → J c k = I c k
theorem Fr.row {I J : Nat → Nat → Int32} {T : List (Nat × Nat)} {R : List Nat} (h : Fr I J T R) {c : Nat} (h1 : T.all (fun q => q.1 != c) = true) (h2 : R.contains c = false) : J c = I c := by
  funext k
  refine h c k ?_ h2
  rw [List.contains_eq_any_beq, List.any_eq_false]
  intro q hq hz
  have := List.all_eq_true.mp h1 q hq
  simp at hz this
  exact this (by rw [← hz])
theorem Fr.refl (I : Nat → Nat → Int32) (T : List (Nat × Nat)) (R : List Nat) : Fr I I T R := fun _ _ _ _ => rfl
theorem Fr.slot {I J : Nat → Nat → Int32} {T : List (Nat × Nat)} {R : List Nat} {g : Nat → Int32} {c : Nat} (h : Fr I J T R) (hg : ∀ k, T.contains (c, k) = false → g k = J c k) : Fr I (u2 J c g) T R := by
  intro c' k h1 h2
  by_cases hc : c' = c
  · subst hc; rw [u2_same, hg k h1]; exact h c' k h1 h2
  · rw [u2_ne hc]; exact h c' k h1 h2
theorem Fr.whole {I J : Nat → Nat → Int32} {T : List (Nat × Nat)} {R : List Nat} {g : Nat → Int32} {c : Nat} (h : Fr I J T R) (hc : R.contains c = true) : Fr I (u2 J c g) T R := by
  intro c' k h1 h2
  by_cases hc' : c' = c
  · subst hc'; rw [hc] at h2; cases h2
  · rw [u2_ne hc']; exact h c' k h1 h2
theorem upd_fr {T : List (Nat × Nat)} {c j k : Nat} {r : Nat → Int32} {x : Int32} (hj : T.contains (c, j) = true) (h1 : T.contains (c, k) = false) : upd r j x k = r k := by
  refine upd_ne ?_
  intro hk; subst hk; rw [hj] at h1; cases h1
/-- trouble, fault, place of the class; trouble, where, fault of the reference -/
def GT (t f p t' w' f' : Int32) : Prop := t = t' ∧ f = f' ∧ w' = (if t' = 4 then p else -1)
theorem GT_end {t f p t' w' f' x : Int32} (h : GT t f p t' w' f') (hx : x ≠ 4) : GT x f p x (-1) f' := ⟨rfl, h.2.1, by rw [if_neg hx]⟩
/-- the same answer on both sides, from I by I1 to I2 -/
def Run (b : Nat) (F : Nat → Option AE) (E : Nat → Option KD) (L : Nat → Nat → Int64) (P : Nat → Nat → Option Nat) (nx us : Nat) (fX fM : AH → Option (Int32 × AH)) (I I2 : Nat → Nat → Int32) : Prop :=
  ∃ v I1, fX (lay b F E I L P nx us) = some (v, lay b F E I1 L P nx us) ∧ fM (lay b F E I1 L P nx us) = some (v, lay b F E I2 L P nx us)
section C1
variable {b : Nat} {F : Nat → Option AE} {D E : Nat → Option KD} {I : Nat → Nat → Int32} {L : Nat → Nat → Int64} {P : Nat → Nat → Option Nat} {nx us : Nat}
abbrev GTI (I : Nat → Nat → Int32) : Prop := GT (I 0 16) (I 0 17) (I 0 18) (I 72 1) (I 72 2) (I 72 3)
theorem call_trouble (hT : GTI I) : ∃ I2, Run b F E L P nx us (f_X11_trouble (ad b 0)) (f_X15_trouble (ad b 72)) I I2 ∧ GTI I2 ∧ Fr I I2 [(72, 0)] [] := by
  apply Exists.intro
  refine ⟨?_, ?_, ?_⟩
  · apply Exists.intro; apply Exists.intro
    refine ⟨?_, ?_⟩
    · simp (decide := true) only [f_X11_trouble, isO_s, gI_s, if_true, Option.bind_some]
      exact rfl
    · simp (decide := true) only [f_X15_trouble, isO_s, gI_s, pI_s, if_true, Option.bind_some, u2_same, upd_ne, ← hT.1]
      exact rfl
  · simp (decide := true) only [GTI, u2_same, u2_ne, upd_same, upd_ne, mE]
    exact hT
  · exact (Fr.refl _ _ _).slot fun k hk => upd_fr (by decide) hk
theorem call_lifts (x : Int32) (hT : GTI I) (hL : I 13 13 = I 72 78 ∧ 1 ≤ I 72 78 ∧ I 72 78 ≤ 5) : ∃ I2, Run b F E L P nx us (f_X11_lifts (ad b 0) x) (f_X15_lifts (ad b 72) x) I I2 ∧ GTI I2 ∧ (I2 13 13 = I2 72 78 ∧ 1 ≤ I2 72 78 ∧ I2 72 78 ≤ 5) ∧ Fr I I2 [(0, 16), (13, 13), (72, 0), (72, 1), (72, 2), (72, 78)] [] := by
  by_cases hx : x < 1 ∨ 5 < x
  · apply Exists.intro
    refine ⟨?_, ?_, ?_, ?_⟩
    · apply Exists.intro; apply Exists.intro
      refine ⟨?_, ?_⟩
      · simp (decide := true) only [f_X11_lifts, isO_s, if_true, X_within, b2, inR_z, hx, X_deny, ckZ, Option.bind_some]
        exact rfl
      · simp (decide := true) only [f_X15_lifts, isO_s, if_true, M_in, b2, inR_z, hx, M_denied, ckZ, Option.bind_some, pI_s, u2_u2, u2_same]
        exact rfl
    · simp (decide := true) only [GTI, u2_same, u2_ne, upd_same, upd_ne, mE]
      exact GT_end hT (by decide)
    · simp (decide := true) only [u2_same, u2_ne, upd_same, upd_ne, mE]
      exact hL
    · exact ((Fr.refl _ _ _).slot fun k hk => upd_fr (by decide) hk).slot fun k hk => by simp only [mE]; rw [upd_fr (by decide) hk, upd_fr (by decide) hk, upd_fr (by decide) hk]
  · apply Exists.intro
    refine ⟨?_, ?_, ?_, ?_⟩
    · apply Exists.intro; apply Exists.intro
      refine ⟨?_, ?_⟩
      · simp (decide := true) only [f_X11_lifts, isO_s, if_true, X_within, b2, inR_z, hx, X_grant, ckZ, Option.bind_some, gA_s, cr, Option.map_some, pI_s, if_false]
        exact rfl
      · simp (decide := true) only [f_X15_lifts, isO_s, if_true, M_in, b2, inR_z, hx, M_granted, ckZ, Option.bind_some, pI_s, if_false, u2_u2, u2_same]
        exact rfl
    · simp (decide := true) only [GTI, u2_same, u2_ne, upd_same, upd_ne, mE]
      exact GT_end hT (by decide)
    · simp (decide := true) only [u2_same, u2_ne, upd_same, upd_ne, mE]
      exact ⟨trivial, Int32.not_lt.mp fun q => hx (Or.inl q), Int32.not_lt.mp fun q => hx (Or.inr q)⟩
    · refine (((Fr.refl _ _ _).slot fun k hk => ?_).slot fun k hk => ?_).slot fun k hk => ?_
      · exact upd_fr (by decide) hk
      · simp (decide := true) only [u2_ne]; exact upd_fr (by decide) hk
      · simp only [mE]; rw [upd_fr (by decide) hk, upd_fr (by decide) hk, upd_fr (by decide) hk, upd_fr (by decide) hk]
end C1
