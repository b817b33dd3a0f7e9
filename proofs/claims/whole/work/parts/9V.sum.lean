/-! ===== drawing: what a sum says ===== -/
def varV (t : RW) (n i : Nat) : Int32 := if kd t n (pl t n i) = 2 then (if vl t n (pl t n i) = 9 then 0 else if vl t n (pl t n i) = 10 then 1 else if vl t n (pl t n i) = 11 then 2 else if vl t n (pl t n i) = 13 then 3 else if vl t n (pl t n i) = 14 then 4 else -1) else -1
/-- a word that stands for a step, or from, to -/
def kptB (t : RW) (n i : Nat) : Prop := isW t n i 1 ∨ isW t n i 2 ∨ isW t n i 3 ∨ isW t n i 4 ∨ isW t n i 5 ∨ isW t n i 9 ∨ isW t n i 10
def ptE (t : RW) (n i : Nat) : Int32 := if kd t n (pl t n i) = 3 then 0 else if kd t n (pl t n i) = 2 then (if varV t n i ≠ -1 ∨ isW t n i 7 ∨ isW t n i 8 then 0 else if (isW t n i 1 ∨ isW t n i 2 ∨ isW t n i 3 ∨ isW t n i 4 ∨ isW t n i 5 ∨ isW t n i 9 ∨ isW t n i 10) then 1 else 2) else 1
def ptS (t : RW) (n i : Nat) : Int32 := if kd t n (pl t n i) = 3 then 0 else if varV t n i ≠ -1 then 1 else if isW t n i 7 then 2 else 3
def ptV (t : RW) (n i : Nat) : Int32 := if kd t n (pl t n i) = 3 then num t n i else varV t n i
/-- parts, items, the items' signs and values -/
abbrev SSt : Type := Nat × Nat × RW × RW
abbrev SOut : Type := (Int32 × Nat) ⊕ (Nat × SSt)
def sPut (s : SSt) (x v : Int32) : SSt := (s.1, s.2.1 + 1, upd s.2.2.1 s.2.1 x, upd s.2.2.2 s.2.1 v)
def sPrt (s : SSt) (x v : Int32) : SSt := (s.1 + 1, s.2.1 + 1, upd s.2.2.1 s.2.1 x, upd s.2.2.2 s.2.1 v)
def andThen (o : SOut) (k : Nat → SSt → SOut) : SOut := match o with
  | .inl e => .inl e
  | .inr (i, s) => k i s
/-- 0 terms, 1 more terms, 2 a term, 3 more parts, 4 a part -/
def pS (t : RW) (n : Nat) : Nat → Nat → Nat → Nat → SSt → SOut
  | 0, _, i, _, _ => .inl (0, i)
  | f + 1, 0, i, br, s => andThen (pS t n f 2 i br s) fun i1 s1 => pS t n f 1 i1 br s1
  | f + 1, 1, i, br, s => if isC t n i 43 ∨ isC t n i 45 then andThen (pS t n f 2 (i + 1) br s) (fun i1 s1 => pS t n f 1 i1 br (sPut s1 (if isC t n i 43 then 4 else 5) 0)) else .inr (i, s)
  | f + 1, 2, i, br, s => andThen (pS t n f 4 i br s) fun i1 s1 => pS t n f 3 i1 br s1
  | f + 1, 3, i, br, s => if isC t n i 42 ∨ isC t n i 47 then andThen (pS t n f 4 (i + 1) br s) (fun i1 s1 => pS t n f 3 i1 br (sPut s1 (if isC t n i 42 then 6 else 7) 0)) else .inr (i, s)
  | f + 1, _ + 4, i, br, s => if isC t n i 40 then (if br = 6 then .inl (4, i) else andThen (pS t n f 0 (i + 1) (br + 1) s) (fun i1 s1 => if isC t n i1 41 then .inr (i1 + 1, s1) else .inl (1, i1))) else if ptE t n i ≠ 0 then .inl (ptE t n i, i) else if s.1 = 120 then .inl (4, i) else .inr (i + 1, sPrt s (ptS t n i) (ptV t n i))
/-- the first token that is none -/
def LA (t : RW) (n la : Nat) : Prop := (∀ j, j < la → kd t n (pl t n j) ≠ 0 ∧ kd t n (pl t n j) ≠ 1) ∧ (kd t n (pl t n la) = 0 ∨ kd t n (pl t n la) = 1)
theorem LA_lt {t : RW} {n la i : Nat} (h : LA t n la) (hi : i ≤ la) (h0 : kd t n (pl t n i) ≠ 0) (h1 : kd t n (pl t n i) ≠ 1) : i < la := by
  rcases Nat.lt_or_ge i la with h2 | h2
  · exact h2
  · have : i = la := by omega
    subst this
    rcases h.2 with h3 | h3 <;> omega
theorem isC_lt {t : RW} {n la i : Nat} {c : Int32} (h : LA t n la) (hi : i ≤ la) (hc : isC t n i c) : i < la := LA_lt h hi (by rw [hc.1]; decide) (by rw [hc.1]; decide)
theorem ptE_kd {t : RW} {n i : Nat} (h : ptE t n i = 0) : kd t n (pl t n i) = 2 ∨ kd t n (pl t n i) = 3 := by
  unfold ptE at h
  split at h
  · rename_i h1; exact Or.inr h1
  · split at h
    · rename_i h1; exact Or.inl h1
    · exact absurd h (by decide)
theorem and_inr {o : SOut} {k : Nat → SSt → SOut} {r : Nat × SSt} (h : andThen o k = .inr r) : ∃ i s, o = .inr (i, s) ∧ k i s = .inr r := by
  unfold andThen at h
  split at h
  · cases h
  · rename_i i s
    exact ⟨i, s, rfl, h⟩
theorem pS_b {t : RW} {n la : Nat} (hLA : LA t n la) : ∀ (f m i br : Nat) (s : SSt) (i1 : Nat) (s1 : SSt), i ≤ la → s.1 ≤ 120 → pS t n f m i br s = .inr (i1, s1) → i1 ≤ la ∧ i ≤ i1 ∧ s1.1 ≤ 120 ∧ s.1 ≤ s1.1 ∧ s.2.1 ≤ s1.2.1 ∧ s1.2.1 + 2 * s.1 ≤ s.2.1 + 2 * s1.1 ∧ ((m = 0 ∨ m = 2 ∨ 4 ≤ m) → i < i1 ∧ s1.2.1 + 2 * s.1 + 1 ≤ s.2.1 + 2 * s1.1) := by
  intro f
  induction f with
  | zero => intro m i br s i1 s1 _ _ h; cases h
  | succ f ih =>
    intro m i br s i1 s1 hi hp h
    match m with
    | 0 =>
      obtain ⟨i2, s2, h1, h2⟩ := and_inr h
      have a1 := ih 2 i br s i2 s2 hi hp h1
      have a2 := ih 1 i2 br s2 i1 s1 a1.1 a1.2.2.1 h2
      have a3 := a1.2.2.2.2.2.2 (Or.inr (Or.inl rfl))
      refine ⟨by omega, by omega, by omega, by omega, by omega, by omega, fun _ => by omega⟩
    | 1 =>
      simp only [pS] at h
      split at h
      · rename_i hc
        obtain ⟨i2, s2, h1, h2⟩ := and_inr h
        have hil : i < la := by
          rcases hc with hc | hc
          · exact isC_lt hLA hi hc
          · exact isC_lt hLA hi hc
        have a1 := ih 2 (i + 1) br s i2 s2 (by omega) hp h1
        have a2 := ih 1 i2 br (sPut s2 (if isC t n i 43 then 4 else 5) 0) i1 s1 a1.1 a1.2.2.1 h2
        have a3 := a1.2.2.2.2.2.2 (Or.inr (Or.inl rfl))
        have e1 : (sPut s2 (if isC t n i 43 then 4 else 5) 0).1 = s2.1 := rfl
        have e2 : (sPut s2 (if isC t n i 43 then 4 else 5) 0).2.1 = s2.2.1 + 1 := rfl
        rw [e1, e2] at a2
        refine ⟨by omega, by omega, by omega, by omega, by omega, by omega, fun q => by omega⟩
      · cases h
        exact ⟨hi, Nat.le_refl _, hp, Nat.le_refl _, Nat.le_refl _, Nat.le_refl _, fun q => by omega⟩
    | 2 =>
      obtain ⟨i2, s2, h1, h2⟩ := and_inr h
      have a1 := ih 4 i br s i2 s2 hi hp h1
      have a2 := ih 3 i2 br s2 i1 s1 a1.1 a1.2.2.1 h2
      have a3 := a1.2.2.2.2.2.2 (Or.inr (Or.inr (Nat.le_refl _)))
      refine ⟨by omega, by omega, by omega, by omega, by omega, by omega, fun _ => by omega⟩
    | 3 =>
      simp only [pS] at h
      split at h
      · rename_i hc
        obtain ⟨i2, s2, h1, h2⟩ := and_inr h
        have hil : i < la := by
          rcases hc with hc | hc
          · exact isC_lt hLA hi hc
          · exact isC_lt hLA hi hc
        have a1 := ih 4 (i + 1) br s i2 s2 (by omega) hp h1
        have a2 := ih 3 i2 br (sPut s2 (if isC t n i 42 then 6 else 7) 0) i1 s1 a1.1 a1.2.2.1 h2
        have a3 := a1.2.2.2.2.2.2 (Or.inr (Or.inr (Nat.le_refl _)))
        have e1 : (sPut s2 (if isC t n i 42 then 6 else 7) 0).1 = s2.1 := rfl
        have e2 : (sPut s2 (if isC t n i 42 then 6 else 7) 0).2.1 = s2.2.1 + 1 := rfl
        rw [e1, e2] at a2
        refine ⟨by omega, by omega, by omega, by omega, by omega, by omega, fun q => by omega⟩
      · cases h
        exact ⟨hi, Nat.le_refl _, hp, Nat.le_refl _, Nat.le_refl _, Nat.le_refl _, fun q => by omega⟩
    | m + 4 =>
      simp only [pS] at h
      split at h
      · rename_i hc
        have hil := isC_lt hLA hi hc
        split at h
        · cases h
        · obtain ⟨i2, s2, h1, h2⟩ := and_inr h
          have a1 := ih 0 (i + 1) (br + 1) s i2 s2 (by omega) hp h1
          have a3 := a1.2.2.2.2.2.2 (Or.inl rfl)
          split at h2
          · rename_i hc2
            have := isC_lt hLA a1.1 hc2
            cases h2
            refine ⟨by omega, by omega, by omega, by omega, by omega, by omega, fun _ => by omega⟩
          · cases h2
      · split at h
        · cases h
        · rename_i hE
          have hE' : ptE t n i = 0 := Classical.byContradiction hE
          have hil : i < la := LA_lt hLA hi (by rcases ptE_kd hE' with q | q <;> omega) (by rcases ptE_kd hE' with q | q <;> omega)
          split at h
          · cases h
          · rename_i hp2
            cases h
            have e1 : (sPrt s (ptS t n i) (ptV t n i)).1 = s.1 + 1 := rfl
            have e2 : (sPrt s (ptS t n i) (ptV t n i)).2.1 = s.2.1 + 1 := rfl
            rw [e1, e2]
            refine ⟨by omega, by omega, by omega, by omega, by omega, by omega, fun _ => by omega⟩
