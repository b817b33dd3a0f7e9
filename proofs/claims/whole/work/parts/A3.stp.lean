/-! ===== drawing: what steps say ===== -/
/-- steps, parts, items, the reference's rows (1 kind 2 tint 3 var 4 how 5 end 6 length 7 from 8 to 9 sign 10 value), words -/
abbrev DSt : Type := Nat × Nat × Nat × (Nat → RW) × (Nat → Int64)
abbrev DOut : Type := (Int32 × Nat) ⊕ (Nat × DSt)
def dThen (o : DOut) (k : Nat → DSt → DOut) : DOut := match o with
  | .inl e => .inl e
  | .inr (i, D) => k i D
def dR (D : DSt) (j k : Nat) (x : Int32) : DSt := (D.1, D.2.1, D.2.2.1, u2 D.2.2.2.1 j (upd (D.2.2.2.1 j) k x), D.2.2.2.2)
def dW (D : DSt) (k : Nat) (x : Int64) : DSt := (D.1, D.2.1, D.2.2.1, D.2.2.2.1, vp_updL D.2.2.2.2 k x)
/-- a sum's items taken over -/
def dIt (D : DSt) (s : SSt) : DSt := (D.1, s.1, s.2.1, u2 (u2 D.2.2.2.1 9 s.2.2.1) 10 s.2.2.2, D.2.2.2.2)
def dSs (D : DSt) : SSt := (D.2.1, D.2.2.1, D.2.2.2.1 9, D.2.2.2.1 10)
def dSum (t : RW) (n i s k : Nat) (D : DSt) : DOut := match pS t n 5000 0 i 0 (dSs D) with
  | .inl e => .inl e
  | .inr (i1, s1) => .inr (i1, dR (dIt (dR D 7 (4 * s + k) (Int32.ofNat D.2.2.1)) s1) 8 (4 * s + k) (Int32.ofNat s1.2.1))
def dTint (t : RW) (n i s : Nat) (D : DSt) : DOut := if kd t n (pl t n i) ≠ 3 then .inl (1, i) else if ¬ num t n i < 8 then .inl (3, i) else .inr (i + 1, dR D 2 s (num t n i))
def dWrd (t : RW) (n i s : Nat) (D : DSt) : DOut := if kd t n (pl t n i) ≠ 2 then .inl (1, i) else .inr (i + 1, dR (dW D s (vl t n (pl t n i))) 6 s (Int32.ofNat (en t n (pl t n i) - pl t n i)))
def dVar (t : RW) (n i s : Nat) (D : DSt) : DOut := if varV t n i = -1 then .inl (1, i) else .inr (i + 1, dR D 3 s (varV t n i))
def dNeed (t : RW) (n i k : Nat) (D : DSt) : DOut := if isW t n i k then .inr (i + 1, D) else .inl (1, i)
def dHow (t : RW) (n i s : Nat) (D : DSt) : DOut := if isC t n i 60 then .inr (i + 1, dR D 4 s 0) else if isC t n i 61 then .inr (i + 1, dR D 4 s 1) else if isC t n i 62 then .inr (i + 1, dR D 4 s 2) else .inl (1, i)
/-- the reference's number of a kind -/
def mk (w : Int32) : Int32 := if w = 6 then 0 else if w = 7 then 1 else if w = 8 then 2 else if w = 9 then 3 else 4
/-- a step up to its end, or to the bracket of its body -/
def dHd (t : RW) (n i s : Nat) (w : Int32) (D : DSt) : DOut :=
  if w = 6 then dThen (dTint t n i s D) fun i D => dThen (dSum t n i s 0 D) fun i D => dThen (dSum t n i s 1 D) fun i D => dThen (dSum t n i s 2 D) fun i D => dSum t n i s 3 D
  else if w = 7 then dThen (dTint t n i s D) fun i D => dThen (dSum t n i s 0 D) fun i D => dThen (dSum t n i s 1 D) fun i D => dSum t n i s 2 D
  else if w = 8 then dThen (dTint t n i s D) fun i D => dThen (dWrd t n i s D) fun i D => dThen (dSum t n i s 0 D) fun i D => dSum t n i s 1 D
  else if w = 9 then dThen (dVar t n i s D) fun i D => dThen (dNeed t n i 9 D) fun i D => dThen (dSum t n i s 0 D) fun i D => dThen (dNeed t n i 10 D) fun i D => dSum t n i s 1 D
  else dThen (dSum t n i s 0 D) fun i D => dThen (dHow t n i s D) fun i D => dSum t n i s 1 D
/-- a step begun -/
def dBeg (D : DSt) (w : Int32) : DSt := dR (D.1 + 1, D.2) 1 D.1 (mk w)
def dEnd (D : DSt) (s : Nat) : DSt := dR D 5 s (Int32.ofNat D.1)
/-- 0 a text, 1 a step -/
def dS (t : RW) (n : Nat) : Nat → Nat → Nat → Nat → DSt → DOut
  | 0, _, i, _, _ => .inl (0, i)
  | f + 1, 0, i, bl, D => dThen (dS t n f 1 i bl D) fun i D => if isC t n i 59 then dS t n f 0 (i + 1) bl D else .inr (i, D)
  | f + 1, _ + 1, i, bl, D => if kd t n (pl t n i) ≠ 2 then .inl (1, i) else if skV t n i = -1 then .inl (2, i) else if D.1 = 40 then .inl (4, i) else dThen (dHd t n (i + 1) D.1 (skV t n i) (dBeg D (skV t n i))) fun i1 D1 => if skV t n i = 9 ∨ skV t n i = 11 then (if ¬ isC t n i1 91 then .inl (1, i1) else if bl = 6 then .inl (4, i1) else dThen (dS t n f 0 (i1 + 1) (bl + 1) D1) fun i2 D2 => if isC t n i2 93 then .inr (i2 + 1, dEnd D2 D.1) else .inl (1, i2)) else .inr (i1, dEnd D1 D.1)
theorem dt_inr {o : DOut} {k : Nat → DSt → DOut} {r : Nat × DSt} (h : dThen o k = .inr r) : ∃ i D, o = .inr (i, D) ∧ k i D = .inr r := by
  unfold dThen at h
  split at h
  · cases h
  · rename_i i D
    exact ⟨i, D, rfl, h⟩
/-- counts stay in bounds, tokens go on -/
def DB (la i : Nat) (D : DSt) : Prop := i ≤ la ∧ D.1 ≤ 40 ∧ D.2.1 ≤ 120 ∧ D.2.2.1 ≤ 2 * D.2.1
theorem dSum_b {t : RW} {n la i s k i1 : Nat} {D D1 : DSt} (hLA : LA t n la) (h : DB la i D) (hs : dSum t n i s k D = .inr (i1, D1)) : DB la i1 D1 ∧ i < i1 ∧ D1.1 = D.1 := by
  unfold dSum at hs
  split at hs
  · cases hs
  · rename_i i2 s2 hp
    cases hs
    have hb := pS_b hLA 5000 0 i 0 (dSs D) i1 s2 h.1 h.2.2.1 hp
    have hb2 := hb.2.2.2.2.2.2 (Or.inl rfl)
    have e1 : (dSs D).1 = D.2.1 := rfl
    have e2 : (dSs D).2.1 = D.2.2.1 := rfl
    rw [e1, e2] at hb hb2
    obtain ⟨h1, h2, h3, h4⟩ := h
    exact ⟨⟨hb.1, h2, hb.2.2.1, show s2.2.1 ≤ 2 * s2.1 by omega⟩, hb2.1, rfl⟩
theorem dTint_b {t : RW} {n la i s i1 : Nat} {D D1 : DSt} (hLA : LA t n la) (h : DB la i D) (hs : dTint t n i s D = .inr (i1, D1)) : DB la i1 D1 ∧ i < i1 ∧ D1.1 = D.1 := by
  unfold dTint at hs
  split at hs
  · cases hs
  · rename_i hk
    have hk' := Classical.not_not.mp hk
    split at hs
    · cases hs
    · cases hs
      exact ⟨⟨LA_lt hLA h.1 (by omega) (by omega), h.2⟩, by omega, rfl⟩
theorem dWrd_b {t : RW} {n la i s i1 : Nat} {D D1 : DSt} (hLA : LA t n la) (h : DB la i D) (hs : dWrd t n i s D = .inr (i1, D1)) : DB la i1 D1 ∧ i < i1 ∧ D1.1 = D.1 := by
  unfold dWrd at hs
  split at hs
  · cases hs
  · rename_i hk
    have hk' := Classical.not_not.mp hk
    cases hs
    exact ⟨⟨LA_lt hLA h.1 (by omega) (by omega), h.2⟩, by omega, rfl⟩
theorem dVar_b {t : RW} {n la i s i1 : Nat} {D D1 : DSt} (hLA : LA t n la) (h : DB la i D) (hs : dVar t n i s D = .inr (i1, D1)) : DB la i1 D1 ∧ i < i1 ∧ D1.1 = D.1 := by
  unfold dVar at hs
  split at hs
  · cases hs
  · rename_i hk
    have hk' := varV_2 hk
    cases hs
    exact ⟨⟨LA_lt hLA h.1 (by omega) (by omega), h.2⟩, by omega, rfl⟩
theorem dNeed_b {t : RW} {n la i k i1 : Nat} {D D1 : DSt} (hLA : LA t n la) (h : DB la i D) (hs : dNeed t n i k D = .inr (i1, D1)) : DB la i1 D1 ∧ i < i1 ∧ D1 = D := by
  unfold dNeed at hs
  split at hs
  · rename_i hk
    have hk' := hk.1
    cases hs
    exact ⟨⟨LA_lt hLA h.1 (by omega) (by omega), h.2⟩, by omega, rfl⟩
  · cases hs
theorem dHow_b {t : RW} {n la i s i1 : Nat} {D D1 : DSt} (hLA : LA t n la) (h : DB la i D) (hs : dHow t n i s D = .inr (i1, D1)) : DB la i1 D1 ∧ i < i1 ∧ D1.1 = D.1 := by
  unfold dHow at hs
  split at hs
  · rename_i hk
    cases hs
    exact ⟨⟨isC_lt hLA h.1 hk, h.2⟩, by omega, rfl⟩
  · split at hs
    · rename_i hk
      cases hs
      exact ⟨⟨isC_lt hLA h.1 hk, h.2⟩, by omega, rfl⟩
    · split at hs
      · rename_i hk
        cases hs
        exact ⟨⟨isC_lt hLA h.1 hk, h.2⟩, by omega, rfl⟩
      · cases hs
theorem dHd_b {t : RW} {n la i s i1 : Nat} {w : Int32} {D D1 : DSt} (hLA : LA t n la) (h : DB la i D) (hs : dHd t n i s w D = .inr (i1, D1)) : DB la i1 D1 ∧ i < i1 ∧ D1.1 = D.1 := by
  unfold dHd at hs
  split at hs
  · obtain ⟨j1, C1, q1, hs⟩ := dt_inr hs
    obtain ⟨j2, C2, q2, hs⟩ := dt_inr hs
    obtain ⟨j3, C3, q3, hs⟩ := dt_inr hs
    obtain ⟨j4, C4, q4, hs⟩ := dt_inr hs
    have a1 := dTint_b hLA h q1
    have a2 := dSum_b hLA a1.1 q2
    have a3 := dSum_b hLA a2.1 q3
    have a4 := dSum_b hLA a3.1 q4
    have a5 := dSum_b hLA a4.1 hs
    exact ⟨a5.1, by omega, by omega⟩
  · split at hs
    · obtain ⟨j1, C1, q1, hs⟩ := dt_inr hs
      obtain ⟨j2, C2, q2, hs⟩ := dt_inr hs
      obtain ⟨j3, C3, q3, hs⟩ := dt_inr hs
      have a1 := dTint_b hLA h q1
      have a2 := dSum_b hLA a1.1 q2
      have a3 := dSum_b hLA a2.1 q3
      have a4 := dSum_b hLA a3.1 hs
      exact ⟨a4.1, by omega, by omega⟩
    · split at hs
      · obtain ⟨j1, C1, q1, hs⟩ := dt_inr hs
        obtain ⟨j2, C2, q2, hs⟩ := dt_inr hs
        obtain ⟨j3, C3, q3, hs⟩ := dt_inr hs
        have a1 := dTint_b hLA h q1
        have a2 := dWrd_b hLA a1.1 q2
        have a3 := dSum_b hLA a2.1 q3
        have a4 := dSum_b hLA a3.1 hs
        exact ⟨a4.1, by omega, by omega⟩
      · split at hs
        · obtain ⟨j1, C1, q1, hs⟩ := dt_inr hs
          obtain ⟨j2, C2, q2, hs⟩ := dt_inr hs
          obtain ⟨j3, C3, q3, hs⟩ := dt_inr hs
          obtain ⟨j4, C4, q4, hs⟩ := dt_inr hs
          have a1 := dVar_b hLA h q1
          have a2 := dNeed_b hLA a1.1 q2
          have a3 := dSum_b hLA a2.1 q3
          have a4 := dNeed_b hLA a3.1 q4
          have a5 := dSum_b hLA a4.1 hs
          have e2 : C2 = C1 := a2.2.2
          have e4 : C4 = C3 := a4.2.2
          subst e2 e4
          exact ⟨a5.1, by omega, by omega⟩
        · obtain ⟨j1, C1, q1, hs⟩ := dt_inr hs
          obtain ⟨j2, C2, q2, hs⟩ := dt_inr hs
          have a1 := dSum_b hLA h q1
          have a2 := dHow_b hLA a1.1 q2
          have a3 := dSum_b hLA a2.1 hs
          exact ⟨a3.1, by omega, by omega⟩
theorem dS_b {t : RW} {n la : Nat} (hLA : LA t n la) : ∀ (f m i bl : Nat) (D : DSt) (i1 : Nat) (D1 : DSt), DB la i D → dS t n f m i bl D = .inr (i1, D1) → DB la i1 D1 ∧ i < i1 ∧ D.1 < D1.1 := by
  intro f
  induction f with
  | zero => intro m i bl D i1 D1 _ h; cases h
  | succ f ih =>
    intro m i bl D i1 D1 hD h
    match m with
    | 0 =>
      obtain ⟨i2, D2, h1, h2⟩ := dt_inr h
      have a1 := ih 1 i bl D i2 D2 hD h1
      split at h2
      · rename_i hc
        have hil := isC_lt hLA a1.1.1 hc
        have a2 := ih 0 (i2 + 1) bl D2 i1 D1 ⟨hil, a1.1.2⟩ h2
        exact ⟨a2.1, by omega, by omega⟩
      · cases h2
        exact a1
    | m + 1 =>
      simp only [dS] at h
      split at h
      · cases h
      · rename_i hk
        have hk' := Classical.not_not.mp hk
        split at h
        · cases h
        · split at h
          · cases h
          · rename_i hst
            have hil := LA_lt hLA hD.1 (show kd t n (pl t n i) ≠ 0 by omega) (show kd t n (pl t n i) ≠ 1 by omega)
            obtain ⟨i2, D2, h1, h2⟩ := dt_inr h
            have e0 : (dBeg D (skV t n i)).1 = D.1 + 1 := rfl
            have a1 := dHd_b hLA (show DB la (i + 1) (dBeg D (skV t n i)) from ⟨hil, by rw [e0]; have := hD.2.1; omega, hD.2.2⟩) h1
            split at h2
            · split at h2
              · cases h2
              · rename_i hc
                have hc' := Classical.not_not.mp hc
                have hil2 := isC_lt hLA a1.1.1 hc'
                split at h2
                · cases h2
                · obtain ⟨i3, D3, h3, h4⟩ := dt_inr h2
                  have a2 := ih 0 (i2 + 1) (bl + 1) D2 i3 D3 ⟨hil2, a1.1.2⟩ h3
                  split at h4
                  · rename_i hc3
                    have hil3 := isC_lt hLA a2.1.1 hc3
                    cases h4
                    exact ⟨⟨hil3, a2.1.2⟩, by omega, show D.1 < D3.1 by omega⟩
                  · cases h4
            · cases h2
              exact ⟨a1.1, by omega, show D.1 < D2.1 by omega⟩
