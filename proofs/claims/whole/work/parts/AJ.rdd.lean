/-! ===== drawing: the whole text ===== -/
theorem and_inl {o : SOut} {k : Nat → SSt → SOut} {e : Int32 × Nat} (h : andThen o k = .inl e) : o = .inl e ∨ ∃ i s, o = .inr (i, s) ∧ k i s = .inl e := by
  unfold andThen at h
  split at h
  · rename_i e'
    cases h
    exact Or.inl rfl
  · rename_i i s
    exact Or.inr ⟨i, s, rfl, h⟩
theorem dt_inl {o : DOut} {k : Nat → DSt → DOut} {e : Int32 × Nat} (h : dThen o k = .inl e) : o = .inl e ∨ ∃ i D, o = .inr (i, D) ∧ k i D = .inl e := by
  unfold dThen at h
  split at h
  · rename_i e'
    cases h
    exact Or.inl rfl
  · rename_i i D
    exact Or.inr ⟨i, D, rfl, h⟩
theorem mu_4 {la m i : Nat} : mu la (m + 4) i = 8 * (la - i) + 1 := by
  unfold mu
  rw [if_neg (by omega), if_neg (by omega), if_neg (by omega), if_neg (by omega)]
theorem mu_v {la i : Nat} : mu la 0 i = 8 * (la - i) + 5 ∧ mu la 1 i = 8 * (la - i) + 4 ∧ mu la 2 i = 8 * (la - i) + 3 ∧ mu la 3 i = 8 * (la - i) + 2 ∧ mu la 4 i = 8 * (la - i) + 1 := ⟨rfl, rfl, rfl, rfl, rfl⟩
theorem ptE_c {t : RW} {n i : Nat} (h : ptE t n i ≠ 0) {c : Int32} {j : Nat} (hc : (Sum.inl (ptE t n i, i) : SOut) = .inl (c, j)) : c ≠ 0 := by
  cases hc
  exact h
/-- a sum's fault is a fault -/
theorem pS_c {t : RW} {n la : Nat} (hLA : LA t n la) : ∀ (f m i br : Nat) (s : SSt) (c : Int32) (j : Nat), i ≤ la → s.1 ≤ 120 → mu la m i ≤ f → pS t n f m i br s = .inl (c, j) → c ≠ 0 := by
  intro f
  induction f with
  | zero =>
    intro m i br s c j _ _ hm
    exfalso
    unfold mu at hm
    split at hm
    · omega
    · split at hm
      · omega
      · split at hm
        · omega
        · split at hm <;> omega
  | succ f ih =>
    intro m i br s c j hi hp hm h
    obtain ⟨m0, m1, m2, m3, m4⟩ := mu_v (la := la) (i := i)
    match m with
    | 0 =>
      rcases and_inl h with h1 | ⟨i2, s2, h1, h2⟩
      · exact ih 2 i br s c j hi hp (by omega) h1
      · have a1 := pS_b hLA f 2 i br s i2 s2 hi hp h1
        have a3 := a1.2.2.2.2.2.2 (Or.inr (Or.inl rfl))
        obtain ⟨n0, n1, n2, n3, n4⟩ := mu_v (la := la) (i := i2)
        exact ih 1 i2 br s2 c j a1.1 a1.2.2.1 (by omega) h2
    | 1 =>
      simp only [pS] at h
      split at h
      · rename_i hc
        have hil : i < la := by
          rcases hc with hc | hc
          · exact isC_lt hLA hi hc
          · exact isC_lt hLA hi hc
        obtain ⟨k0, k1, k2, k3, k4⟩ := mu_v (la := la) (i := i + 1)
        rcases and_inl h with h1 | ⟨i2, s2, h1, h2⟩
        · exact ih 2 (i + 1) br s c j (by omega) hp (by omega) h1
        · have a1 := pS_b hLA f 2 (i + 1) br s i2 s2 (by omega) hp h1
          have a3 := a1.2.2.2.2.2.2 (Or.inr (Or.inl rfl))
          obtain ⟨n0, n1, n2, n3, n4⟩ := mu_v (la := la) (i := i2)
          exact ih 1 i2 br (sPut s2 (if isC t n i 43 then 4 else 5) 0) c j a1.1 a1.2.2.1 (by omega) h2
      · cases h
    | 2 =>
      rcases and_inl h with h1 | ⟨i2, s2, h1, h2⟩
      · exact ih 4 i br s c j hi hp (by omega) h1
      · have a1 := pS_b hLA f 4 i br s i2 s2 hi hp h1
        have a3 := a1.2.2.2.2.2.2 (Or.inr (Or.inr (Nat.le_refl _)))
        obtain ⟨n0, n1, n2, n3, n4⟩ := mu_v (la := la) (i := i2)
        exact ih 3 i2 br s2 c j a1.1 a1.2.2.1 (by omega) h2
    | 3 =>
      simp only [pS] at h
      split at h
      · rename_i hc
        have hil : i < la := by
          rcases hc with hc | hc
          · exact isC_lt hLA hi hc
          · exact isC_lt hLA hi hc
        obtain ⟨k0, k1, k2, k3, k4⟩ := mu_v (la := la) (i := i + 1)
        rcases and_inl h with h1 | ⟨i2, s2, h1, h2⟩
        · exact ih 4 (i + 1) br s c j (by omega) hp (by omega) h1
        · have a1 := pS_b hLA f 4 (i + 1) br s i2 s2 (by omega) hp h1
          have a3 := a1.2.2.2.2.2.2 (Or.inr (Or.inr (Nat.le_refl _)))
          obtain ⟨n0, n1, n2, n3, n4⟩ := mu_v (la := la) (i := i2)
          exact ih 3 i2 br (sPut s2 (if isC t n i 42 then 6 else 7) 0) c j a1.1 a1.2.2.1 (by omega) h2
      · cases h
    | m + 4 =>
      rw [mu_4] at hm
      simp only [pS] at h
      split at h
      · rename_i hc
        have hil := isC_lt hLA hi hc
        obtain ⟨k0, k1, k2, k3, k4⟩ := mu_v (la := la) (i := i + 1)
        split at h
        · cases h; decide
        · rcases and_inl h with h1 | ⟨i2, s2, h1, h2⟩
          · exact ih 0 (i + 1) (br + 1) s c j (by omega) hp (by omega) h1
          · split at h2
            · cases h2
            · cases h2; decide
      · split at h
        · rename_i hE
          exact ptE_c hE h
        · split at h
          · cases h; decide
          · cases h
theorem dSum_c {t : RW} {n la i s k j : Nat} {D : DSt} {c : Int32} (hLA : LA t n la) (hla : la ≤ 400) (h : DB la i D) (hs : dSum t n i s k D = .inl (c, j)) : c ≠ 0 := by
  unfold dSum at hs
  split at hs
  · rename_i e hp
    cases hs
    exact pS_c hLA 5000 0 i 0 (dSs D) c j h.1 h.2.2.1 (by rw [mu_v.1]; omega) hp
  · cases hs
theorem dTint_c {t : RW} {n i s j : Nat} {D : DSt} {c : Int32} (hs : dTint t n i s D = .inl (c, j)) : c ≠ 0 := by
  unfold dTint at hs
  split at hs
  · cases hs; decide
  · split at hs
    · cases hs; decide
    · cases hs
theorem dWrd_c {t : RW} {n i s j : Nat} {D : DSt} {c : Int32} (hs : dWrd t n i s D = .inl (c, j)) : c ≠ 0 := by
  unfold dWrd at hs
  split at hs
  · cases hs; decide
  · cases hs
theorem dVar_c {t : RW} {n i s j : Nat} {D : DSt} {c : Int32} (hs : dVar t n i s D = .inl (c, j)) : c ≠ 0 := by
  unfold dVar at hs
  split at hs
  · cases hs; decide
  · cases hs
theorem dNeed_c {t : RW} {n i k j : Nat} {D : DSt} {c : Int32} (hs : dNeed t n i k D = .inl (c, j)) : c ≠ 0 := by
  unfold dNeed at hs
  split at hs
  · cases hs
  · cases hs; decide
theorem dHow_c {t : RW} {n i s j : Nat} {D : DSt} {c : Int32} (hs : dHow t n i s D = .inl (c, j)) : c ≠ 0 := by
  unfold dHow at hs
  split at hs
  · cases hs
  · split at hs
    · cases hs
    · split at hs
      · cases hs
      · cases hs; decide
theorem dSum_lt {t : RW} {n la i s k i1 : Nat} {D D1 : DSt} (hLA : LA t n la) (h : DB la i D) (hs : dSum t n i s k D = .inr (i1, D1)) : D1.2.2.1 + 1 ≤ 2 * D1.2.1 := by
  unfold dSum at hs
  split at hs
  · cases hs
  · rename_i i2 s2 hp
    cases hs
    have hb := pS_b hLA 5000 0 i 0 (dSs D) i1 s2 h.1 h.2.2.1 hp
    have hb2 := hb.2.2.2.2.2.2 (Or.inl rfl)
    have e1 : (dSs D).1 = D.2.1 := rfl
    have e2 : (dSs D).2.1 = D.2.2.1 := rfl
    rw [e1, e2] at hb hb2
    have h4 := h.2.2.2
    show s2.2.1 + 1 ≤ 2 * s2.1
    omega
theorem dHd_lt {t : RW} {n la i s i1 : Nat} {w : Int32} {D D1 : DSt} (hLA : LA t n la) (h : DB la i D) (hs : dHd t n i s w D = .inr (i1, D1)) : D1.2.2.1 + 1 ≤ 2 * D1.2.1 := by
  unfold dHd at hs
  split at hs
  · obtain ⟨j1, C1, q1, hs⟩ := dt_inr hs
    obtain ⟨j2, C2, q2, hs⟩ := dt_inr hs
    obtain ⟨j3, C3, q3, hs⟩ := dt_inr hs
    obtain ⟨j4, C4, q4, hs⟩ := dt_inr hs
    exact dSum_lt hLA (dSum_b hLA (dSum_b hLA (dSum_b hLA (dTint_b hLA h q1).1 q2).1 q3).1 q4).1 hs
  · split at hs
    · obtain ⟨j1, C1, q1, hs⟩ := dt_inr hs
      obtain ⟨j2, C2, q2, hs⟩ := dt_inr hs
      obtain ⟨j3, C3, q3, hs⟩ := dt_inr hs
      exact dSum_lt hLA (dSum_b hLA (dSum_b hLA (dTint_b hLA h q1).1 q2).1 q3).1 hs
    · split at hs
      · obtain ⟨j1, C1, q1, hs⟩ := dt_inr hs
        obtain ⟨j2, C2, q2, hs⟩ := dt_inr hs
        obtain ⟨j3, C3, q3, hs⟩ := dt_inr hs
        exact dSum_lt hLA (dSum_b hLA (dWrd_b hLA (dTint_b hLA h q1).1 q2).1 q3).1 hs
      · split at hs
        · obtain ⟨j1, C1, q1, hs⟩ := dt_inr hs
          obtain ⟨j2, C2, q2, hs⟩ := dt_inr hs
          obtain ⟨j3, C3, q3, hs⟩ := dt_inr hs
          obtain ⟨j4, C4, q4, hs⟩ := dt_inr hs
          have a1 := dVar_b hLA h q1
          have a2 := dNeed_b hLA a1.1 q2
          have a3 := dSum_b hLA a2.1 q3
          have a4 := dNeed_b hLA a3.1 q4
          exact dSum_lt hLA a4.1 hs
        · obtain ⟨j1, C1, q1, hs⟩ := dt_inr hs
          obtain ⟨j2, C2, q2, hs⟩ := dt_inr hs
          exact dSum_lt hLA (dHow_b hLA (dSum_b hLA h q1).1 q2).1 hs
theorem dHd_c {t : RW} {n la i s j : Nat} {w c : Int32} {D : DSt} (hLA : LA t n la) (hla : la ≤ 400) (h : DB la i D) (hs : dHd t n i s w D = .inl (c, j)) : c ≠ 0 := by
  unfold dHd at hs
  split at hs
  · rcases dt_inl hs with q1 | ⟨j1, C1, q1, hs⟩
    · exact dTint_c q1
    · have a1 := (dTint_b hLA h q1).1
      rcases dt_inl hs with q2 | ⟨j2, C2, q2, hs⟩
      · exact dSum_c hLA hla a1 q2
      · have a2 := (dSum_b hLA a1 q2).1
        rcases dt_inl hs with q3 | ⟨j3, C3, q3, hs⟩
        · exact dSum_c hLA hla a2 q3
        · have a3 := (dSum_b hLA a2 q3).1
          rcases dt_inl hs with q4 | ⟨j4, C4, q4, hs⟩
          · exact dSum_c hLA hla a3 q4
          · exact dSum_c hLA hla (dSum_b hLA a3 q4).1 hs
  · split at hs
    · rcases dt_inl hs with q1 | ⟨j1, C1, q1, hs⟩
      · exact dTint_c q1
      · have a1 := (dTint_b hLA h q1).1
        rcases dt_inl hs with q2 | ⟨j2, C2, q2, hs⟩
        · exact dSum_c hLA hla a1 q2
        · have a2 := (dSum_b hLA a1 q2).1
          rcases dt_inl hs with q3 | ⟨j3, C3, q3, hs⟩
          · exact dSum_c hLA hla a2 q3
          · exact dSum_c hLA hla (dSum_b hLA a2 q3).1 hs
    · split at hs
      · rcases dt_inl hs with q1 | ⟨j1, C1, q1, hs⟩
        · exact dTint_c q1
        · have a1 := (dTint_b hLA h q1).1
          rcases dt_inl hs with q2 | ⟨j2, C2, q2, hs⟩
          · exact dWrd_c q2
          · have a2 := (dWrd_b hLA a1 q2).1
            rcases dt_inl hs with q3 | ⟨j3, C3, q3, hs⟩
            · exact dSum_c hLA hla a2 q3
            · exact dSum_c hLA hla (dSum_b hLA a2 q3).1 hs
      · split at hs
        · rcases dt_inl hs with q1 | ⟨j1, C1, q1, hs⟩
          · exact dVar_c q1
          · have a1 := (dVar_b hLA h q1).1
            rcases dt_inl hs with q2 | ⟨j2, C2, q2, hs⟩
            · exact dNeed_c q2
            · have a2 := (dNeed_b hLA a1 q2).1
              rcases dt_inl hs with q3 | ⟨j3, C3, q3, hs⟩
              · exact dSum_c hLA hla a2 q3
              · have a3 := (dSum_b hLA a2 q3).1
                rcases dt_inl hs with q4 | ⟨j4, C4, q4, hs⟩
                · exact dNeed_c q4
                · exact dSum_c hLA hla (dNeed_b hLA a3 q4).1 hs
        · rcases dt_inl hs with q1 | ⟨j1, C1, q1, hs⟩
          · exact dSum_c hLA hla h q1
          · have a1 := (dSum_b hLA h q1).1
            rcases dt_inl hs with q2 | ⟨j2, C2, q2, hs⟩
            · exact dHow_c q2
            · exact dSum_c hLA hla (dHow_b hLA a1 q2).1 hs
theorem dS_lt {t : RW} {n la : Nat} (hLA : LA t n la) : ∀ (f m i bl : Nat) (D : DSt) (i1 : Nat) (D1 : DSt), DB la i D → dS t n f m i bl D = .inr (i1, D1) → D1.2.2.1 + 1 ≤ 2 * D1.2.1 := by
  intro f
  induction f with
  | zero => intro m i bl D i1 D1 _ h; cases h
  | succ f ih =>
    intro m i bl D i1 D1 hD h
    match m with
    | 0 =>
      obtain ⟨i2, D2, h1, h2⟩ := dt_inr h
      have a1 := dS_b hLA f 1 i bl D i2 D2 hD h1
      split at h2
      · rename_i hc
        have hil := isC_lt hLA a1.1.1 hc
        exact ih 0 (i2 + 1) bl D2 i1 D1 ⟨hil, a1.1.2⟩ h2
      · cases h2
        exact ih 1 i bl D i1 D1 hD h1
    | m + 1 =>
      simp only [dS] at h
      split at h
      · cases h
      · rename_i hk
        have hk' := Classical.not_not.mp hk
        split at h
        · cases h
        · split at h
          · cases h
          · rename_i hst
            have hil := LA_lt hLA hD.1 (show kd t n (pl t n i) ≠ 0 by omega) (show kd t n (pl t n i) ≠ 1 by omega)
            obtain ⟨i2, D2, h1, h2⟩ := dt_inr h
            have e0 : (dBeg D (skV t n i)).1 = D.1 + 1 := rfl
            have hB : DB la (i + 1) (dBeg D (skV t n i)) := ⟨hil, by rw [e0]; have := hD.2.1; omega, hD.2.2⟩
            have a1 := dHd_b hLA hB h1
            split at h2
            · split at h2
              · cases h2
              · rename_i hc
                have hc' := Classical.not_not.mp hc
                have hil2 := isC_lt hLA a1.1.1 hc'
                split at h2
                · cases h2
                · obtain ⟨i3, D3, h3, h4⟩ := dt_inr h2
                  have a2 := ih 0 (i2 + 1) (bl + 1) D2 i3 D3 ⟨hil2, a1.1.2⟩ h3
                  split at h4
                  · cases h4
                    exact a2
                  · cases h4
            · cases h2
              exact (dHd_lt hLA hB h1 : D2.2.2.1 + 1 ≤ 2 * D2.2.1)
theorem dS_c {t : RW} {n la : Nat} (hLA : LA t n la) (hla : la ≤ 400) : ∀ (f m i bl : Nat) (D : DSt) (c : Int32) (j : Nat), DB la i D → muD la m i ≤ f → dS t n f m i bl D = .inl (c, j) → c ≠ 0 := by
  intro f
  induction f with
  | zero =>
    intro m i bl D c j _ hm
    exfalso
    unfold muD at hm
    split at hm <;> omega
  | succ f ih =>
    intro m i bl D c j hD hm h
    match m with
    | 0 =>
      have e0 : muD la 0 i = 2 * (la - i) + 2 := rfl
      have e1 : ∀ x, muD la 1 x = 2 * (la - x) + 1 := fun _ => rfl
      have e2 : ∀ x, muD la 0 x = 2 * (la - x) + 2 := fun _ => rfl
      rcases dt_inl h with h1 | ⟨i2, D2, h1, h2⟩
      · exact ih 1 i bl D c j hD (by rw [e1]; omega) h1
      · have a1 := dS_b hLA f 1 i bl D i2 D2 hD h1
        split at h2
        · rename_i hc
          have hil := isC_lt hLA a1.1.1 hc
          exact ih 0 (i2 + 1) bl D2 c j ⟨hil, a1.1.2⟩ (by rw [e2]; omega) h2
        · cases h2
    | m + 1 =>
      have e0 : muD la (m + 1) i = 2 * (la - i) + 1 := by unfold muD; rw [if_neg (by omega)]
      have e2 : ∀ x, muD la 0 x = 2 * (la - x) + 2 := fun _ => rfl
      simp only [dS] at h
      split at h
      · cases h; decide
      · rename_i hk
        have hk' := Classical.not_not.mp hk
        split at h
        · cases h; decide
        · split at h
          · cases h; decide
          · rename_i hst
            have hil := LA_lt hLA hD.1 (show kd t n (pl t n i) ≠ 0 by omega) (show kd t n (pl t n i) ≠ 1 by omega)
            have e0 : (dBeg D (skV t n i)).1 = D.1 + 1 := rfl
            have hB : DB la (i + 1) (dBeg D (skV t n i)) := ⟨hil, by rw [e0]; have := hD.2.1; omega, hD.2.2⟩
            rcases dt_inl h with h1 | ⟨i2, D2, h1, h2⟩
            · exact dHd_c hLA hla hB h1
            · have a1 := dHd_b hLA hB h1
              split at h2
              · split at h2
                · cases h2; decide
                · rename_i hc
                  have hc' := Classical.not_not.mp hc
                  have hil2 := isC_lt hLA a1.1.1 hc'
                  split at h2
                  · cases h2; decide
                  · rcases dt_inl h2 with h3 | ⟨i3, D3, h3, h4⟩
                    · exact ih 0 (i2 + 1) (bl + 1) D2 c j ⟨hil2, a1.1.2⟩ (by rw [e2]; omega) h3
                    · split at h4
                      · cases h4
                      · cases h4; decide
              · cases h2
/-- a text with nothing behind it -/
def dAll (t : RW) (n : Nat) (D : DSt) : DOut := dThen (dS t n 5000 0 0 0 D) fun i D => if kd t n (pl t n i) = 0 then .inr (i, D) else .inl (1, i)
def DX (t : RW) (n : Nat) (out : DOut) (J : Nat → Nat → Int32) (M : Nat → Nat → Int64) : Prop := match out with
  | .inl (c, j) => J 40 5 = c ∧ J 40 6 = Int32.ofNat (pl t n j) ∧ c ≠ 0
  | .inr (_, D1) => J 40 5 = 0 ∧ ∃ dl wc, J 45 4 = Int32.ofNat dl ∧ J 45 5 = Int32.ofNat wc ∧ 0 < dl ∧ dl < 360 ∧ wc ≤ 40 ∧ D1.1 ≤ 40 ∧ D1.2.2.1 ≤ 240 ∧ Blk (bRw D1 J M) D1.2.2.1 wc 40 6 0 D1.1 0 dl
theorem aF_40 {I : Nat → Nat → Int32} {c : Int32} {s : Nat} : aF I c s 40 5 = c ∧ aF I c s 40 6 = Int32.ofNat s := by
  unfold aF
  rw [u2_same, upd_ne (by decide), upd_same, upd_same]
  exact ⟨rfl, rfl⟩
theorem FXd_F {bl wc dl s : Nat} {c : Int32} {I : Nat → Nat → Int32} {L : Nat → Nat → Int64} : FXd bl wc dl I (aF I c s) L L := by
  have e : ∀ c', c' ≠ 40 → aF I c s c' = I c' := fun c' h => u2_ne h
  refine ⟨fun c' c1 _ _ _ _ _ _ _ => e c' c1, ?_, fun j _ => by rw [e 46 (by decide), e 47 (by decide), e 48 (by decide)]; exact ⟨rfl, rfl, rfl⟩, fun j _ => by rw [e 50 (by decide)], fun _ _ => rfl, fun _ _ => rfl, TYp.fr (e 46 (by decide)) (e 47 (by decide)) (e 48 (by decide))⟩
  unfold aF
  rw [u2_same, upd_ne (by decide), upd_ne (by decide)]
section RDD
variable {b : Nat} {F : Nat → Option AE} {D E : Nat → Option KD} {I : Nat → Nat → Int32} {L : Nat → Nat → Int64} {P : Nat → Nat → Option Nat} {nx us : Nat}
theorem X_readD {z : ZX} {t : RW} {n la : Nat} {D : DSt} (hz : GZ b F z) (hLA : LA t n la) (hla : la ≤ 400) (h : TX t n la I L) (h4 : I 40 4 = 0) (h5 : I 40 5 = 0) (hD : D.1 = 0 ∧ D.2.1 = 0 ∧ D.2.2.1 = 0) : ∃ J M, f_X2_read (ad b 44) (lay b F E I L P nx us) = some (lay b F E J M P nx us) ∧ FXd 0 0 0 I J L M ∧ DX t n (dAll t n D) J M := by
  let I1 : Nat → Nat → Int32 := u2 (u2 I 45 (upd (upd (I 45) 4 0) 5 0)) 44 (upd (upd (upd (I 44) 2 0) 3 0) 5 0)
  have i1 : ∀ c, c ≠ 44 → c ≠ 45 → I1 c = I c := fun c c1 c2 => by show u2 (u2 I 45 _) 44 _ c = _; rw [u2_ne c1, u2_ne c2]
  have hrun : f_X2_read (ad b 44) (lay b F E I L P nx us) = pLp z b 0 (lay b F E I1 L P nx us) := by
    simp (decide := true) only [f_X2_read_104, f_X2_read_96, f_X2_read_87, f_X2_read, f_X1_clear, isO_s, gI_s, gA_s, gL_s, pI_s, pZ_s, pL_s, aI_s, aL_s, aN_s, aQ_s, sI_s, sL_s, cr, LNs, Option.map_some, Option.map_none, Option.bind_some, b2, tr, lt, if_true, if_false, ckZ, X_within, M_in, inR_z, X_refuse, X_tell, X_deny, X_grant, M_refused, M_denied, M_done, M_granted, u2_same, u2_ne, u2_u2, upd_same, upd_ne, aW0, ixR_z, ixR_1, M_isWall, M_isPainter, M_isWork, X_has4, X_has10, X_at, or_false, false_or, or_true, true_or, not_true, not_false_iff, Option.isSome_some, isO_d, gI_d, gA_d, pI_d, ne_eq, not_false_eq_true, u2_hi, u2_hj, u2_dyn, u2_dynj, Nat.reduceAdd, mX_r, mX_rD, mX_rDj, mM_r, mX_u, mX_uM, mX_uD, mX_uDj, mM_u, mM_uX, mM_uD, mM_uDj, u2_dd, u2_d0, u2_0d]
    rfl
  obtain ⟨d1, d2, d3⟩ := hD
  have hDB : DB la 0 D := ⟨Nat.zero_le _, by omega, by omega, by omega⟩
  have hX : XDs t n la 0 D.1 D.2.1 0 0 0 I1 L := by
    rw [d1, d2]
    refine ⟨h.fr (by rw [i1 40 (by decide) (by decide)]) (i1 41 (by decide) (by decide)) (i1 42 (by decide) (by decide)) (i1 148 (by decide) (by decide)), Nat.zero_le _, by rw [i1 40 (by decide) (by decide)]; exact h4, by rw [i1 40 (by decide) (by decide)]; exact h5, ?_, ?_, ?_, ?_, ?_⟩
    · show u2 (u2 I 45 _) 44 _ 44 2 = _; simp (decide := true) only [u2_same, u2_ne, u2_u2, upd_same, upd_ne, mE, u2_dyn, dyn_u2, dyn_hi, u2_hi, u2_hj, u2_dynj, u2_dd, u2_d0, u2_0d]
    · show u2 (u2 I 45 _) 44 _ 44 3 = _; simp (decide := true) only [u2_same, u2_ne, u2_u2, upd_same, upd_ne, mE, u2_dyn, dyn_u2, dyn_hi, u2_hi, u2_hj, u2_dynj, u2_dd, u2_d0, u2_0d]
    · show u2 (u2 I 45 _) 44 _ 44 5 = _; simp (decide := true) only [u2_same, u2_ne, u2_u2, upd_same, upd_ne, mE, u2_dyn, dyn_u2, dyn_hi, u2_hi, u2_hj, u2_dynj, u2_dd, u2_d0, u2_0d]
    · show u2 (u2 I 45 _) 44 _ 45 4 = _; simp (decide := true) only [u2_same, u2_ne, u2_u2, upd_same, upd_ne, mE, u2_dyn, dyn_u2, dyn_hi, u2_hi, u2_hj, u2_dynj, u2_dd, u2_d0, u2_0d]
    · show u2 (u2 I 45 _) 44 _ 45 5 = _; simp (decide := true) only [u2_same, u2_ne, u2_u2, upd_same, upd_ne, mE, u2_dyn, dyn_u2, dyn_hi, u2_hi, u2_hj, u2_dynj, u2_dd, u2_d0, u2_0d]
  have hfx : FXd 0 0 0 I I1 L L := ⟨fun c _ c2 c3 _ _ _ _ _ => i1 c c2 c3, by rw [i1 40 (by decide) (by decide)], fun _ q => absurd q (Nat.not_lt_zero _), fun _ q => absurd q (Nat.not_lt_zero _), fun _ _ => rfl, fun _ _ => rfl, TYp.fr (i1 46 (by decide) (by decide)) (i1 47 (by decide) (by decide)) (i1 48 (by decide) (by decide))⟩
  have hmu : muD la 0 0 ≤ 5000 := by show 2 * (la - 0) + 2 ≤ 5000; omega
  have g := (X_rdS (b := b) (F := F) (E := E) (P := P) (nx := nx) (us := us) hz hLA hla 5000 0 (by decide)).1 0 D I1 L 0 0 hmu hDB (by omega) (by omega) hX
  rw [d1] at g
  rw [hrun]
  unfold dAll
  cases hout : dS t n 5000 0 0 0 D with
  | inl e =>
    obtain ⟨c, j⟩ := e
    rw [hout] at g
    obtain ⟨K, M, g1, g2⟩ := g
    exact ⟨_, M, g1, hfx.trans (g2.trans FXd_F (Nat.le_refl _) (Nat.le_refl _) (Nat.le_refl _)) (Nat.le_refl _) (Nat.le_refl _) (Nat.le_refl _), aF_40.1, aF_40.2, dS_c hLA hla 5000 0 0 0 D c j hDB hmu hout⟩
  | inr q =>
    obtain ⟨i1', D1⟩ := q
    have hb := dS_b hLA 5000 0 0 0 D i1' D1 hDB hout
    have hlt := dS_lt hLA 5000 0 0 0 D i1' D1 hDB hout
    have he := dS_e 5000 0 0 D i1' D1 hout
    rw [hout] at g
    obtain ⟨K, M, u, dl1, wc1, g1, g2, g3, g4, g5, g6, g7, g8, g9, -, gb⟩ := g
    have gb := gb rfl 40 (by have := hb.1.2.1; omega)
    rw [d1] at gb
    obtain ⟨-, -, x3, x4⟩ := X_aft (b := b) (F := F) (E := E) (P := P) (nx := nx) (us := us) (z := z) (T := D1.1 - 1) (u := u) hLA (by decide) g3
    have hfx2 := hfx.trans g4 (Nat.le_refl _) (Nat.le_refl _) (Nat.le_refl _)
    rw [g1, dt_i]
    obtain ⟨b1, b2', b3, b4⟩ := hb.1
    by_cases hk : kd t n (pl t n i1') = 0
    · rw [if_pos hk, x3 rfl he hk]
      obtain ⟨y1, y2, y3, y4, y5, y6, y7, y8, y9⟩ := g3
      exact ⟨K, M, rfl, hfx2, y4, dl1, wc1, y8, y9, by omega, by omega, by omega, b2', by omega, gb⟩
    · rw [if_neg hk, x4 rfl he hk]
      exact ⟨_, M, rfl, hfx2.trans FXd_F (Nat.le_refl _) (Nat.le_refl _) (Nat.le_refl _), aF_40.1, aF_40.2, by decide⟩
/-- the class: cut and read -/
theorem X_drawR {z : ZX} {n : Nat} {D : DSt} (hz : GZ b F z) (hn : n ≤ 400) (hG : GTap (I 39) (I 91)) (hD : D.1 = 0 ∧ D.2.1 = 0 ∧ D.2.2.1 = 0) : ∃ J M C N la, f_X7_cut z (ad b 40) (ad b 39) (Int32.ofNat n) (lay b F E (u2 I 0 (upd (I 0) 6 0)) L P nx us) = some (lay b F E C N P nx us) ∧ f_X2_read (ad b 44) (lay b F E C N P nx us) = some (lay b F E J M P nx us) ∧ (∀ c, c ≠ 43 → c ≠ 49 → M c = L c) ∧ (∀ c, c ≠ 0 → c ≠ 40 → c ≠ 41 → c ≠ 42 → c ≠ 44 → c ≠ 45 → c ≠ 46 → c ≠ 47 → c ≠ 48 → c ≠ 50 → c ≠ 51 → c ≠ 148 → J c = I c) ∧ J 0 = upd (I 0) 6 0 ∧ (TYp I → TYp J) ∧ DX (I 39) n (dAll (I 39) n D) J M ∧ LA (I 39) n la ∧ la ≤ 400 := by
  obtain ⟨la, Ic, Lc, z1, z2, z3, z4, z5, z6, z7⟩ := X_cut (b := b) (F := F) (E := E) (L := L) (P := P) (nx := nx) (us := us) (I := u2 I 0 (upd (I 0) 6 0)) (n := n) (t := I 39) hz hn (GTap_BY hG hn) (by simp (decide := true) only [u2_same, u2_ne, u2_u2, upd_same, upd_ne, mE, u2_dyn, dyn_u2, dyn_hi, u2_hi, u2_hj, u2_dynj, u2_dd, u2_d0, u2_0d])
  have cc : ∀ c, c ≠ 0 → c ≠ 40 → c ≠ 41 → c ≠ 42 → c ≠ 148 → Ic c = I c := fun c c1 c2 c3 c4 c5 => by rw [z3 c c2 c3 c4 c5, u2_ne c1]
  have c0 : Ic 0 = upd (I 0) 6 0 := by rw [z3 0 (by decide) (by decide) (by decide) (by decide)]; simp (decide := true) only [u2_same, u2_ne, u2_u2, upd_same, upd_ne, mE, u2_dyn, dyn_u2, dyn_hi, u2_hi, u2_hj, u2_dynj, u2_dd, u2_d0, u2_0d]
  have hLA : LA (I 39) n la := ⟨z2.2.2.2.1, z2.2.2.2.2.1⟩
  obtain ⟨J, M, y1, y2, y3⟩ := X_readD (b := b) (F := F) (E := E) (P := P) (nx := nx) (us := us) hz hLA z2.1 z2 z4 z5 hD
  obtain ⟨f1, f2, f3, f4, f5, f6, f7⟩ := y2
  refine ⟨J, M, Ic, Lc, la, z1, y1, fun c c1 c2 => by rw [f5 c c2, z7 c c1], fun c c1 c2 c3 c4 c5 c6 c7 c8 c9 ca cb cd => by rw [f1 c c2 c5 c6 c7 c8 c9 ca cb, cc c c1 c2 c3 c4 cd], by rw [f1 0 (by decide) (by decide) (by decide) (by decide) (by decide) (by decide) (by decide) (by decide)]; exact c0, fun q => f7 (TYp.fr (cc 46 (by decide) (by decide) (by decide) (by decide) (by decide)) (cc 47 (by decide) (by decide) (by decide) (by decide) (by decide)) (cc 48 (by decide) (by decide) (by decide) (by decide) (by decide)) q), y3, hLA, z2.1⟩
end RDD
