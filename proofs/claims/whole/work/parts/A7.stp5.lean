/-! ===== drawing: the class reads a sum of a step ===== -/
theorem pS_fr {t : RW} {n : Nat} : ∀ (f m i br : Nat) (s : SSt) (i1 : Nat) (s1 : SSt), pS t n f m i br s = .inr (i1, s1) → s.2.1 ≤ s1.2.1 ∧ ∀ x, x < s.2.1 → s1.2.2.1 x = s.2.2.1 x ∧ s1.2.2.2 x = s.2.2.2 x := by
  intro f
  induction f with
  | zero => intro m i br s i1 s1 h; cases h
  | succ f ih =>
    intro m i br s i1 s1 h
    have step : ∀ (i2 : Nat) (s2 : SSt) (x v : Int32) (m' : Nat), pS t n f m' i2 br (sPut s2 x v) = .inr (i1, s1) → s.2.1 ≤ s2.2.1 → (∀ y, y < s.2.1 → s2.2.2.1 y = s.2.2.1 y ∧ s2.2.2.2 y = s.2.2.2 y) → s.2.1 ≤ s1.2.1 ∧ ∀ x, x < s.2.1 → s1.2.2.1 x = s.2.2.1 x ∧ s1.2.2.2 x = s.2.2.2 x := by
      intro i2 s2 x v m' h2 hle heq
      have a2 := ih m' i2 br (sPut s2 x v) i1 s1 h2
      have e : (sPut s2 x v).2.1 = s2.2.1 + 1 := rfl
      rw [e] at a2
      refine ⟨by omega, fun y hy => ?_⟩
      obtain ⟨b1, b2⟩ := a2.2 y (by omega)
      obtain ⟨c1, c2⟩ := heq y hy
      have d1 : (sPut s2 x v).2.2.1 y = s2.2.2.1 y := upd_ne (by omega)
      have d2 : (sPut s2 x v).2.2.2 y = s2.2.2.2 y := upd_ne (by omega)
      exact ⟨b1.trans (d1.trans c1), b2.trans (d2.trans c2)⟩
    have two : ∀ (i2 : Nat) (s2 : SSt) (m1 m2 : Nat), pS t n f m1 i br s = .inr (i2, s2) → pS t n f m2 i2 br s2 = .inr (i1, s1) → s.2.1 ≤ s1.2.1 ∧ ∀ x, x < s.2.1 → s1.2.2.1 x = s.2.2.1 x ∧ s1.2.2.2 x = s.2.2.2 x := by
      intro i2 s2 m1 m2 h1 h2
      have a1 := ih m1 i br s i2 s2 h1
      have a2 := ih m2 i2 br s2 i1 s1 h2
      exact ⟨by omega, fun y hy => ⟨(a2.2 y (by omega)).1.trans (a1.2 y hy).1, (a2.2 y (by omega)).2.trans (a1.2 y hy).2⟩⟩
    match m with
    | 0 =>
      obtain ⟨i2, s2, h1, h2⟩ := and_inr h
      exact two i2 s2 2 1 h1 h2
    | 1 =>
      simp only [pS] at h
      split at h
      · obtain ⟨i2, s2, h1, h2⟩ := and_inr h
        have a1 := ih 2 (i + 1) br s i2 s2 h1
        exact step i2 s2 _ _ 1 h2 a1.1 a1.2
      · cases h
        exact ⟨Nat.le_refl _, fun _ _ => ⟨rfl, rfl⟩⟩
    | 2 =>
      obtain ⟨i2, s2, h1, h2⟩ := and_inr h
      exact two i2 s2 4 3 h1 h2
    | 3 =>
      simp only [pS] at h
      split at h
      · obtain ⟨i2, s2, h1, h2⟩ := and_inr h
        have a1 := ih 4 (i + 1) br s i2 s2 h1
        exact step i2 s2 _ _ 3 h2 a1.1 a1.2
      · cases h
        exact ⟨Nat.le_refl _, fun _ _ => ⟨rfl, rfl⟩⟩
    | m + 4 =>
      simp only [pS] at h
      split at h
      · split at h
        · cases h
        · obtain ⟨i2, s2, h1, h2⟩ := and_inr h
          have a1 := ih 0 (i + 1) (br + 1) s i2 s2 h1
          split at h2
          · cases h2
            exact a1
          · cases h2
      · split at h
        · cases h
        · split at h
          · cases h
          · cases h
            refine ⟨show s.2.1 ≤ s.2.1 + 1 by omega, fun y hy => ⟨?_, ?_⟩⟩
            · show upd s.2.2.1 s.2.1 _ y = _
              rw [upd_ne (by omega)]
            · show upd s.2.2.2 s.2.1 _ y = _
              rw [upd_ne (by omega)]
/-- signs: operators, and parts with what they hold -/
def ItOp (x : Int32) : Prop := x = 4 ∨ x = 5 ∨ x = 6 ∨ x = 7
def ItLf (x v : Int32) : Prop := (x = 0 ∧ ∃ j, j < 1000 ∧ v = Int32.ofNat j) ∨ (x = 1 ∧ ∃ j, j < 5 ∧ v = Int32.ofNat j) ∨ x = 2 ∨ x = 3
/-- c items from i on lead a pile of n to one of n' -/
def dOK (sg vv : RW) : Nat → Nat → Nat → Nat → Prop
  | 0, _, n, n' => n = n'
  | c + 1, i, n, n' => (ItOp (sg i) ∧ 2 ≤ n ∧ dOK sg vv c (i + 1) (n - 1) n') ∨ (ItLf (sg i) (vv i) ∧ n < 15 ∧ dOK sg vv c (i + 1) (n + 1) n')
theorem dOK_app {sg vv : RW} : ∀ (c1 i n n1 c2 n2 : Nat), dOK sg vv c1 i n n1 → dOK sg vv c2 (i + c1) n1 n2 → dOK sg vv (c1 + c2) i n n2 := by
  intro c1
  induction c1 with
  | zero => intro i n n1 c2 n2 h1 h2; have : n = n1 := h1; subst this; rw [Nat.zero_add]; exact h2
  | succ c ih =>
    intro i n n1 c2 n2 h1 h2
    rw [show c + 1 + c2 = (c + c2) + 1 by omega]
    rw [show i + (c + 1) = i + 1 + c by omega] at h2
    rcases h1 with ⟨a, e, h⟩ | ⟨a, e, h⟩
    · exact Or.inl ⟨a, e, ih _ _ _ _ _ h h2⟩
    · exact Or.inr ⟨a, e, ih _ _ _ _ _ h h2⟩
theorem dOK_fr {sg vv sg' vv' : RW} : ∀ (c i n n1 : Nat), (∀ j, i ≤ j → j < i + c → sg' j = sg j ∧ vv' j = vv j) → dOK sg vv c i n n1 → dOK sg' vv' c i n n1 := by
  intro c
  induction c with
  | zero => intro i n n1 _ h; exact h
  | succ c ih =>
    intro i n n1 hf h
    obtain ⟨e1, e2⟩ := hf i (Nat.le_refl _) (by omega)
    rcases h with ⟨a, e, h⟩ | ⟨a, e, h⟩
    · exact Or.inl ⟨by rw [e1]; exact a, e, ih _ _ _ (fun j j1 j2 => hf j (by omega) (by omega)) h⟩
    · exact Or.inr ⟨by rw [e1, e2]; exact a, e, ih _ _ _ (fun j j1 j2 => hf j (by omega) (by omega)) h⟩
def dWd (m br : Nat) : Nat := 2 * (6 - br) + (if m = 0 then 3 else if m = 1 then 2 else if m = 2 then 2 else 1)
theorem ptLf {t : RW} {n i : Nat} (h : ptE t n i = 0) : ItLf (ptS t n i) (ptV t n i) := by
  unfold ptS ptV
  by_cases h3 : kd t n (pl t n i) = 3
  · rw [if_pos h3, if_pos h3]
    exact Or.inl ⟨rfl, num_N h3⟩
  · rw [if_neg h3, if_neg h3]
    by_cases hv : varV t n i = -1
    · rw [if_neg (fun q => q hv)]
      by_cases h7 : isW t n i 7
      · rw [if_pos h7]; exact Or.inr (Or.inr (Or.inl rfl))
      · rw [if_neg h7]; exact Or.inr (Or.inr (Or.inr rfl))
    · rw [if_pos hv]
      exact Or.inr (Or.inl ⟨rfl, (varV_N (t := t) (n := n) (i := i)).resolve_left hv⟩)
theorem pS_d {t : RW} {n : Nat} : ∀ (f m i br : Nat) (s : SSt) (i1 : Nat) (s1 : SSt), br ≤ 6 → pS t n f m i br s = .inr (i1, s1) → ((m = 1 ∨ m = 3) → ∀ k, 1 ≤ k → k + dWd m br ≤ 15 → dOK s1.2.2.1 s1.2.2.2 (s1.2.1 - s.2.1) s.2.1 k k) ∧ ((m ≠ 1 ∧ m ≠ 3) → ∀ k, k + dWd m br ≤ 15 → dOK s1.2.2.1 s1.2.2.2 (s1.2.1 - s.2.1) s.2.1 k (k + 1)) := by
  intro f
  induction f with
  | zero => intro m i br s i1 s1 _ h; cases h
  | succ f ih =>
    intro m i br s i1 s1 hbr h
    have two : ∀ (i2 : Nat) (s2 : SSt) (m1 m2 k : Nat), m1 ≠ 1 → m1 ≠ 3 → (m2 = 1 ∨ m2 = 3) → k + dWd m1 br ≤ 15 → k + 1 + dWd m2 br ≤ 15 → pS t n f m1 i br s = .inr (i2, s2) → pS t n f m2 i2 br s2 = .inr (i1, s1) → dOK s1.2.2.1 s1.2.2.2 (s1.2.1 - s.2.1) s.2.1 k (k + 1) := by
      intro i2 s2 m1 m2 k n1 n3 hm2 hk1 hk2 h1 h2
      have a1 := (ih m1 i br s i2 s2 hbr h1).2 ⟨n1, n3⟩ k hk1
      have a2 := (ih m2 i2 br s2 i1 s1 hbr h2).1 hm2 (k + 1) (by omega) hk2
      have f1 := (pS_fr f m1 i br s i2 s2 h1).1
      have f2 := pS_fr f m2 i2 br s2 i1 s1 h2
      have := dOK_app _ _ _ _ _ _ (dOK_fr _ _ _ _ (fun j _ j2 => f2.2 j (by omega)) a1) (by rw [show s.2.1 + (s2.2.1 - s.2.1) = s2.2.1 by omega]; exact a2)
      rw [show s2.2.1 - s.2.1 + (s1.2.1 - s2.2.1) = s1.2.1 - s.2.1 by have := f2.1; omega] at this
      exact this
    have more : ∀ (i2 : Nat) (s2 : SSt) (x : Int32) (m1 m' k : Nat), ItOp x → m1 ≠ 1 → m1 ≠ 3 → (m' = 1 ∨ m' = 3) → 1 ≤ k → k + dWd m1 br ≤ 15 → k + dWd m' br ≤ 15 → pS t n f m1 (i + 1) br s = .inr (i2, s2) → pS t n f m' i2 br (sPut s2 x 0) = .inr (i1, s1) → dOK s1.2.2.1 s1.2.2.2 (s1.2.1 - s.2.1) s.2.1 k k := by
      intro i2 s2 x m1 m' k hx n1 n3 hm' hk hk1 hk2 h1 h2
      have a1 := (ih m1 (i + 1) br s i2 s2 hbr h1).2 ⟨n1, n3⟩ k hk1
      have a2 := (ih m' i2 br (sPut s2 x 0) i1 s1 hbr h2).1 hm' k hk hk2
      have f1 := (pS_fr f m1 (i + 1) br s i2 s2 h1).1
      have f2 := pS_fr f m' i2 br (sPut s2 x 0) i1 s1 h2
      have e : (sPut s2 x 0).2.1 = s2.2.1 + 1 := rfl
      rw [e] at a2 f2
      have hpx : s1.2.2.1 s2.2.1 = x := by rw [(f2.2 s2.2.1 (by omega)).1]; exact upd_same _ _ _
      have a1' : dOK s1.2.2.1 s1.2.2.2 (s2.2.1 - s.2.1) s.2.1 k (k + 1) := dOK_fr _ _ _ _ (fun j _ j2 => by
        obtain ⟨q1, q2⟩ := f2.2 j (by omega)
        exact ⟨q1.trans (upd_ne (by omega)), q2.trans (upd_ne (by omega))⟩) a1
      have a3 : dOK s1.2.2.1 s1.2.2.2 (s1.2.1 - (s2.2.1 + 1) + 1) s2.2.1 (k + 1) k := Or.inl ⟨by rw [hpx]; exact hx, by omega, by rw [Nat.add_sub_cancel]; exact a2⟩
      have := dOK_app _ _ _ _ _ _ a1' (by rw [show s.2.1 + (s2.2.1 - s.2.1) = s2.2.1 by omega]; exact a3)
      rw [show s2.2.1 - s.2.1 + (s1.2.1 - (s2.2.1 + 1) + 1) = s1.2.1 - s.2.1 by have := f2.1; omega] at this
      exact this
    match m with
    | 0 =>
      obtain ⟨i2, s2, h1, h2⟩ := and_inr h
      refine ⟨fun q => by omega, fun _ k hk => ?_⟩
      unfold dWd at hk
      simp at hk
      exact two i2 s2 2 1 k (by decide) (by decide) (Or.inl rfl) (by unfold dWd; simp; omega) (by unfold dWd; simp; omega) h1 h2
    | 1 =>
      refine ⟨fun _ k hk1 hk => ?_, fun q => by omega⟩
      simp only [pS] at h
      unfold dWd at hk
      simp at hk
      split at h
      · obtain ⟨i2, s2, h1, h2⟩ := and_inr h
        exact more i2 s2 _ 2 1 k (by split; exact Or.inl rfl; exact Or.inr (Or.inl rfl)) (by decide) (by decide) (Or.inl rfl) hk1 (by unfold dWd; simp; omega) (by unfold dWd; simp; omega) h1 h2
      · cases h
        rw [Nat.sub_self]
        rfl
    | 2 =>
      obtain ⟨i2, s2, h1, h2⟩ := and_inr h
      refine ⟨fun q => by omega, fun _ k hk => ?_⟩
      unfold dWd at hk
      simp at hk
      exact two i2 s2 4 3 k (by decide) (by decide) (Or.inr rfl) (by unfold dWd; simp; omega) (by unfold dWd; simp; omega) h1 h2
    | 3 =>
      refine ⟨fun _ k hk1 hk => ?_, fun q => by omega⟩
      simp only [pS] at h
      unfold dWd at hk
      simp at hk
      split at h
      · obtain ⟨i2, s2, h1, h2⟩ := and_inr h
        exact more i2 s2 _ 4 3 k (by split; exact Or.inr (Or.inr (Or.inl rfl)); exact Or.inr (Or.inr (Or.inr rfl))) (by decide) (by decide) (Or.inr rfl) hk1 (by unfold dWd; simp; omega) (by unfold dWd; simp; omega) h1 h2
      · cases h
        rw [Nat.sub_self]
        rfl
    | m + 4 =>
      refine ⟨fun q => by omega, fun _ k hk => ?_⟩
      have hk' : k + (2 * (6 - br) + 1) ≤ 15 := by
        unfold dWd at hk
        rw [if_neg (by omega), if_neg (by omega), if_neg (by omega)] at hk
        exact hk
      simp only [pS] at h
      split at h
      · split at h
        · cases h
        · obtain ⟨i2, s2, h1, h2⟩ := and_inr h
          have a1 := (ih 0 (i + 1) (br + 1) s i2 s2 (by omega) h1).2 ⟨by decide, by decide⟩ k (by unfold dWd; simp; omega)
          split at h2
          · cases h2
            exact a1
          · cases h2
      · split at h
        · cases h
        · rename_i hE
          have hE := Classical.not_not.mp hE
          split at h
          · cases h
          · cases h
            show dOK (upd s.2.2.1 s.2.1 (ptS t n i)) (upd s.2.2.2 s.2.1 (ptV t n i)) (s.2.1 + 1 - s.2.1) s.2.1 k (k + 1)
            rw [show s.2.1 + 1 - s.2.1 = 0 + 1 by omega]
            refine Or.inr ⟨?_, by omega, rfl⟩
            rw [upd_same, upd_same]
            exact ptLf hE
/-- the k-th sum of step s lies at the deeds from o to o1 -/
def SumAt (R : Nat → RW) (dd dv : RW) (s k o o1 : Nat) : Prop := ∃ a e : Nat, R 7 (4 * s + k) = Int32.ofNat a ∧ R 8 (4 * s + k) = Int32.ofNat e ∧ a ≤ e ∧ e ≤ 240 ∧ o1 = o + (e - a) ∧ (∀ j, j < e - a → dd (o + j) = itD (R 9 (a + j)) ∧ dv (o + j) = itV (R 9 (a + j)) (R 10 (a + j))) ∧ dOK (R 9) (R 10) (e - a) a 0 1
/-- what a sum leaves alone of the steps -/
theorem dSum_fr {t : RW} {n i s k i1 : Nat} {D D1 : DSt} (h : dSum t n i s k D = .inr (i1, D1)) : ∃ s1, pS t n 5000 0 i 0 (dSs D) = .inr (i1, s1) ∧ D1.2.1 = s1.1 ∧ D1.2.2.1 = s1.2.1 ∧ D1.2.2.2.1 9 = s1.2.2.1 ∧ D1.2.2.2.1 10 = s1.2.2.2 ∧ D1.1 = D.1 ∧ D1.2.2.2.2 = D.2.2.2.2 ∧ (∀ j, j ≠ 7 → j ≠ 8 → j ≠ 9 → j ≠ 10 → D1.2.2.2.1 j = D.2.2.2.1 j) ∧ D1.2.2.2.1 7 = upd (D.2.2.2.1 7) (4 * s + k) (Int32.ofNat D.2.2.1) ∧ D1.2.2.2.1 8 = upd (D.2.2.2.1 8) (4 * s + k) (Int32.ofNat s1.2.1) := by
  unfold dSum at h
  split at h
  · cases h
  · rename_i i2 s2 hp
    cases h
    refine ⟨s2, hp, rfl, rfl, ?_, ?_, rfl, rfl, ?_, ?_, ?_⟩
    · show u2 (u2 (u2 (u2 D.2.2.2.1 7 (upd (D.2.2.2.1 7) (4 * s + k) (Int32.ofNat D.2.2.1))) 9 s2.2.2.1) 10 s2.2.2.2) 8 (upd (u2 (u2 (u2 D.2.2.2.1 7 (upd (D.2.2.2.1 7) (4 * s + k) (Int32.ofNat D.2.2.1))) 9 s2.2.2.1) 10 s2.2.2.2 8) (4 * s + k) (Int32.ofNat s2.2.1)) 9 = _
      rw [u2_ne (by decide), u2_ne (by decide), u2_same]
    · show u2 (u2 (u2 (u2 D.2.2.2.1 7 (upd (D.2.2.2.1 7) (4 * s + k) (Int32.ofNat D.2.2.1))) 9 s2.2.2.1) 10 s2.2.2.2) 8 (upd (u2 (u2 (u2 D.2.2.2.1 7 (upd (D.2.2.2.1 7) (4 * s + k) (Int32.ofNat D.2.2.1))) 9 s2.2.2.1) 10 s2.2.2.2 8) (4 * s + k) (Int32.ofNat s2.2.1)) 10 = _
      rw [u2_ne (by decide), u2_same]
    · intro j j7 j8 j9 j10
      show u2 (u2 (u2 (u2 D.2.2.2.1 7 (upd (D.2.2.2.1 7) (4 * s + k) (Int32.ofNat D.2.2.1))) 9 s2.2.2.1) 10 s2.2.2.2) 8 (upd (u2 (u2 (u2 D.2.2.2.1 7 (upd (D.2.2.2.1 7) (4 * s + k) (Int32.ofNat D.2.2.1))) 9 s2.2.2.1) 10 s2.2.2.2 8) (4 * s + k) (Int32.ofNat s2.2.1)) j = _
      rw [u2_ne j8, u2_ne j10, u2_ne j9, u2_ne j7]
    · show u2 (u2 (u2 (u2 D.2.2.2.1 7 (upd (D.2.2.2.1 7) (4 * s + k) (Int32.ofNat D.2.2.1))) 9 s2.2.2.1) 10 s2.2.2.2) 8 (upd (u2 (u2 (u2 D.2.2.2.1 7 (upd (D.2.2.2.1 7) (4 * s + k) (Int32.ofNat D.2.2.1))) 9 s2.2.2.1) 10 s2.2.2.2 8) (4 * s + k) (Int32.ofNat s2.2.1)) 7 = _
      rw [u2_ne (by decide), u2_ne (by decide), u2_ne (by decide), u2_same]
    · show u2 (u2 (u2 (u2 D.2.2.2.1 7 (upd (D.2.2.2.1 7) (4 * s + k) (Int32.ofNat D.2.2.1))) 9 s2.2.2.1) 10 s2.2.2.2) 8 (upd (u2 (u2 (u2 D.2.2.2.1 7 (upd (D.2.2.2.1 7) (4 * s + k) (Int32.ofNat D.2.2.1))) 9 s2.2.2.1) 10 s2.2.2.2 8) (4 * s + k) (Int32.ofNat s2.2.1)) 8 = _
      rw [u2_same, u2_ne (by decide), u2_ne (by decide), u2_ne (by decide)]
/-- the class between pieces of a step -/
def XDs (t : RW) (n la i st pa bl dl wc : Nat) (I : Nat → Nat → Int32) (L : Nat → Nat → Int64) : Prop := TX t n la I L ∧ i ≤ la ∧ I 40 4 = Int32.ofNat i ∧ I 40 5 = 0 ∧ I 44 2 = Int32.ofNat st ∧ I 44 3 = Int32.ofNat pa ∧ I 44 5 = Int32.ofNat bl ∧ I 45 4 = Int32.ofNat dl ∧ I 45 5 = Int32.ofNat wc
section STP5
variable {b : Nat} {F : Nat → Option AE} {D E : Nat → Option KD} {I : Nat → Nat → Int32} {L : Nat → Nat → Int64} {P : Nat → Nat → Option Nat} {nx us : Nat}
theorem X_rs {z : ZX} {t : RW} {n la i s k bl dl wc : Nat} {D : DSt} (hz : GZ b F z) (hLA : LA t n la) (hla : la ≤ 400) (hD : DB la i D) (hdl : dl ≤ 118 + D.2.2.1) (h : XDs t n la i D.1 D.2.1 bl dl wc I L) : match dSum t n i s k D with
    | .inl (c, j) => ∃ K, f_X2_readSum (ad b 44) (lay b F E I L P nx us) = some (0, lay b F E (aF K c (pl t n j)) L P nx us) ∧ FXs 0 dl I K
    | .inr (i1, D1) => ∃ K dl1, f_X2_readSum (ad b 44) (lay b F E I L P nx us) = some (1, lay b F E K L P nx us) ∧ XDs t n la i1 D1.1 D1.2.1 bl dl1 wc K L ∧ FXs 0 dl I K ∧ dl ≤ dl1 ∧ dl1 + D.2.2.1 = dl + D1.2.2.1 ∧ SumAt D1.2.2.2.1 (K 46) (K 47) s k dl dl1 := by
  obtain ⟨a1, a2, a3, a4, a5, a6, a7, a8, a9⟩ := h
  have hX : XSt t n la i D.2.1 0 dl (xK I 7 0) L := by
    unfold xK
    exact ⟨a1.fr (by simp (decide := true) only [u2_same, u2_ne, u2_u2, upd_same, upd_ne, mE, u2_dyn, dyn_u2, dyn_hi, u2_hi, u2_hj, u2_dynj, u2_dd, u2_d0, u2_0d]) (by simp (decide := true) only [u2_same, u2_ne, u2_u2, upd_same, upd_ne, mE, u2_dyn, dyn_u2, dyn_hi, u2_hi, u2_hj, u2_dynj, u2_dd, u2_d0, u2_0d]) (by simp (decide := true) only [u2_same, u2_ne, u2_u2, upd_same, upd_ne, mE, u2_dyn, dyn_u2, dyn_hi, u2_hi, u2_hj, u2_dynj, u2_dd, u2_d0, u2_0d]) (by simp (decide := true) only [u2_same, u2_ne, u2_u2, upd_same, upd_ne, mE, u2_dyn, dyn_u2, dyn_hi, u2_hi, u2_hj, u2_dynj, u2_dd, u2_d0, u2_0d]), a2, by simp (decide := true) only [u2_same, u2_ne, u2_u2, upd_same, upd_ne, mE, u2_dyn, dyn_u2, dyn_hi, u2_hi, u2_hj, u2_dynj, u2_dd, u2_d0, u2_0d]; exact a3, by simp (decide := true) only [u2_same, u2_ne, u2_u2, upd_same, upd_ne, mE, u2_dyn, dyn_u2, dyn_hi, u2_hi, u2_hj, u2_dynj, u2_dd, u2_d0, u2_0d]; exact a4, by simp (decide := true) only [u2_same, u2_ne, u2_u2, upd_same, upd_ne, mE, u2_dyn, dyn_u2, dyn_hi, u2_hi, u2_hj, u2_dynj, u2_dd, u2_d0, u2_0d]; exact a6, by simp (decide := true) only [u2_same, u2_ne, u2_u2, upd_same, upd_ne, mE, u2_dyn, dyn_u2, dyn_hi, u2_hi, u2_hj, u2_dynj, u2_dd, u2_d0, u2_0d], by simp (decide := true) only [u2_same, u2_ne, u2_u2, upd_same, upd_ne, mE, u2_dyn, dyn_u2, dyn_hi, u2_hi, u2_hj, u2_dynj, u2_dd, u2_d0, u2_0d]; exact a8⟩
  obtain ⟨x0, -⟩ := X_sum (b := b) (F := F) (E := E) (L := L) (P := P) (nx := nx) (us := us) (z := z) (t := t) (n := n) (la := la) (o := dl) (f0 := D.2.2.1) hz hLA hla hdl 5000 (Nat.le_refl _) 0 (by decide)
  have hmu : mu la 0 i ≤ 5000 := by unfold mu; simp; omega
  have g := x0 0 i (dSs D) (xK I 7 0) dl 0 hmu (Nat.zero_le _) ⟨hX, Nat.le_refl _, trivial, fun j hj => by omega, trivial, by show D.2.2.1 + (dl - dl) + 0 = D.2.2.1; omega⟩ (by omega) (Or.inl rfl) hD.2.2.1 hD.2.2.2
  have hrun : f_X2_readSum (ad b 44) (lay b F E I L P nx us) = p9 z b 0 0 (lay b F E (xK I 7 0) L P nx us) := by
    have hpi : pI 2 (lay b F E I L P nx us) (ad b 44) 7 0 = some (lay b F E (xK I 7 0) L P nx us) := by unfold xK; simp (decide := true) only [isO_s, gI_s, gA_s, gL_s, pI_s, pZ_s, pL_s, aI_s, aL_s, aN_s, aQ_s, sI_s, sL_s, cr, LNs, Option.map_some, Option.map_none, Option.bind_some, b2, tr, lt, if_true, if_false, ckZ, X_within, M_in, inR_z, X_refuse, X_tell, X_deny, X_grant, M_refused, M_denied, M_done, M_granted, u2_same, u2_ne, u2_u2, upd_same, upd_ne, aW0, ixR_z, ixR_1, M_isWall, M_isPainter, M_isWork, X_has4, X_has10, X_at, or_false, false_or, or_true, true_or, not_true, not_false_iff, Option.isSome_some, isO_d, gI_d, gA_d, pI_d, ne_eq, not_false_eq_true, u2_hi, u2_hj, u2_dyn, u2_dynj, Nat.reduceAdd, mX_r, mX_rD, mX_rDj, mM_r, mX_u, mX_uM, mX_uD, mX_uDj, mM_u, mM_uX, mM_uD, mM_uDj, u2_dd, u2_d0, u2_0d]
    unfold p9 f_X2_readSum
    rw [isO_s (by decide), if_pos rfl, hpi]
    rfl
  have hfK : FXs 0 dl I (xK I 7 0) := FXs_K (Or.inr rfl)
  unfold dSum
  cases hout : pS t n 5000 0 i 0 (dSs D) with
  | inl e =>
    obtain ⟨c, j⟩ := e
    rw [hout] at g
    obtain ⟨K, g1, g2⟩ := g
    exact ⟨K, hrun.trans g1, hfK.trans g2 (Nat.le_refl _) (Nat.le_refl _)⟩
  | inr q =>
    obtain ⟨i1, s1⟩ := q
    rw [hout] at g
    obtain ⟨K, T, u, xs, dl2, g1, g2, g3, g4, ⟨w1, w2, w3, w4, w5, w6⟩, g6, g7⟩ := g
    have hops := S0_op g4
    have hbb := pS_b hLA 5000 0 i 0 (dSs D) i1 s1 hD.1 hD.2.2.1 hout
    have e1 : (dSs D).1 = D.2.1 := rfl
    have e2 : (dSs D).2.1 = D.2.2.1 := rfl
    rw [e1, e2] at hbb
    have hit := hD.2.2.2
    obtain ⟨J, y1, y2, y3, y4⟩ := X_settle (b := b) (F := F) (E := E) (L := L) (P := P) (nx := nx) (us := us) (bs := 0) 1 (by decide) xs dl2 K FU (by unfold FU; omega) w1 (by omega) (by omega) hops.2 (Or.inl rfl) w3 w2 w4 w5
    have hset : f_X2_settleSigns (ad b 44) 1 (lay b F E K L P nx us) = some (lay b F E J L P nx us) := by
      unfold f_X2_settleSigns
      rw [isO_s (by decide), if_pos rfl]
      exact y1
    have hsg := X_sign (b := b) (F := F) (E := E) (P := P) (nx := nx) (us := us) w1.1 w1.2.1 w1.2.2.1
    obtain ⟨q1, q2, q3, q4⟩ := (pS_e 5000 0 i 0 (dSs D) i1 s1 hout).2 (Or.inl rfl)
    have hrk := sgn_rk q1 q2 q3 q4
    obtain ⟨u, rfl⟩ : ∃ e, u = e + 1 := ⟨u - 1, by omega⟩
    have hfJ : FXs 0 dl I J := (hfK.trans g7 (Nat.le_refl _) (Nat.le_refl _)).trans y3 (Nat.le_refl _) (by omega)
    refine ⟨J, dl2 + xs.length, ?_, ?_, hfJ, by omega, ?_, ?_⟩
    · rw [hrun, g1]
      unfold p71
      have e0 : (Int32.ofNat 0 ≤ 0) = True := by decide
      have e00 : (Int32.ofNat 0 = 0) = True := by decide
      simp (decide := true) only [f_X2_readSum_71, f_X2_readSum_119, f_X2_readSum_154, f_X2_readSum_159, e0, hsg, X_rank, hrk, hset, e00, isO_s, gI_s, gA_s, gL_s, pI_s, pZ_s, pL_s, aI_s, aL_s, aN_s, aQ_s, sI_s, sL_s, cr, LNs, Option.map_some, Option.map_none, Option.bind_some, b2, tr, lt, if_true, if_false, ckZ, X_within, M_in, inR_z, X_refuse, X_tell, X_deny, X_grant, M_refused, M_denied, M_done, M_granted, u2_same, u2_ne, u2_u2, upd_same, upd_ne, aW0, ixR_z, ixR_1, M_isWall, M_isPainter, M_isWork, X_has4, X_has10, X_at, or_false, false_or, or_true, true_or, not_true, not_false_iff, Option.isSome_some, isO_d, gI_d, gA_d, pI_d, ne_eq, not_false_eq_true, u2_hi, u2_hj, u2_dyn, u2_dynj, Nat.reduceAdd, mX_r, mX_rD, mX_rDj, mM_r, mX_u, mX_uM, mX_uD, mX_uDj, mM_u, mM_uX, mM_uD, mM_uDj, u2_dd, u2_d0, u2_0d]
    · refine ⟨y2.1, y2.2.1, y2.2.2.1, y2.2.2.2.1, ?_, y2.2.2.2.2.1, ?_, y2.2.2.2.2.2.2, ?_⟩
      · rw [hfJ.2.2.1 2 (by decide) (by decide)]; exact a5
      · rw [hfJ.2.2.1 5 (by decide) (by decide)]; exact a7
      · rw [hfJ.2.2.2.1 5 (by decide)]; exact a9
    · show dl2 + xs.length + D.2.2.1 = dl + s1.2.1
      omega
    · obtain ⟨s2, f1, f2, f3, f4, f5, f6, f7, f8, f9, f10⟩ := dSum_fr (t := t) (n := n) (i := i) (s := s) (k := k) (D := D) (i1 := i1) (D1 := dR (dIt (dR D 7 (4 * s + k) (Int32.ofNat D.2.2.1)) s1) 8 (4 * s + k) (Int32.ofNat s1.2.1)) (by unfold dSum; rw [hout])
      rw [hout] at f1
      cases f1
      refine ⟨D.2.2.1, s1.2.1, ?_, ?_, hbb.2.2.2.2.1, by omega, by omega, ?_, ?_⟩
      · rw [f9, upd_same]
      · rw [f10, upd_same]
      · intro j hj
        rw [f4, f5]
        exact y4 j (by omega)
      · rw [f4, f5]
        exact (pS_d 5000 0 i 0 (dSs D) i1 s1 (by decide) hout).2 ⟨by decide, by decide⟩ 0 (by decide)
end STP5
