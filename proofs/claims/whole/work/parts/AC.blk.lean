/-! ===== drawing: steps against deeds ===== -/
/-- the rows of both: the reference's R W, the class's deeds, values, targets, words -/
abbrev BRw : Type := (Nat → RW) × (Nat → Int64) × RW × RW × RW × (Nat → Int64)
/-- step s lies at the deeds from o to o1; ib bounds the items, kb the words -/
def StpD (B : BRw) (ib kb : Nat) (blk : Nat → Nat → Nat → Nat → Prop) (s s1 o o1 : Nat) : Prop := B.2.2.1 o = 0 ∧ B.1 5 s = Int32.ofNat s1 ∧
  ((∃ w N d, ((w = 6 ∧ N = 4 ∧ B.1 1 s = 0) ∨ (w = 7 ∧ N = 3 ∧ B.1 1 s = 1)) ∧ SumsAt B.1 B.2.2.1 B.2.2.2.1 ib s N 0 (o + 1) d ∧ B.2.2.1 d = Int32.ofNat w ∧ TN (B.2.2.2.1 d) (B.1 2 s) ∧ o1 = d + 1 ∧ s1 = s + 1) ∨
  (∃ d k, B.1 1 s = 2 ∧ SumsAt B.1 B.2.2.1 B.2.2.2.1 ib s 2 0 (o + 1) d ∧ B.2.2.1 d = 8 ∧ TN (B.2.2.2.1 d) (B.1 2 s) ∧ k < kb ∧ B.2.2.2.2.1 d = Int32.ofNat k ∧ B.2.2.2.2.2 k = B.2.1 s ∧ LWd B.1 B.2.1 s ∧ o1 = d + 1 ∧ s1 = s + 1) ∨
  (∃ d c, B.1 1 s = 3 ∧ SumsAt B.1 B.2.2.1 B.2.2.2.1 ib s 2 0 (o + 1) d ∧ B.2.2.1 d = 9 ∧ B.2.2.2.1 d = B.1 3 s ∧ (∃ v, v < 5 ∧ B.1 3 s = Int32.ofNat v) ∧ s + 1 < s1 ∧ d + 1 ≤ c ∧ blk (s + 1) s1 (d + 1) c ∧ B.2.2.1 c = 10 ∧ B.2.2.2.2.1 c = Int32.ofNat d ∧ o1 = c + 1 ∧ B.2.2.2.2.1 d = Int32.ofNat o1) ∨
  (∃ d x, B.1 1 s = 4 ∧ SumsAt B.1 B.2.2.1 B.2.2.2.1 ib s 2 0 (o + 1) d ∧ B.2.2.1 d = 11 ∧ B.2.2.2.1 d = x ∧ ((x = 60 ∧ B.1 4 s = 0) ∨ (x = 61 ∧ B.1 4 s = 1) ∨ (x = 62 ∧ B.1 4 s = 2)) ∧ s + 1 < s1 ∧ d + 1 ≤ o1 ∧ blk (s + 1) s1 (d + 1) o1 ∧ B.2.2.2.2.1 d = Int32.ofNat o1))
/-- steps s to e lie at the deeds from o to o', at most q levels deep -/
def Blk (B : BRw) (ib kb : Nat) : Nat → Nat → Nat → Nat → Nat → Nat → Prop
  | 0, _, s, e, o, o' => s = e ∧ o = o'
  | f + 1, q, s, e, o, o' => (s = e ∧ o = o') ∨ ∃ s1 o1, s < s1 ∧ s1 ≤ e ∧ o < o1 ∧ o1 ≤ o' ∧ StpD B ib kb (fun s e o o' => 0 < q ∧ Blk B ib kb f (q - 1) s e o o') s s1 o o1 ∧ Blk B ib kb f q s1 e o1 o'
def bq (B : BRw) (ib kb f q s e o o' : Nat) : Prop := 0 < q ∧ Blk B ib kb f (q - 1) s e o o'
/-- the rows agree where steps s to e and deeds o to o' lie -/
def BAg (B B' : BRw) (ib kb s e o o' : Nat) : Prop := (∀ j, 1 ≤ j → j ≤ 6 → ∀ x, s ≤ x → x < e → B'.1 j x = B.1 j x) ∧ (∀ x, 4 * s ≤ x → x < 4 * e → B'.1 7 x = B.1 7 x ∧ B'.1 8 x = B.1 8 x) ∧ (∀ x, x < ib → B'.1 9 x = B.1 9 x ∧ B'.1 10 x = B.1 10 x) ∧ (∀ x, s ≤ x → x < e → B'.2.1 x = B.2.1 x) ∧ (∀ j, o ≤ j → j < o' → B'.2.2.1 j = B.2.2.1 j ∧ B'.2.2.2.1 j = B.2.2.2.1 j ∧ B'.2.2.2.2.1 j = B.2.2.2.2.1 j) ∧ ∀ k, k < kb → B'.2.2.2.2.2 k = B.2.2.2.2.2 k
theorem BAg.sub {B B' : BRw} {ib kb s e o o' s2 e2 o2 o2' : Nat} (h : BAg B B' ib kb s e o o') (h1 : s ≤ s2) (h2 : e2 ≤ e) (h3 : o ≤ o2) (h4 : o2' ≤ o') : BAg B B' ib kb s2 e2 o2 o2' := ⟨fun j j1 j2 x x1 x2 => h.1 j j1 j2 x (by omega) (by omega), fun x x1 x2 => h.2.1 x (by omega) (by omega), h.2.2.1, fun x x1 x2 => h.2.2.2.1 x (by omega) (by omega), fun j j1 j2 => h.2.2.2.2.1 j (by omega) (by omega), h.2.2.2.2.2⟩
theorem StpD_fr {B B' : BRw} {ib ib' kb kb' : Nat} {blk blk' : Nat → Nat → Nat → Nat → Prop} (hib : ib ≤ ib') (hkb : kb ≤ kb') {s s1 o o1 : Nat} (hs : s < s1) (hA : BAg B B' ib kb s s1 o o1) (hb : ∀ c c', o ≤ c → c' ≤ o1 → blk (s + 1) s1 c c' → blk' (s + 1) s1 c c') (h : StpD B ib kb blk s s1 o o1) : StpD B' ib' kb' blk' s s1 o o1 := by
  have row : ∀ j, 1 ≤ j → j ≤ 6 → B'.1 j s = B.1 j s := fun j j1 j2 => hA.1 j j1 j2 s (Nat.le_refl _) hs
  have sums : ∀ (N d : Nat), N ≤ 4 → d ≤ o1 → SumsAt B.1 B.2.2.1 B.2.2.2.1 ib s N 0 (o + 1) d → SumsAt B'.1 B'.2.2.1 B'.2.2.2.1 ib' s N 0 (o + 1) d := fun N d hN hd hS => SumsAt_fr hib hA.2.2.1 N 0 (o + 1) d (fun x _ x2 => hA.2.1 (4 * s + x) (by omega) (by omega)) (fun j j1 j2 => ⟨(hA.2.2.2.2.1 j (by omega) (by omega)).1, (hA.2.2.2.2.1 j (by omega) (by omega)).2.1⟩) hS
  obtain ⟨h1, h2, h3⟩ := h
  have ho : o < o1 := by
    rcases h3 with ⟨w, N, d, -, q, -, -, e, -⟩ | ⟨d, k, -, q, -, -, -, -, -, -, e, -⟩ | ⟨d, c, -, q, -, -, -, -, hc, -, -, -, e, -⟩ | ⟨d, x, -, q, -, -, -, -, e, -⟩
    · have := SumsAt_le _ _ _ _ q; omega
    · have := SumsAt_le _ _ _ _ q; omega
    · have := SumsAt_le _ _ _ _ q; omega
    · have := SumsAt_le _ _ _ _ q; omega
  refine ⟨by rw [(hA.2.2.2.2.1 o (Nat.le_refl _) ho).1]; exact h1, by rw [row 5 (by decide) (by decide)]; exact h2, ?_⟩
  rcases h3 with ⟨w, N, d, q1, q2, q3, q4, q5, q6⟩ | ⟨d, k, q1, q2, q3, q4, q5, q6, q7, q8, q9, qa⟩ | ⟨d, c, q1, q2, q3, q4, q5, q6, q7, q8, q9, qa, qb, qc⟩ | ⟨d, x, q1, q2, q3, q4, q5, q6, q7, q8, q9⟩
  · have hd := SumsAt_le _ _ _ _ q2
    obtain ⟨d1, d2, d3⟩ := hA.2.2.2.2.1 d (by omega) (by omega)
    refine Or.inl ⟨w, N, d, ?_, sums N d (by omega) (by omega) q2, by rw [d1]; exact q3, by rw [d2, row 2 (by decide) (by decide)]; exact q4, q5, q6⟩
    rw [row 1 (by decide) (by decide)]
    exact q1
  · have hd := SumsAt_le _ _ _ _ q2
    obtain ⟨d1, d2, d3⟩ := hA.2.2.2.2.1 d (by omega) (by omega)
    have hW := hA.2.2.2.1 s (Nat.le_refl _) hs
    refine Or.inr (Or.inl ⟨d, k, by rw [row 1 (by decide) (by decide)]; exact q1, sums 2 d (by decide) (by omega) q2, by rw [d1]; exact q3, by rw [d2, row 2 (by decide) (by decide)]; exact q4, by omega, by rw [d3]; exact q6, by rw [hA.2.2.2.2.2 k q5, hW]; exact q7, ?_, q9, qa⟩)
    unfold LWd at q8 ⊢
    rw [row 6 (by decide) (by decide), hW]
    exact q8
  · have hd := SumsAt_le _ _ _ _ q2
    obtain ⟨d1, d2, d3⟩ := hA.2.2.2.2.1 d (by omega) (by omega)
    obtain ⟨c1, c2, c3⟩ := hA.2.2.2.2.1 c (by omega) (by omega)
    refine Or.inr (Or.inr (Or.inl ⟨d, c, by rw [row 1 (by decide) (by decide)]; exact q1, sums 2 d (by decide) (by omega) q2, by rw [d1]; exact q3, by rw [d2, row 3 (by decide) (by decide)]; exact q4, by rw [row 3 (by decide) (by decide)]; exact q5, q6, q7, hb (d + 1) c (by omega) (by omega) q8, by rw [c1]; exact q9, by rw [c3]; exact qa, qb, by rw [d3]; exact qc⟩))
  · have hd := SumsAt_le _ _ _ _ q2
    obtain ⟨d1, d2, d3⟩ := hA.2.2.2.2.1 d (by omega) (by omega)
    refine Or.inr (Or.inr (Or.inr ⟨d, x, by rw [row 1 (by decide) (by decide)]; exact q1, sums 2 d (by decide) (by omega) q2, by rw [d1]; exact q3, by rw [d2]; exact q4, by rw [row 4 (by decide) (by decide)]; exact q5, q6, q7, hb (d + 1) o1 (by omega) (by omega) q8, by rw [d3]; exact q9⟩))
theorem Blk_fr {B B' : BRw} {ib ib' kb kb' : Nat} (hib : ib ≤ ib') (hkb : kb ≤ kb') : ∀ (f q s e o o' : Nat), BAg B B' ib kb s e o o' → Blk B ib kb f q s e o o' → Blk B' ib' kb' f q s e o o' := by
  intro f
  induction f with
  | zero => intro q s e o o' _ h; exact h
  | succ f ih =>
    intro q s e o o' hA h
    rcases h with h | ⟨s1, o1, h1, h2, h3, h4, h5, h6⟩
    · exact Or.inl h
    · refine Or.inr ⟨s1, o1, h1, h2, h3, h4, ?_, ih q s1 e o1 o' (hA.sub (by omega) (Nat.le_refl _) (by omega) (Nat.le_refl _)) h6⟩
      exact StpD_fr hib hkb h1 (hA.sub (Nat.le_refl _) h2 (Nat.le_refl _) h4) (fun c c' c1 c2 hb => ⟨hb.1, ih (q - 1) (s + 1) s1 c c' (hA.sub (by omega) h2 c1 (by omega)) hb.2⟩) h5
/-- what reading a text leaves alone of the steps before -/
def FRT (D D1 : DSt) : Prop := (∀ j, 1 ≤ j → j ≤ 6 → ∀ x, x < D.1 → D1.2.2.2.1 j x = D.2.2.2.1 j x) ∧ (∀ x, x < 4 * D.1 → D1.2.2.2.1 7 x = D.2.2.2.1 7 x ∧ D1.2.2.2.1 8 x = D.2.2.2.1 8 x) ∧ (∀ x, x < D.1 → D1.2.2.2.2 x = D.2.2.2.2 x) ∧ D.2.2.1 ≤ D1.2.2.1 ∧ (∀ x, x < D.2.2.1 → D1.2.2.2.1 9 x = D.2.2.2.1 9 x ∧ D1.2.2.2.1 10 x = D.2.2.2.1 10 x) ∧ D.1 ≤ D1.1
theorem FRT.trans {D C B : DSt} (h : FRT D C) (h' : FRT C B) : FRT D B := ⟨fun j j1 j2 x hx => (h'.1 j j1 j2 x (Nat.lt_of_lt_of_le hx h.2.2.2.2.2)).trans (h.1 j j1 j2 x hx), fun x hx => ⟨(h'.2.1 x (Nat.lt_of_lt_of_le hx (Nat.mul_le_mul_left 4 h.2.2.2.2.2))).1.trans (h.2.1 x hx).1, (h'.2.1 x (Nat.lt_of_lt_of_le hx (Nat.mul_le_mul_left 4 h.2.2.2.2.2))).2.trans (h.2.1 x hx).2⟩, fun x hx => (h'.2.2.1 x (Nat.lt_of_lt_of_le hx h.2.2.2.2.2)).trans (h.2.2.1 x hx), Nat.le_trans h.2.2.2.1 h'.2.2.2.1, fun x hx => ⟨(h'.2.2.2.2.1 x (Nat.lt_of_lt_of_le hx h.2.2.2.1)).1.trans (h.2.2.2.2.1 x hx).1, (h'.2.2.2.2.1 x (Nat.lt_of_lt_of_le hx h.2.2.2.1)).2.trans (h.2.2.2.2.1 x hx).2⟩, Nat.le_trans h.2.2.2.2.2 h'.2.2.2.2.2⟩
theorem FRT_beg {D : DSt} {w : Int32} : FRT D (dBeg D w) := by
  have e : ∀ j, j ≠ 1 → (dBeg D w).2.2.2.1 j = D.2.2.2.1 j := fun j hj => show u2 D.2.2.2.1 1 (upd (D.2.2.2.1 1) D.1 (mk w)) j = _ from u2_ne hj
  refine ⟨fun j _ _ x hx => ?_, fun x _ => by rw [e 7 (by decide), e 8 (by decide)]; exact ⟨rfl, rfl⟩, fun _ _ => rfl, Nat.le_refl _, fun x _ => by rw [e 9 (by decide), e 10 (by decide)]; exact ⟨rfl, rfl⟩, show D.1 ≤ D.1 + 1 by omega⟩
  by_cases hj : j = 1
  · subst hj
    show u2 D.2.2.2.1 1 (upd (D.2.2.2.1 1) D.1 (mk w)) 1 x = _
    rw [u2_same, upd_ne (by omega)]
  · rw [e j hj]
theorem FRD.t {s : Nat} {D C D1 : DSt} (h : FRD s C D1) (hs : D.1 ≤ s) (hC : FRT D C) (h1 : C.1 = s + 1) : FRT D D1 := ⟨fun j j1 j2 x hx => (h.2.2.1 j j1 j2 x (by omega)).trans (hC.1 j j1 j2 x hx), fun x hx => ⟨(h.2.2.2.2.2.1 x (by omega)).1.trans (hC.2.1 x hx).1, (h.2.2.2.2.2.1 x (by omega)).2.trans (hC.2.1 x hx).2⟩, fun x hx => (h.2.1 x (by omega)).trans (hC.2.2.1 x hx), Nat.le_trans hC.2.2.2.1 h.2.2.2.2.2.2.1, fun x hx => ⟨(h.2.2.2.2.2.2.2 x (Nat.lt_of_lt_of_le hx hC.2.2.2.1)).1.trans (hC.2.2.2.2.1 x hx).1, (h.2.2.2.2.2.2.2 x (Nat.lt_of_lt_of_le hx hC.2.2.2.1)).2.trans (hC.2.2.2.2.1 x hx).2⟩, by rw [h.1, h1]; omega⟩
theorem FRT_end {D D1 : DSt} {s : Nat} (h : FRT D D1) (hs : D.1 ≤ s) : FRT D (dEnd D1 s) := by
  have e : ∀ j, j ≠ 5 → (dEnd D1 s).2.2.2.1 j = D1.2.2.2.1 j := fun j hj => show u2 D1.2.2.2.1 5 (upd (D1.2.2.2.1 5) s (Int32.ofNat D1.1)) j = _ from u2_ne hj
  refine ⟨fun j j1 j2 x hx => ?_, fun x hx => by rw [e 7 (by decide), e 8 (by decide)]; exact h.2.1 x hx, h.2.2.1, h.2.2.2.1, fun x hx => by rw [e 9 (by decide), e 10 (by decide)]; exact h.2.2.2.2.1 x hx, h.2.2.2.2.2⟩
  by_cases hj : j = 5
  · subst hj
    show u2 D1.2.2.2.1 5 (upd (D1.2.2.2.1 5) s (Int32.ofNat D1.1)) 5 x = _
    rw [u2_same, upd_ne (by omega)]
    exact h.1 5 j1 j2 x hx
  · rw [e j hj]
    exact h.1 j j1 j2 x hx
