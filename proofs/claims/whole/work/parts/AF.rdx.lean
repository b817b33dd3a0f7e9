/-! ===== drawing: the class reads a text, whole ===== -/
abbrev bRw (D : DSt) (K : Nat → Nat → Int32) (M : Nat → Nat → Int64) : BRw := (D.2.2.2.1, D.2.2.2.2, K 46, K 47, K 48, M 49)
def XTo (b : Nat) (F : Nat → Option AE) (E : Nat → Option KD) (P : Nat → Nat → Option Nat) (nx us : Nat) (z : ZX) (t : RW) (n la bl wc dl m : Nat) (D : DSt) (I : Nat → Nat → Int32) (L : Nat → Nat → Int64) (run : Option AH) (out : DOut) : Prop := match out with
  | .inl (c, j) => ∃ K M, run = some (lay b F E (aF K c (pl t n j)) M P nx us) ∧ FXd bl wc dl I K L M
  | .inr (i1, D1) => ∃ K M u dl1 wc1, run = pA z b (D1.1 - 1) (u + 1) (lay b F E K M P nx us) ∧ bl ≤ u ∧ XDs t n la i1 D1.1 D1.2.1 bl dl1 wc1 K M ∧ FXd bl wc dl I K L M ∧ dl < dl1 ∧ wc ≤ wc1 ∧ dl1 + bl ≤ 3 * D1.1 + D1.2.2.1 ∧ wc1 ≤ D1.1 ∧ FRT D D1 ∧ (m = 1 → ∀ g, D1.1 ≤ D.1 + 1 + g → StpD (bRw D1 K M) D1.2.2.1 wc1 (bq (bRw D1 K M) D1.2.2.1 wc1 g (6 - bl)) D.1 D1.1 dl dl1) ∧ (m = 0 → ∀ g, D1.1 ≤ D.1 + g → Blk (bRw D1 K M) D1.2.2.1 wc1 g (6 - bl) D.1 D1.1 dl dl1)
theorem Blk_nil {B : BRw} {ib kb : Nat} : ∀ (g q s o : Nat), Blk B ib kb g q s s o o := by
  intro g q s o
  cases g with
  | zero => exact ⟨rfl, rfl⟩
  | succ g => exact Or.inl ⟨rfl, rfl⟩
theorem FXd_V {bl wc dl j : Nat} {I : Nat → Nat → Int32} {L : Nat → Nat → Int64} : FXd bl wc dl I (aVv I j) L L := (FXs_V (sc := 0)).d
section RDX
variable {b : Nat} {F : Nat → Option AE} {D E : Nat → Option KD} {I : Nat → Nat → Int32} {L : Nat → Nat → Int64} {P : Nat → Nat → Option Nat} {nx us : Nat}
theorem X_text0 {z : ZX} {t : RW} {n la f bl : Nat} (hLA : LA t n la) (hbl : bl ≤ 6) (h1 : ∀ (i : Nat) (D : DSt) (I : Nat → Nat → Int32) (L : Nat → Nat → Int64) (dl wc : Nat), muD la 1 i ≤ f → DB la i D → dl + bl ≤ 3 * D.1 + D.2.2.1 → wc ≤ D.1 → XDs t n la i D.1 D.2.1 bl dl wc I L → XTo b F E P nx us z t n la bl wc dl 1 D I L (pLp z b D.1 (lay b F E I L P nx us)) (dS t n f 1 i bl D)) (h0 : ∀ (i : Nat) (D : DSt) (I : Nat → Nat → Int32) (L : Nat → Nat → Int64) (dl wc : Nat), muD la 0 i ≤ f → DB la i D → dl + bl ≤ 3 * D.1 + D.2.2.1 → wc ≤ D.1 → XDs t n la i D.1 D.2.1 bl dl wc I L → XTo b F E P nx us z t n la bl wc dl 0 D I L (pLp z b D.1 (lay b F E I L P nx us)) (dS t n f 0 i bl D)) (i : Nat) (D : DSt) (I : Nat → Nat → Int32) (L : Nat → Nat → Int64) (dl wc : Nat) (hm : muD la 0 i ≤ f + 1) (hD : DB la i D) (hcap : dl + bl ≤ 3 * D.1 + D.2.2.1) (hwc : wc ≤ D.1) (h : XDs t n la i D.1 D.2.1 bl dl wc I L) : XTo b F E P nx us z t n la bl wc dl 0 D I L (pLp z b D.1 (lay b F E I L P nx us)) (dS t n (f + 1) 0 i bl D) := by
  unfold muD at hm
  simp at hm
  have g := h1 i D I L dl wc (by unfold muD; simp; omega) hD hcap hwc h
  simp only [dS]
  cases hout : dS t n f 1 i bl D with
  | inl e =>
    obtain ⟨c, j⟩ := e
    rw [hout] at g
    exact g
  | inr q =>
    obtain ⟨i1, D1⟩ := q
    have hb := dS_b hLA f 1 i bl D i1 D1 hD hout
    rw [hout] at g
    obtain ⟨K, M, u, dl1, wc1, g1, g2, g3, g4, g5, g6, g7, g8, g9, ga, -⟩ := g
    have ga := ga rfl
    obtain ⟨x1, x2, x3, x4⟩ := X_aft (b := b) (F := F) (E := E) (P := P) (nx := nx) (us := us) (z := z) (T := D1.1 - 1) (u := u) hLA hbl g3
    show XTo b F E P nx us z t n la bl wc dl 0 D I L (pLp z b D.1 (lay b F E I L P nx us)) (if isC t n i1 59 then dS t n f 0 (i1 + 1) bl D1 else .inr (i1, D1))
    by_cases c59 : isC t n i1 59
    · rw [if_pos c59]
      have hil := isC_lt hLA hb.1.1 c59
      have hX := g3.adv hil
      have y := h0 (i1 + 1) D1 (aVv K (i1 + 1)) M dl1 wc1 (by unfold muD; simp; omega) ⟨hil, hb.1.2⟩ g7 g8 hX
      have e1 : D1.1 - 1 + 1 = D1.1 := by omega
      rw [g1, x1 c59, e1]
      have hf : FXd bl wc dl I (aVv K (i1 + 1)) L M := g4.trans FXd_V (Nat.le_refl _) (Nat.le_refl _) (Nat.le_refl _)
      cases hout2 : dS t n f 0 (i1 + 1) bl D1 with
      | inl e =>
        obtain ⟨c, j⟩ := e
        rw [hout2] at y
        obtain ⟨K2, M2, y1, y2⟩ := y
        exact ⟨K2, M2, y1, hf.trans y2 (Nat.le_refl _) g6 (by omega)⟩
      | inr q =>
        obtain ⟨i2, D2⟩ := q
        have hb2 := dS_b hLA f 0 (i1 + 1) bl D1 i2 D2 ⟨hil, hb.1.2⟩ hout2
        rw [hout2] at y
        obtain ⟨K2, M2, u2', dl2, wc2, y1, y2, y3, y4, y5, y6, y7, y8, y9, -, yb⟩ := y
        have yb := yb rfl
        refine ⟨K2, M2, u2', dl2, wc2, y1, y2, y3, hf.trans y4 (Nat.le_refl _) g6 (by omega), by omega, by omega, y7, y8, g9.trans y9, fun q => by omega, fun _ g hg => ?_⟩
        obtain ⟨g, rfl⟩ : ∃ e, g = e + 1 := ⟨g - 1, by omega⟩
        refine Or.inr ⟨D1.1, dl1, hb.2.2, by omega, g5, by omega, ?_, yb g (by omega)⟩
        have hA : BAg (bRw D1 K M) (bRw D2 K2 M2) D1.2.2.1 wc1 D.1 D1.1 dl dl1 := ⟨fun j j1 j2 x _ x2 => y9.1 j j1 j2 x x2, fun x _ x2 => y9.2.1 x x2, y9.2.2.2.2.1, fun x _ x2 => y9.2.2.1 x x2, fun j _ j2 => by
          obtain ⟨a1, a2, a3⟩ := y4.2.2.1 j j2
          rw [aVv_ne (by decide)] at a1 a2 a3
          exact ⟨a1, a2, a3⟩, fun k hk => y4.2.2.2.2.2.1 k hk⟩
        exact StpD_fr y9.2.2.2.1 y6 hb.2.2 hA (fun c c' c1 c2 hbk => ⟨hbk.1, Blk_fr y9.2.2.2.1 y6 g (6 - bl - 1) (D.1 + 1) D1.1 c c' (hA.sub (by omega) (Nat.le_refl _) c1 c2) hbk.2⟩) (ga g (by omega))
    · rw [if_neg c59]
      refine ⟨K, M, u, dl1, wc1, g1, g2, g3, g4, g5, g6, g7, g8, g9, fun q => by omega, fun _ g hg => ?_⟩
      have := hb.2.2
      obtain ⟨g, rfl⟩ : ∃ e, g = e + 1 := ⟨g - 1, by omega⟩
      exact Or.inr ⟨D1.1, dl1, hb.2.2, Nat.le_refl _, g5, Nat.le_refl _, ga g (by omega), Blk_nil g _ _ _⟩
end RDX
