/-! ===== drawing: the class reads a step ===== -/
theorem xBeg_0 {i st dl : Nat} {I : Nat → Nat → Int32} : xBeg i st dl I 46 dl = 0 := by
  unfold xBeg
  rw [aVv_ne (by decide), xPt_r.2.1, upd_same]
theorem dBeg_1 {D : DSt} {w : Int32} : (dBeg D w).2.2.2.1 1 D.1 = mk w := by
  show u2 D.2.2.2.1 1 (upd (D.2.2.2.1 1) D.1 (mk w)) 1 D.1 = _
  rw [u2_same, upd_same]
theorem ckZ_0 {α : Type} {k : Int32 → Option α} : (ckZ 0).bind k = k 0 := rfl
theorem ckZ_1 {α : Type} {k : Int32 → Option α} : (ckZ 1).bind k = k 1 := rfl
theorem dt_i {i : Nat} {D : DSt} {k : Nat → DSt → DOut} : dThen (.inr (i, D)) k = k i D := rfl
section STP10
variable {b : Nat} {F : Nat → Option AE} {D E : Nat → Option KD} {I : Nat → Nat → Int32} {L : Nat → Nat → Int64} {P : Nat → Nat → Option Nat} {nx us : Nat}
theorem X_stp1 {z : ZX} {t : RW} {n la f bl : Nat} (hz : GZ b F z) (hLA : LA t n la) (hla : la ≤ 400) (hbl : bl ≤ 6)
    (h0 : bl < 6 → ∀ (i : Nat) (D : DSt) (I : Nat → Nat → Int32) (L : Nat → Nat → Int64) (dl wc : Nat), muD la 0 i ≤ f → DB la i D → dl + (bl + 1) ≤ 3 * D.1 + D.2.2.1 → wc ≤ D.1 → XDs t n la i D.1 D.2.1 (bl + 1) dl wc I L → XTo b F E P nx us z t n la (bl + 1) wc dl 0 D I L (pLp z b D.1 (lay b F E I L P nx us)) (dS t n f 0 i (bl + 1) D))
    (i : Nat) (D : DSt) (I : Nat → Nat → Int32) (L : Nat → Nat → Int64) (dl wc : Nat) (hm : muD la 1 i ≤ f + 1) (hD : DB la i D) (hcap : dl + bl ≤ 3 * D.1 + D.2.2.1) (hwc : wc ≤ D.1) (h : XDs t n la i D.1 D.2.1 bl dl wc I L) : XTo b F E P nx us z t n la bl wc dl 1 D I L (pLp z b D.1 (lay b F E I L P nx us)) (dS t n (f + 1) 1 i bl D) := by
  obtain ⟨hil0, h40, h120, hit⟩ := hD
  have h5 := h.2.2.2.2.2.2.1
  obtain ⟨x1, x2, x3, x4⟩ := X_beg (b := b) (F := F) (E := E) (P := P) (nx := nx) (us := us) hz hLA h40 (by omega) h
  simp only [dS]
  by_cases c2 : kd t n (pl t n i) = 2
  · rw [if_neg (fun q => q c2)]
    by_cases cs : skV t n i = -1
    · rw [if_pos cs]
      exact ⟨I, L, X_f0 (by omega) (x2 c2 cs), FXd.refl⟩
    · rw [if_neg cs]
      by_cases c4 : D.1 = 40
      · rw [if_pos c4]
        exact ⟨I, L, X_f0 (by omega) (x3 c2 cs c4), FXd.refl⟩
      · rw [if_neg c4]
        obtain ⟨hX, hrun⟩ := x4 c2 cs (by omega)
        have hil := LA_lt hLA hil0 (show kd t n (pl t n i) ≠ 0 by omega) (show kd t n (pl t n i) ≠ 1 by omega)
        have hxf : FXd bl wc dl I (xBeg i D.1 dl I) L L := xBeg_f
        have hx0 : xBeg i D.1 dl I 46 dl = 0 := xBeg_0
        generalize xBeg i D.1 dl I = Y at *
        have hFB : FRT D (dBeg D (skV t n i)) := FRT_beg
        have hB1 : (dBeg D (skV t n i)).2.2.2.1 1 D.1 = mk (skV t n i) := dBeg_1
        have hBD : DB la (i + 1) (dBeg D (skV t n i)) := ⟨hil, show D.1 + 1 ≤ 40 by omega, h120, hit⟩
        have hBi : (dBeg D (skV t n i)).2.2.1 = D.2.2.1 := rfl
        have hBs : (dBeg D (skV t n i)).1 = D.1 + 1 := rfl
        have hBX : XDs t n la (i + 1) (dBeg D (skV t n i)).1 (dBeg D (skV t n i)).2.1 bl (dl + 1) wc Y L := hX
        generalize hCe : dBeg D (skV t n i) = C at *
        have fin : ∀ {K : Nat → Nat → Int32} {bl' wc' : Nat} {M M' : Nat → Nat → Int64}, FXd bl' wc' (dl + 1) Y K M M' → K 46 dl = 0 := fun hq => (hq.2.2.1 dl (by omega)).1.trans hx0
        rcases skV_c (t := t) (n := n) (i := i) with e | e | e | e | e | e
        · exact absurd e cs
        · rw [e, hd6]
          rw [e, if_pos rfl] at hrun
          rw [e] at hB1
          have g := X_shape (b := b) (F := F) (E := E) (P := P) (nx := nx) (us := us) (s := D.1) (w := 6) (N := 4) hz hLA hla (by decide) (by decide) hBD (by omega) hBX
          cases hout : dThen (dTint t n (i + 1) D.1 C) (fun i D_1 => dSums t n D.1 (fun i D => .inr (i, D)) 4 0 i D_1) with
          | inl q =>
            obtain ⟨x, j⟩ := q
            rw [hout] at g
            obtain ⟨K, g1, g2⟩ := g
            have g1' : f_X2_readShape (ad b 44) 6 4 (lay b F E Y L P nx us) = some (0, lay b F E (aF K x (pl t n j)) L P nx us) := g1
            rw [g1'] at hrun
            exact ⟨K, L, X_f0 (by omega) hrun, hxf.trans g2.d (Nat.le_refl _) (Nat.le_refl _) (by omega)⟩
          | inr q =>
            obtain ⟨i1, D1⟩ := q
            rw [hout] at g
            obtain ⟨K, d, g1, g2, g3, g4, g5, g6, g7, g8, g9, ga⟩ := g
            have g1' : f_X2_readShape (ad b 44) 6 4 (lay b F E Y L P nx us) = some (1, lay b F E K L P nx us) := g1
            rw [g1'] at hrun
            have hd1 : D1.1 = D.1 + 1 := g9.1.trans hBs
            have hg3 : FXd bl wc (dl + 1) Y K L L := g3.d
            exact X_smp (by omega) h5 hbl hrun hd1 g2 (hxf.trans hg3 (Nat.le_refl _) (Nat.le_refl _) (by omega)) (by omega) (by omega) (Nat.le_refl _) (by omega) (g9.t (Nat.le_refl _) hFB hBs) (fin hg3) (Or.inl ⟨6, 4, Or.inl ⟨rfl, rfl, by rw [g9.2.2.2.1, hB1]; decide⟩, g6, g7, g8⟩)
        · rw [e, hd7]
          rw [e, if_neg (by decide), if_pos rfl] at hrun
          rw [e] at hB1
          have g := X_shape (b := b) (F := F) (E := E) (P := P) (nx := nx) (us := us) (s := D.1) (w := 7) (N := 3) hz hLA hla (by decide) (by decide) hBD (by omega) hBX
          cases hout : dThen (dTint t n (i + 1) D.1 C) (fun i D_1 => dSums t n D.1 (fun i D => .inr (i, D)) 3 0 i D_1) with
          | inl q =>
            obtain ⟨x, j⟩ := q
            rw [hout] at g
            obtain ⟨K, g1, g2⟩ := g
            have g1' : f_X2_readShape (ad b 44) 7 3 (lay b F E Y L P nx us) = some (0, lay b F E (aF K x (pl t n j)) L P nx us) := g1
            rw [g1'] at hrun
            exact ⟨K, L, X_f0 (by omega) hrun, hxf.trans g2.d (Nat.le_refl _) (Nat.le_refl _) (by omega)⟩
          | inr q =>
            obtain ⟨i1, D1⟩ := q
            rw [hout] at g
            obtain ⟨K, d, g1, g2, g3, g4, g5, g6, g7, g8, g9, ga⟩ := g
            have g1' : f_X2_readShape (ad b 44) 7 3 (lay b F E Y L P nx us) = some (1, lay b F E K L P nx us) := g1
            rw [g1'] at hrun
            have hd1 : D1.1 = D.1 + 1 := g9.1.trans hBs
            have hg3 : FXd bl wc (dl + 1) Y K L L := g3.d
            exact X_smp (by omega) h5 hbl hrun hd1 g2 (hxf.trans hg3 (Nat.le_refl _) (Nat.le_refl _) (by omega)) (by omega) (by omega) (Nat.le_refl _) (by omega) (g9.t (Nat.le_refl _) hFB hBs) (fin hg3) (Or.inl ⟨7, 3, Or.inr ⟨rfl, rfl, by rw [g9.2.2.2.1, hB1]; decide⟩, g6, g7, g8⟩)
        · rw [e]
          rw [e, if_neg (by decide), if_neg (by decide), if_pos rfl] at hrun
          rw [e] at hB1
          have g := X_say (b := b) (F := F) (E := E) (P := P) (nx := nx) (us := us) (s := D.1) hz hLA hla hBD (by omega) (by omega) hBX
          cases hout : dHd t n (i + 1) D.1 8 C with
          | inl q =>
            obtain ⟨x, j⟩ := q
            rw [hout] at g
            obtain ⟨K, g1, g2⟩ := g
            rw [g1] at hrun
            exact ⟨K, L, X_f0 (by omega) hrun, hxf.trans g2.d (Nat.le_refl _) (Nat.le_refl _) (by omega)⟩
          | inr q =>
            obtain ⟨i1, D1⟩ := q
            rw [hout] at g
            obtain ⟨K, M, d, g1, g2, g3, g4, g5, g6, g7, g8, ga, gb, gc, g9, gd⟩ := g
            rw [g1] at hrun
            have hd1 : D1.1 = D.1 + 1 := g9.1.trans hBs
            exact X_smp (by omega) h5 hbl hrun hd1 g2 (hxf.trans g3 (Nat.le_refl _) (Nat.le_refl _) (by omega)) (by omega) (by omega) (by omega) (by omega) (g9.t (Nat.le_refl _) hFB hBs) (fin g3) (Or.inr ⟨wc, by rw [g9.2.2.2.1, hB1]; decide, g6, g7, g8, by omega, ga, gb, gc⟩)
        · rw [e]
          rw [e, if_neg (by decide), if_neg (by decide), if_neg (by decide), if_pos rfl] at hrun
          rw [e] at hB1
          have g := X_each (b := b) (F := F) (E := E) (P := P) (nx := nx) (us := us) (s := D.1) hz hLA hla hBD (by omega) hBX
          cases hout : dHd t n (i + 1) D.1 9 C with
          | inl q =>
            obtain ⟨x, j⟩ := q
            rw [hout] at g
            obtain ⟨K, g1, g2⟩ := g
            rw [g1] at hrun
            exact ⟨K, L, X_f0 (by omega) hrun, hxf.trans g2.d (Nat.le_refl _) (Nat.le_refl _) (by omega)⟩
          | inr q =>
            obtain ⟨i1, D1⟩ := q
            have hbb := dHd_b hLA hBD hout
            rw [hout] at g
            obtain ⟨K, d, g1, g2, g3, g4, g5, g6, g7, g9, gd⟩ := g
            have hd1 : D1.1 = D.1 + 1 := g9.1.trans hBs
            have hg3 : FXd bl wc (dl + 1) Y K L L := g3.d
            have hv : VL (D1.2.2.2.1 3 D.1) := by
              obtain ⟨v, v1, v2⟩ := g7
              exact Or.inr ⟨v, by omega, v2⟩
            rw [dt_i, if_pos (Or.inl rfl)]
            refine X_blk (w := 9) (K := K) hLA hbl hv h0 hm (by omega) (by omega) h5 hbb.1 hd1 g2 (hxf.trans hg3 (Nat.le_refl _) (Nat.le_refl _) (by omega)) (by omega) (by omega) hwc (g9.t (Nat.le_refl _) hFB hBs) (fin hg3) g6 (Or.inl ⟨rfl, by rw [g9.2.2.2.1, hB1]; decide, rfl, g7⟩) ?_
            rw [hrun, g1]
            have hopn := X_open (b := b) (F := F) (E := E) (P := P) (nx := nx) (us := us) (w := 9) (v := D1.2.2.2.1 3 D.1) hLA hbl (by decide) hv (by have := hbb.1.2.2.1; have := hbb.1.2.2.2; omega) g2
            have hopn' : f_X2_openBracket (ad b 44) 9 (D1.2.2.2.1 3 D.1) (lay b F E K L P nx us) = _ := hopn
            rw [hopn']
            have hopn'' : f_X2_openBracket (ad b 44) (Int32.ofNat 9) (D1.2.2.2.1 3 D.1) (lay b F E K L P nx us) = _ := hopn
            rw [hopn'']
            split
            · rfl
            · split
              · rfl
              · rfl
        · rw [e]
          rw [e, if_neg (by decide), if_neg (by decide), if_neg (by decide), if_neg (by decide)] at hrun
          rw [e] at hB1
          have g := X_if (b := b) (F := F) (E := E) (P := P) (nx := nx) (us := us) (s := D.1) hz hLA hla hBD (by omega) hBX
          cases hout : dHd t n (i + 1) D.1 11 C with
          | inl q =>
            obtain ⟨x, j⟩ := q
            rw [hout] at g
            obtain ⟨K, g1, g2⟩ := g
            rw [g1] at hrun
            exact ⟨K, L, X_f0 (by omega) hrun, hxf.trans g2.d (Nat.le_refl _) (Nat.le_refl _) (by omega)⟩
          | inr q =>
            obtain ⟨i1, D1⟩ := q
            have hbb := dHd_b hLA hBD hout
            rw [hout] at g
            obtain ⟨K, d, c, g1, g2, g3, g4, g5, g6, g7, g9, gd⟩ := g
            have hd1 : D1.1 = D.1 + 1 := g9.1.trans hBs
            have hg3 : FXd bl wc (dl + 1) Y K L L := g3.d
            have hv : VL c := by
              rcases g7 with ⟨q, -⟩ | ⟨q, -⟩ | ⟨q, -⟩
              · exact Or.inr ⟨60, by omega, q⟩
              · exact Or.inr ⟨61, by omega, q⟩
              · exact Or.inr ⟨62, by omega, q⟩
            rw [dt_i, if_pos (Or.inr rfl)]
            refine X_blk (w := 11) (K := K) hLA hbl hv h0 hm (by omega) (by omega) h5 hbb.1 hd1 g2 (hxf.trans hg3 (Nat.le_refl _) (Nat.le_refl _) (by omega)) (by omega) (by omega) hwc (g9.t (Nat.le_refl _) hFB hBs) (fin hg3) g6 (Or.inr ⟨rfl, by rw [g9.2.2.2.1, hB1]; decide, g7⟩) ?_
            rw [hrun, g1]
            have hopn := X_open (b := b) (F := F) (E := E) (P := P) (nx := nx) (us := us) (w := 11) (v := c) hLA hbl (by decide) hv (by have := hbb.1.2.2.1; have := hbb.1.2.2.2; omega) g2
            have hopn' : f_X2_openBracket (ad b 44) 11 c (lay b F E K L P nx us) = _ := hopn
            rw [hopn']
            have hopn'' : f_X2_openBracket (ad b 44) (Int32.ofNat 11) c (lay b F E K L P nx us) = _ := hopn
            rw [hopn'']
            split
            · rfl
            · split
              · rfl
              · rfl
  · rw [if_pos c2]
    exact ⟨I, L, X_f0 (by omega) (x1 c2), FXd.refl⟩
/-- the class reads texts and steps as they say -/
theorem X_rdS {z : ZX} {t : RW} {n la : Nat} (hz : GZ b F z) (hLA : LA t n la) (hla : la ≤ 400) : ∀ (f bl : Nat), bl ≤ 6 →
    (∀ (i : Nat) (D : DSt) (I : Nat → Nat → Int32) (L : Nat → Nat → Int64) (dl wc : Nat), muD la 0 i ≤ f → DB la i D → dl + bl ≤ 3 * D.1 + D.2.2.1 → wc ≤ D.1 → XDs t n la i D.1 D.2.1 bl dl wc I L → XTo b F E P nx us z t n la bl wc dl 0 D I L (pLp z b D.1 (lay b F E I L P nx us)) (dS t n f 0 i bl D)) ∧
    (∀ (i : Nat) (D : DSt) (I : Nat → Nat → Int32) (L : Nat → Nat → Int64) (dl wc : Nat), muD la 1 i ≤ f → DB la i D → dl + bl ≤ 3 * D.1 + D.2.2.1 → wc ≤ D.1 → XDs t n la i D.1 D.2.1 bl dl wc I L → XTo b F E P nx us z t n la bl wc dl 1 D I L (pLp z b D.1 (lay b F E I L P nx us)) (dS t n f 1 i bl D)) := by
  intro f
  induction f with
  | zero =>
    intro bl _
    refine ⟨?_, ?_⟩
    · intro i D I L dl wc hm; unfold muD at hm; simp at hm
    · intro i D I L dl wc hm; unfold muD at hm; simp at hm
  | succ f ih =>
    intro bl hbl
    refine ⟨fun i D I L dl wc hm hD hcap hwc h => X_text0 hLA hbl (ih bl hbl).2 (ih bl hbl).1 i D I L dl wc hm hD hcap hwc h, fun i D I L dl wc hm hD hcap hwc h => X_stp1 hz hLA hla hbl (fun hb => (ih (bl + 1) (by omega)).1) i D I L dl wc hm hD hcap hwc h⟩
end STP10
