/-! ===== the groups of the relation: class rows against reference rows ===== -/
abbrev RW : Type := Nat → Int32
/-- kinds of a wall's cells -/
def WK (E : Nat → Option KD) (c n : Nat) : Prop := E (149 + c) = some (.inr (8, true)) ∧ E (149 + c + 1) = some (.inl (2, n)) ∧ E (149 + c + 2) = some (.inl (1, n)) ∧ E (149 + c + 3) = some (.inl (1, n)) ∧ E (149 + c + 4) = some (.inl (1, n))
def WA (nw : Nat) (q wd hg ow : Nat → Nat) (E : Nat → Option KD) (P2 : Nat → Option Nat) : Prop := ∀ w, w < nw → P2 w = some (149 + q w) ∧ WK E (q w) (wd w * hg w) ∧ 1 ≤ wd w ∧ wd w ≤ 16 ∧ 1 ≤ hg w ∧ hg w ≤ 12 ∧ (∀ w', w' < nw → w ≠ w' → q w + 5 ≤ q w' ∨ q w' + 5 ≤ q w) ∧ ∀ i, i < 5 → ow (q w + i) = 1
def WB (nw : Nat) (q wd hg : Nat → Nat) (G : Nat → RW) (m73 m74 : RW) : Prop := ∀ w, w < nw → G (q w) 0 = Int32.ofNat (wd w) ∧ G (q w) 1 = Int32.ofNat (hg w) ∧ m73 w = Int32.ofNat (wd w) ∧ m74 w = Int32.ofNat (hg w)
def WC (nw : Nat) (q : Nat → Nat) (G : Nat → RW) (m75 m76 m79 : RW) : Prop := ∀ w, w < nw → G (q w) 2 = m75 w ∧ (m75 w = 0 ∨ m75 w = 1 ∨ m75 w = 2 ∨ m75 w = 3) ∧ G (q w) 3 = m76 w ∧ G (q w) 7 = m79 w ∧ 0 ≤ m79 w ∧ m79 w ≤ 1023
def WD (nw : Nat) (q : Nat → Nat) (td : Int32) (G : Nat → RW) (m77 m78 m83 : RW) : Prop := ∀ w, w < nw → G (q w) 6 = m83 w ∧ (m83 w = 0 ∨ m83 w = 1) ∧ ∀ y, td / 365 ≤ y → inR y (G (q w) 4) (G (q w) 5) = inR y (m77 w) (m78 w)
/-- open and latest works of a wall -/
def WE (nw nk : Nat) (q : Nat → Nat) (G : Nat → RW) (m80 m81 m82 wW ov : RW) : Prop := (∀ w, w < nw → G (q w) 8 = m80 w ∧ G (q w) 9 = m81 w ∧ m82 w = (if m80 w ≠ -2 then m80 w else if m81 w ≠ -2 then m81 w else -1) ∧ (m80 w = -2 ∨ ∃ k, k < nk ∧ m80 w = Int32.ofNat k ∧ wW k = Int32.ofNat w ∧ ov k = -2) ∧ (m81 w = -2 ∨ ∃ k, k < nk ∧ m81 w = Int32.ofNat k ∧ ov k ≠ -2 ∧ G (q w) 10 = ov k)) ∧ ∀ k w, k < nk → w < nw → ov k = -2 → wW k = Int32.ofNat w → m80 w = Int32.ofNat k
def WF (nw : Nat) (q wd hg : Nat → Nat) (G : Nat → RW) (m84 : RW) : Prop := ∀ w, w < nw → ∀ c, c < 192 → (m84 (192 * w + c) = 0 ∨ m84 (192 * w + c) = 1) ∧ (c < wd w * hg w → G (q w + 1) c = m84 (192 * w + c)) ∧ (wd w * hg w ≤ c → m84 (192 * w + c) = 0)
def WG (nw : Nat) (q wd hg : Nat → Nat) (G : Nat → RW) (m84 m86 : RW) : Prop := ∀ w, w < nw → ∀ c, c < wd w * hg w → G (q w + 2) c = m86 (192 * w + c) ∧ -1 ≤ m86 (192 * w + c) ∧ m86 (192 * w + c) ≤ 7 ∧ (m84 (192 * w + c) ≠ 0 → m86 (192 * w + c) = -1)
def WH (nw nt : Nat) (q wd hg : Nat → Nat) (G : Nat → RW) (m81 m86 m87 m88 : RW) : Prop := ∀ w, w < nw → ∀ c, c < wd w * hg w → (m86 (192 * w + c) = -1 → G (q w + 3) c = -2) ∧ (m86 (192 * w + c) ≠ -1 → G (q w + 3) c = m88 (192 * w + c) ∧ m87 (192 * w + c) = m81 w ∧ m81 w ≠ -2 ∧ (m88 (192 * w + c) = -2 ∨ ∃ t, t < nt ∧ m88 (192 * w + c) = Int32.ofNat t))
def WI (nw : Nat) (q wd hg : Nat → Nat) (G : Nat → RW) (m80 m84 m132 : RW) : Prop := ∀ w, w < nw → ∀ k, k < 40 → m80 w = Int32.ofNat k → ∀ c, c < wd w * hg w → G (q w + 4) c = m132 (192 * k + c) ∧ -1 ≤ m132 (192 * k + c) ∧ m132 (192 * k + c) ≤ 7 ∧ (m84 (192 * w + c) ≠ 0 → m132 (192 * k + c) = -1)
def WU (nw : Nat) (m79 m83 m84 m86 : RW) : Prop := ∀ w, nw ≤ w → w < 16 → m79 w = 0 ∧ m83 w = 0 ∧ ∀ c, c < 192 → m84 (192 * w + c) = 0 ∧ m86 (192 * w + c) = -1
def GLift (x y : Int32) : Prop := x = y ∧ 1 ≤ y ∧ y ≤ 5
def GTag (ng nw td : Nat) (x34 x35 x36 m139 m140 m141 : RW) : Prop := ∀ k, k < ng → x34 k = m139 k ∧ x35 k = m140 k ∧ x36 k = m141 k ∧ (∃ w, w < nw ∧ m139 k = Int32.ofNat w) ∧ (∃ d, d < 3700 ∧ m140 k = Int32.ofNat d) ∧ (m141 k = -1 ∨ ∃ d, d ≤ td ∧ m141 k = Int32.ofNat d)
/-- the bit j of x -/
def btI (x : Int32) (j : Nat) : Prop := (x >>> (Int32.ofNat j &&& 31)) &&& 1 = 1
def gdD (dg rn : Int32) : Prop := dg ≠ 1000000 ∧ 10 ≤ dg ∧ rn = 0
def GWea (x23 : RW) (lg : Int32) (m133 m134 : RW) : Prop := -1 ≤ lg ∧ lg ≤ 3649 ∧ ∀ d, d < 3650 → (btI (x23 (d / 32)) (d % 32) ↔ gdD (m133 d) (m134 d)) ∧ (gdD (m133 d) (m134 d) → Int32.ofNat d ≤ lg)
def GBes (x3 m85 : RW) : Prop := ∀ i j, i < 16 → j < 16 → (m85 (16 * i + j) = 0 ∨ m85 (16 * i + j) = 1) ∧ (i ≠ j → (btI (x3 i) j ↔ m85 (16 * i + j) = 1)) ∧ (i = j → m85 (16 * i + j) = 0)
def GWay (x4 m89 : RW) : Prop := ∀ i j, i < 16 → j < 16 → (i ≠ j → x4 (16 * i + j) = m89 (16 * i + j) ∧ 1 ≤ m89 (16 * i + j) ∧ m89 (16 * i + j) ≤ 120) ∧ (i = j → x4 (16 * i + j) = 0)
def GPai (np : Nat) (x6 x7 m111 m112 : RW) : Prop := ∀ k, k < np → x6 k = m111 k ∧ x7 k = m112 k ∧ 0 ≤ m111 k ∧ m111 k ≤ 5 ∧ 0 ≤ m112 k ∧ m112 k ≤ 99
def GWis (x9 m113 : RW) : Prop := ∀ k, k < 160 → x9 k = m113 k ∧ 0 ≤ m113 k ∧ m113 k ≤ 9
def GVot (nv np nw : Nat) (x10 x11 x12 m114 m115 m116 m117 : RW) : Prop := (∀ k, k < nv → ∃ p w v, p < np ∧ w < nw ∧ v < 100 ∧ m114 k = Int32.ofNat v ∧ m115 k = Int32.ofNat p ∧ m116 k = Int32.ofNat w ∧ x11 k = Int32.ofNat ((p * 16 + w) * 100 + v) ∧ x12 k = m117 k ∧ 0 ≤ m117 k ∧ m117 k ≤ 5) ∧ (∀ j k, j < k → k < nv → x11 j ≠ x11 k) ∧ ∀ p w, p < 10 → w < 16 → x10 (p * 16 + w) = sm (fun k => if m115 k = Int32.ofNat p ∧ m116 k = Int32.ofNat w then m117 k else 0) 0 nv
def GBeg (nk : Nat) (x8 m124 : RW) : Prop := ∀ p, p < 10 → x8 p = sm (fun k => if m124 k = Int32.ofNat p then 1 else 0) 0 nk
/-- days done of a work against its state and what is left of it -/
def WST (nd did st lf co : Int32) : Prop := 1 ≤ co ∧ co ≤ 8 ∧ nd = 3 + co ∧ ((st = 0 ∧ did = 0 ∧ lf = 1) ∨ (st = 1 ∧ did = 3 - lf ∧ 1 ≤ lf ∧ lf ≤ 2) ∨ (st = 2 ∧ did = nd - lf ∧ 1 ≤ lf ∧ lf ≤ co) ∨ (st = 3 ∧ did = nd ∧ lf = 0))
def GWrk (nk nw np nd td : Nat) (x14 x15 x16 x17 x18 x20 x21 x22 m123 m124 m125 m126 m127 m128 m129 m130 m131 : RW) : Prop := ∀ k, k < nk → x14 k = m123 k ∧ (∃ w, w < nw ∧ m123 k = Int32.ofNat w) ∧ x15 k = m124 k ∧ (∃ p, p < np ∧ m124 k = Int32.ofNat p) ∧ x16 k = m125 k ∧ (∃ d, d < nd ∧ m125 k = Int32.ofNat d) ∧ WST (x17 k) (x18 k) (m126 k) (m127 k) (m128 k) ∧ x20 k = m129 k ∧ (m126 k ≠ 3 → m129 k = -2) ∧ (m129 k = -2 ∨ ∃ d, d ≤ td ∧ m129 k = Int32.ofNat d) ∧ x21 k = m130 k ∧ x22 k = m131 k
/-- what is over was finished (between days) -/
def GWo (nk : Nat) (m126 m129 : RW) : Prop := ∀ k, k < nk → m126 k = 3 → m129 k ≠ -2
def GGiv (nw : Nat) (x32 m121 : RW) (g : Int32) : Prop := (g = 0 → ∀ w, w < 16 → x32 w = -1) ∧ (g ≠ 0 → ∀ w, w < 16 → x32 w = m121 w ∧ (nw ≤ w → m121 w = -1))
def GTap (x39 m91 : RW) : Prop := ∀ k, k < 400 → x39 k = m91 k ∧ -128 ≤ m91 k ∧ m91 k ≤ 127
/-- the number of bits of a small number -/
def bcI (x : Int32) (n : Nat) : Int32 := sm (fun i => if (x >>> (Int32.ofNat i &&& 31)) &&& 1 = 1 then 1 else 0) 0 n
def GSk (r58 : RW) (x59 m110 : RW) (w52 w53 w54 w55 w56 w57 : Int32) : Prop := (w56 = 0 ∧ r58 3 = 0 ∧ r58 1 = 0 ∧ r58 2 = 0) ∨ (w56 = 1 ∧ r58 3 = 1 ∧ r58 1 = w52 ∧ r58 2 = w53 ∧ (∃ x, 1 ≤ x ∧ x ≤ 16 ∧ w52 = Int32.ofNat x) ∧ (∃ y, 1 ≤ y ∧ y ≤ 12 ∧ w53 = Int32.ofNat y) ∧ r58 4 = w54 ∧ r58 5 = w57 ∧ (w57 = 0 ∨ w57 = 1) ∧ bcI (r58 6) 12 = w55 ∧ 0 ≤ r58 6 ∧ r58 6 < 4096 ∧ ∀ c, c < 192 → x59 c = m110 c ∧ -1 ≤ m110 c ∧ m110 c ≤ 7)
/-- the fades below the base -/
def FZ (b : Nat) (F : Nat → Option AE) (a : Nat) : Prop := a < b ∧ ∃ fd : Nat → Int32, F a = some (.inl (20, 4, .inl fd)) ∧ fd 0 = 1 ∧ fd 1 = 2 ∧ fd 2 = 3 ∧ fd 3 = 2
theorem Fr.dyn {I J : Nat → Nat → Int32} {T : List (Nat × Nat)} {R : List Nat} (h : Fr I J T R) (h1 : T.all (fun q => q.1 < 149) = true) (h2 : R.all (fun q => q < 149) = true) : dyn J = dyn I := by
  funext q
  refine h.row (c := 149 + q) ?_ ?_
  · rw [List.all_eq_true] at h1 ⊢
    intro x hx
    have := h1 x hx
    simp at this ⊢
    omega
  · rw [List.all_eq_true] at h2
    rw [List.contains_eq_any_beq, List.any_eq_false]
    intro x hx hz
    have := h2 x hx
    simp at hz this
    omega
theorem dyn_hi {α : Type} {I : Nat → α} {a : Nat} {f : α} : dyn (u2 I (149 + a) f) = u2 (dyn I) a f := by
  funext q
  unfold dyn u2
  by_cases h : q = a
  · subst h; simp
  · have : ¬ 149 + q = 149 + a := by omega
    simp [h]
theorem dy0 (I : Nat → Nat → Int32) (a : Nat) : dyn I a = I (149 + a) := rfl
theorem dy1 (I : Nat → Nat → Int32) (a : Nat) : dyn I (a + 1) = I (149 + a + 1) := rfl
theorem dy2 (I : Nat → Nat → Int32) (a : Nat) : dyn I (a + 2) = I (149 + a + 2) := rfl
theorem dy3 (I : Nat → Nat → Int32) (a : Nat) : dyn I (a + 3) = I (149 + a + 3) := rfl
theorem dy4 (I : Nat → Nat → Int32) (a : Nat) : dyn I (a + 4) = I (149 + a + 4) := rfl
/-- the cases of a wall's number on both sides -/
theorem wallCase {nw : Nat} {q wd hg ow : Nat → Nat} {E : Nat → Option KD} {P2 : Nat → Option Nat} {x y : Int32} (hn : Cn nw 16 x y) (hA : WA nw q wd hg ow E P2) (p : Int32) : (wAt p x P2 = none ∧ ixR p y = 0) ∨ ∃ w, w < nw ∧ p = Int32.ofNat w ∧ wAt p x P2 = some (149 + q w) ∧ ixR p y = 1 := by
  obtain ⟨h1, h2, h3⟩ := hn
  subst h2 h3
  rcases ixc p (n := nw) (by omega) with h | ⟨w, hw, rfl⟩
  · refine Or.inl ⟨?_, by rw [ixR_z]; exact h⟩
    unfold wAt
    rcases h with h | h
    · rw [if_pos h]
    · split
      · rfl
      · rfl
  · refine Or.inr ⟨w, hw, rfl, ?_, ?_⟩
    · unfold wAt
      have e1 := oN_neg (w := w) (by omega)
      have e2 := oN_leF hw (by omega)
      have e3 : ((16 : Int32) ≤ Int32.ofNat w) = False := oN_leF (c := 16) (by omega) (by omega)
      simp only [e1, e2, e3, if_false, oN_nn (show w < 2147483648 by omega)]
      exact (hA w hw).1
    · rw [ixR_1, oN_neg (by omega), oN_leF hw (by omega)]
      exact ⟨fun q => q, fun q => q⟩
/-- everything of the walls -/
def WALL (nw nk nt : Nat) (q wd hg : Nat → Nat) (I : Nat → Nat → Int32) : Prop := WB nw q wd hg (dyn I) (I 73) (I 74) ∧ WC nw q (dyn I) (I 75) (I 76) (I 79) ∧ WD nw q (I 72 5) (dyn I) (I 77) (I 78) (I 83) ∧ WE nw nk q (dyn I) (I 80) (I 81) (I 82) (I 123) (I 129) ∧ WF nw q wd hg (dyn I) (I 84) ∧ WG nw q wd hg (dyn I) (I 84) (I 86) ∧ WH nw nt q wd hg (dyn I) (I 81) (I 86) (I 87) (I 88) ∧ WI nw q wd hg (dyn I) (I 80) (I 84) (I 132) ∧ WU nw (I 79) (I 83) (I 84) (I 86)
/-- the frame of a call that writes walls' cells -/
def FrW (ow : Nat → Nat) (I J : Nat → Nat → Int32) (T : List (Nat × Nat)) (R : List Nat) : Prop := (∀ c k, c < 149 → T.contains (c, k) = false → R.contains c = false → J c k = I c k) ∧ ∀ c, ow c ≠ 1 → dyn J c = dyn I c
section SL
variable {nw nk nt : Nat} {q wd hg ow : Nat → Nat} {E : Nat → Option KD} {P2 : Nat → Option Nat} {G : Nat → RW} {r : RW} {w : Nat}
theorem sl0 (hA : WA nw q wd hg ow E P2) (hw : w < nw) {w' : Nat} (hw' : w' < nw) (h : w' ≠ w) : u2 G (q w) r (q w') = G (q w') := by
  refine u2_ne ?_
  have := (hA w hw).2.2.2.2.2.2.1 w' hw' (Ne.symm h)
  omega
theorem sli (hA : WA nw q wd hg ow E P2) (hw : w < nw) {w' i : Nat} (hw' : w' < nw) (h1 : 1 ≤ i) (h5 : i < 5) : u2 G (q w) r (q w' + i) = G (q w' + i) := by
  refine u2_ne ?_
  by_cases h : w' = w
  · subst h; omega
  · have := (hA w hw).2.2.2.2.2.2.1 w' hw' (Ne.symm h)
    omega
theorem WB.sl {m73 m74 : RW} (h : WB nw q wd hg G m73 m74) (hA : WA nw q wd hg ow E P2) (hw : w < nw) (h0 : r 0 = G (q w) 0) (h1 : r 1 = G (q w) 1) : WB nw q wd hg (u2 G (q w) r) m73 m74 := by
  intro w' hw'
  by_cases hz : w' = w
  · subst hz; rw [u2_same, h0, h1]; exact h w' hw'
  · rw [sl0 hA hw hw' hz]; exact h w' hw'
theorem WC.sl {m75 m76 m79 : RW} (h : WC nw q G m75 m76 m79) (hA : WA nw q wd hg ow E P2) (hw : w < nw) (h0 : r 2 = G (q w) 2) (h1 : r 3 = G (q w) 3) (h2 : r 7 = G (q w) 7) : WC nw q (u2 G (q w) r) m75 m76 m79 := by
  intro w' hw'
  by_cases hz : w' = w
  · subst hz; rw [u2_same, h0, h1, h2]; exact h w' hw'
  · rw [sl0 hA hw hw' hz]; exact h w' hw'
theorem WD.sl {td : Int32} {m77 m78 m83 : RW} (h : WD nw q td G m77 m78 m83) (hA : WA nw q wd hg ow E P2) (hw : w < nw) (h0 : r 4 = G (q w) 4) (h1 : r 5 = G (q w) 5) (h2 : r 6 = G (q w) 6) : WD nw q td (u2 G (q w) r) m77 m78 m83 := by
  intro w' hw'
  by_cases hz : w' = w
  · subst hz; rw [u2_same, h0, h1, h2]; exact h w' hw'
  · rw [sl0 hA hw hw' hz]; exact h w' hw'
theorem WE.sl {m80 m81 m82 wW ov : RW} (h : WE nw nk q G m80 m81 m82 wW ov) (hA : WA nw q wd hg ow E P2) (hw : w < nw) (h0 : r 8 = G (q w) 8) (h1 : r 9 = G (q w) 9) (h2 : r 10 = G (q w) 10) : WE nw nk q (u2 G (q w) r) m80 m81 m82 wW ov := by
  refine ⟨?_, h.2⟩
  intro w' hw'
  by_cases hz : w' = w
  · subst hz; rw [u2_same, h0, h1, h2]; exact h.1 w' hw'
  · rw [sl0 hA hw hw' hz]; exact h.1 w' hw'
theorem WF.sl {m84 : RW} (h : WF nw q wd hg G m84) (hA : WA nw q wd hg ow E P2) (hw : w < nw) : WF nw q wd hg (u2 G (q w) r) m84 := by
  intro w' hw'
  rw [sli hA hw hw' (by omega) (by omega)]; exact h w' hw'
theorem WG.sl {m84 m86 : RW} (h : WG nw q wd hg G m84 m86) (hA : WA nw q wd hg ow E P2) (hw : w < nw) : WG nw q wd hg (u2 G (q w) r) m84 m86 := by
  intro w' hw'
  rw [sli hA hw hw' (by omega) (by omega)]; exact h w' hw'
theorem WH.sl {m81 m86 m87 m88 : RW} (h : WH nw nt q wd hg G m81 m86 m87 m88) (hA : WA nw q wd hg ow E P2) (hw : w < nw) : WH nw nt q wd hg (u2 G (q w) r) m81 m86 m87 m88 := by
  intro w' hw'
  rw [sli hA hw hw' (by omega) (by omega)]; exact h w' hw'
theorem WI.sl {m80 m84 m132 : RW} (h : WI nw q wd hg G m80 m84 m132) (hA : WA nw q wd hg ow E P2) (hw : w < nw) : WI nw q wd hg (u2 G (q w) r) m80 m84 m132 := by
  intro w' hw'
  rw [sli hA hw hw' (by omega) (by omega)]; exact h w' hw'
end SL
