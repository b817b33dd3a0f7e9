/-! ===== drawing: the drawings of both ===== -/
def gBr (I : Nat → Nat → Int32) (L : Nat → Nat → Int64) (c r : Nat) : BRw := (fun j => I (r + j), L (r + 11), I (c + 1), I (c + 2), I (c + 3), L (c + 4))
/-- the class's drawing at c says what the reference's at r says -/
def GD1 (E : Nat → Option KD) (I : Nat → Nat → Int32) (L : Nat → Nat → Int64) (c r : Nat) : Prop := ∃ dl wc st it : Nat, kdf E c = some (.inr (1, true)) ∧ kdf E (c + 1) = some (.inl (1, dl)) ∧ kdf E (c + 2) = some (.inl (3, dl)) ∧ kdf E (c + 3) = some (.inl (3, dl)) ∧ kdf E (c + 4) = some (.inl (4, wc)) ∧ I c 4 = Int32.ofNat dl ∧ I c 5 = Int32.ofNat wc ∧ I r 0 = Int32.ofNat st ∧ I r 1 = Int32.ofNat it ∧ 0 < dl ∧ dl < 360 ∧ wc ≤ 40 ∧ st ≤ 40 ∧ it ≤ 240 ∧ Blk (gBr I L c r) it wc 40 6 0 st 0 dl
theorem GD1_fr {E E2 : Nat → Option KD} {I I2 : Nat → Nat → Int32} {L L2 : Nat → Nat → Int64} {c r : Nat} (hE : ∀ j, j < 5 → kdf E2 (c + j) = kdf E (c + j)) (hI : ∀ j, j < 5 → I2 (c + j) = I (c + j)) (hr : ∀ j, j < 11 → I2 (r + j) = I (r + j)) (hL : L2 (c + 4) = L (c + 4)) (hL2 : L2 (r + 11) = L (r + 11)) (h : GD1 E I L c r) : GD1 E2 I2 L2 c r := by
  obtain ⟨dl, wc, st, it, a0, a1, a2, a3, a4, a5, a6, a7, a8, a9, aa, ab, ac, ad', ae⟩ := h
  have e0 := hE 0 (by decide)
  have i0 := hI 0 (by decide)
  have r0 := hr 0 (by decide)
  rw [Nat.add_zero] at e0 i0 r0
  refine ⟨dl, wc, st, it, e0.trans a0, (hE 1 (by decide)).trans a1, (hE 2 (by decide)).trans a2, (hE 3 (by decide)).trans a3, (hE 4 (by decide)).trans a4, by rw [i0]; exact a5, by rw [i0]; exact a6, by rw [r0]; exact a7, by rw [r0]; exact a8, a9, aa, ab, ac, ad', ?_⟩
  refine Blk_fr (Nat.le_refl _) (Nat.le_refl _) 40 6 0 st 0 dl ⟨fun j j1 j2 x _ _ => ?_, fun x _ _ => ⟨?_, ?_⟩, fun x _ => ⟨?_, ?_⟩, fun x _ _ => ?_, fun j _ _ => ⟨?_, ?_, ?_⟩, fun k _ => ?_⟩ ae
  · exact congrFun (hr j (by omega)) x
  · exact congrFun (hr 7 (by decide)) x
  · exact congrFun (hr 8 (by decide)) x
  · exact congrFun (hr 9 (by decide)) x
  · exact congrFun (hr 10 (by decide)) x
  · exact congrFun hL2 x
  · exact congrFun (hI 1 (by decide)) j
  · exact congrFun (hI 2 (by decide)) j
  · exact congrFun (hI 3 (by decide)) j
  · exact congrFun hL k
/-- where a drawing of the reference lies -/
def DT (ow : Nat → Nat) (x : Nat) : Prop := x = 93 ∨ ∃ d, x = 149 + d ∧ ∀ j, j < 12 → ow (d + j) = 11
def GDw (w : Nat) (E : Nat → Option KD) (P : Nat → Nat → Option Nat) (ow : Nat → Nat) : Prop := P 72 40 = some w ∧ K12 E w ∧ DT ow w
def GDr (nd : Nat) (cd rd : Nat → Nat) (w : Nat) (E : Nat → Option KD) (I : Nat → Nat → Int32) (L : Nat → Nat → Int64) (P : Nat → Nat → Option Nat) (ow : Nat → Nat) : Prop := ∀ d, d < nd → (rd d + 12 ≤ w ∨ w + 12 ≤ rd d) ∧ P 52 d = some (cd d) ∧ P 92 d = some (rd d) ∧ K12 E (rd d) ∧ DT ow (rd d) ∧ (∃ e, cd d = 149 + e ∧ ∀ j, j < 5 → ow (e + j) = 12) ∧ GD1 E I L (cd d) (rd d)
theorem K12_fr {E E2 : Nat → Option KD} {r : Nat} (h : ∀ j, j < 12 → kdf E2 (r + j) = kdf E (r + j)) (hK : K12 E r) : K12 E2 r := by
  obtain ⟨a0, a1, a7, a8, a9, aa, ab⟩ := hK
  have e0 := h 0 (by decide)
  rw [Nat.add_zero] at e0
  exact ⟨e0.trans a0, fun j j1 j2 => (h j (by omega)).trans (a1 j j1 j2), (h 7 (by decide)).trans a7, (h 8 (by decide)).trans a8, (h 9 (by decide)).trans a9, (h 10 (by decide)).trans aa, (h 11 (by decide)).trans ab⟩
theorem DT_lt {ow : Nat → Nat} {x a : Nat} (hO : ∀ c, a ≤ c → ow c = 0) (h : DT ow x) : 93 ≤ x ∧ x + 12 ≤ 149 + a := by
  rcases h with h | ⟨d, h, o⟩
  · omega
  · have : ¬ a ≤ d + 11 := fun q => by have := o 11 (by decide); rw [hO _ q] at this; cases this
    omega
theorem DT_ow {ow ow2 : Nat → Nat} {x a : Nat} (hO : ∀ c, a ≤ c → ow c = 0) (h2 : ∀ c, c < a → ow2 c = ow c) (h : DT ow x) : DT ow2 x := by
  have hl := (DT_lt hO h).2
  rcases h with h | ⟨d, h, o⟩
  · exact Or.inl h
  · exact Or.inr ⟨d, h, fun j hj => by rw [h2 _ (by omega)]; exact o j hj⟩
/-- a cell that is not of the reference's drawings -/
theorem DT_out {ow : Nat → Nat} {x c : Nat} (h : DT ow x) (hc : ow c ≠ 11) : 149 + c < x ∨ x + 12 ≤ 149 + c := by
  rcases h with h | ⟨d, h, o⟩
  · omega
  · rcases Nat.lt_or_ge (149 + c) x with q | q
    · exact Or.inl q
    · rcases Nat.lt_or_ge (149 + c) (x + 12) with q2 | q2
      · exfalso
        have := o (c - d) (by omega)
        rw [show d + (c - d) = c by omega] at this
        exact hc this
      · exact Or.inr q2
/-- the drawings stay -/
theorem GDr_keep {nd w a : Nat} {cd rd ow ow2 : Nat → Nat} {E E2 : Nat → Option KD} {I I2 : Nat → Nat → Int32} {L L2 : Nat → Nat → Int64} {P P2 : Nat → Nat → Option Nat} (hO : ∀ c, a ≤ c → ow c = 0) (h : GDr nd cd rd w E I L P ow) (hw : DT ow w) (ho : ∀ c, c < a → ow2 c = ow c) (hE : ∀ c, c < 149 + a → kdf E2 c = kdf E c) (hI : ∀ c, 93 ≤ c → c < 149 + a → c ≠ 148 → (c < w ∨ w + 12 ≤ c) → I2 c = I c ∧ L2 c = L c) (hP : ∀ d, d < nd → P2 52 d = P 52 d ∧ P2 92 d = P 92 d) : ∀ d, d < nd → rd d + 12 ≤ 149 + a ∧ P2 52 d = some (cd d) ∧ P2 92 d = some (rd d) ∧ K12 E2 (rd d) ∧ DT ow2 (rd d) ∧ (∃ e, cd d = 149 + e ∧ ∀ j, j < 5 → ow2 (e + j) = 12) ∧ GD1 E2 I2 L2 (cd d) (rd d) := by
  intro d hd
  obtain ⟨g1, g2, g3, g4, g5, ⟨e, g6, g7⟩, g8⟩ := h d hd
  obtain ⟨p1, p2⟩ := hP d hd
  have hl := DT_lt hO g5
  have h93 : rd d = 93 ∨ 149 ≤ rd d := by
    rcases g5 with q | ⟨d', q, -⟩
    · exact Or.inl q
    · exact Or.inr (by omega)
  have he : e + 4 < a := Nat.lt_of_not_le (fun q => by have := g7 4 (by decide); rw [hO _ q] at this; cases this)
  have ec : ∀ j, j < 5 → cd d + j < w ∨ w + 12 ≤ cd d + j := fun j hj => by
    rw [g6, Nat.add_assoc]
    exact DT_out hw (by rw [g7 j hj]; decide)
  refine ⟨hl.2, p1.trans g2, p2.trans g3, K12_fr (fun j hj => hE _ (by omega)) g4, DT_ow hO ho g5, ⟨e, g6, fun j hj => by rw [ho _ (by omega)]; exact g7 j hj⟩, GD1_fr (fun j hj => hE _ (by omega)) (fun j hj => (hI _ (by omega) (by omega) (by omega) (ec j hj)).1) (fun j hj => (hI _ (by omega) (by omega) (by omega) (by omega)).1) (hI _ (by omega) (by omega) (by omega) (ec 4 (by decide))).2 (hI _ (by omega) (by omega) (by omega) (by omega)).2 g8⟩
/-- what a reading leaves alone -/
def FrDr (a : Nat) (ow : Nat → Nat) (E : Nat → Option KD) (I : Nat → Nat → Int32) (L : Nat → Nat → Int64) (P : Nat → Nat → Option Nat) (E2 : Nat → Option KD) (I2 : Nat → Nat → Int32) (L2 : Nat → Nat → Int64) (P2 : Nat → Nat → Option Nat) (ow2 : Nat → Nat) : Prop := (∀ c, c < 149 + a → E2 c = E c) ∧ (∀ c, c < 149 → [43, 49, 72, 104].contains c = false → L2 c = L c) ∧ (∀ j, j ≠ 37 → L2 72 j = L 72 j) ∧ (∀ c, c < 149 + a → c ≠ 52 → c ≠ 72 → c ≠ 92 → P2 c = P c) ∧ (∀ k, k ≠ 40 → P2 72 k = P 72 k) ∧ (∀ c, c < a → ow2 c = ow c) ∧ (∀ c, c < a → ow c ≠ 11 → I2 (149 + c) = I (149 + c) ∧ L2 (149 + c) = L (149 + c)) ∧ (∀ c, c < 149 → [0, 40, 41, 42, 44, 45, 46, 47, 48, 50, 51, 72, 90, 93, 94, 95, 96, 97, 98, 99, 100, 101, 102, 103, 148].contains c = false → I2 c = I c) ∧ (∀ k, [6, 10, 16, 17, 18].contains k = false → I2 0 k = I 0 k) ∧ (∀ k, [0, 1, 2, 3, 25, 26, 27, 28, 29, 30, 31, 32, 33, 34, 35, 36, 38].contains k = false → I2 72 k = I 72 k)
theorem FrDr_mk {w a : Nat} {ow ow2 : Nat → Nat} {E E2 : Nat → Option KD} {I I2 : Nat → Nat → Int32} {L L2 : Nat → Nat → Int64} {P P2 : Nat → Nat → Option Nat} (hO : ∀ c, a ≤ c → ow c = 0) (hw : DT ow w) (hE : ∀ c, c < 149 + a → E2 c = E c) (hI : ∀ c, c < 149 + a → c ≠ 0 → c ≠ 40 → c ≠ 41 → c ≠ 42 → c ≠ 44 → c ≠ 45 → c ≠ 46 → c ≠ 47 → c ≠ 48 → c ≠ 50 → c ≠ 51 → c ≠ 72 → c ≠ 90 → c ≠ 148 → (c < w ∨ w + 11 ≤ c) → I2 c = I c) (hL : ∀ c, c < 149 + a → c ≠ 43 → c ≠ 49 → c ≠ 72 → c ≠ w + 11 → L2 c = L c) (hL7 : ∀ j, j ≠ 37 → L2 72 j = L 72 j) (hP : ∀ c, c < 149 + a → c ≠ 52 → c ≠ 72 → c ≠ 92 → P2 c = P c) (hP7 : ∀ k, k ≠ 40 → P2 72 k = P 72 k) (ho : ∀ c, c < a → ow2 c = ow c) (h0 : ∀ k, [6, 10, 16, 17, 18].contains k = false → I2 0 k = I 0 k) (h72 : ∀ k, [0, 1, 2, 3, 25, 26, 27, 28, 29, 30, 31, 32, 33, 34, 35, 36, 38].contains k = false → I2 72 k = I 72 k) : FrDr a ow E I L P E2 I2 L2 P2 ow2 := by
  have h93 : w = 93 ∨ 149 ≤ w := by
    rcases hw with h | ⟨d, h, -⟩
    · exact Or.inl h
    · exact Or.inr (by omega)
  refine ⟨hE, fun c hc hl => ?_, hL7, hP, hP7, ho, fun c hc h11 => ?_, fun c hc hl => ?_, h0, h72⟩
  · simp at hl
    exact hL c (by omega) (by omega) (by omega) (by omega) (by omega)
  · have := DT_out hw h11
    exact ⟨hI _ (by omega) (by omega) (by omega) (by omega) (by omega) (by omega) (by omega) (by omega) (by omega) (by omega) (by omega) (by omega) (by omega) (by omega) (by omega) (by omega), hL _ (by omega) (by omega) (by omega) (by omega) (by omega)⟩
  · simp at hl
    exact hI c (by omega) (by omega) (by omega) (by omega) (by omega) (by omega) (by omega) (by omega) (by omega) (by omega) (by omega) (by omega) (by omega) (by omega) (by omega) (by omega)
/-- the class's end when the text is good -/
def xTl (b : Nat) (h14 : AH) : Option (Int32 × AH) := (gI 11 h14 (ad b 0) 10).bind fun x16 => if x16 < 12 then (gA 11 h14 (ad b 0) 9).bind fun a17 => (gI 11 h14 (ad b 0) 10).bind fun x18 => b2 (xNw b h14) fun a19 h23 => (sQ 6 1 h23 a17 x18 a19).bind fun h24 => (gI 11 h24 (ad b 0) 10).bind fun x25 => (pI 11 h24 (ad b 0) 10 (x25 + 1)).bind fun h26 => (gI 11 h26 (ad b 0) 10).bind fun x27 => b2 (f_X11_tell (ad b 0) (x27 - 1) h26) fun x28 h29 => some (x28, h29) else b2 (f_X11_refuse (ad b 0) 3 h14) fun x30 h31 => some (x30, h31)
theorem xNw_b2 {b : Nat} {h : AH} {α : Type} {G : Nat → AH → Option α} : b2 (xNw b h) G = b2 (nwO 1 6 dX1 h) fun a19 h20 => (gA 11 h20 (ad b 0) 8).bind fun a21 => (gA 2 h20 a21 1).bind fun a22 => (f_X1_init_ a19 a22 h20).bind fun h23 => G a19 h23 := by
  unfold xNw
  generalize nwO 1 6 dX1 h = X
  cases X with
  | none => rfl
  | some q =>
    obtain ⟨a19, h20⟩ := q
    rw [b2_p, b2_p]
    cases gA 11 h20 (ad b 0) 8 with
    | none => rfl
    | some a21 =>
      rw [Option.bind_some, Option.bind_some]
      cases gA 2 h20 a21 1 with
      | none => rfl
      | some a22 =>
        rw [Option.bind_some, Option.bind_some]
        cases f_X1_init_ a19 a22 h20 with
        | none => rfl
        | some h23 => rfl
theorem mNw_b2 {h : AH} {α : Type} {G : Nat → AH → Option α} : b2 (mNw h) G = b2 (nwO 12 13 dX12 h) fun a26 h27 => (f_X12_init a26 h27).bind fun h28 => G a26 h28 := by
  unfold mNw
  generalize nwO 12 13 dX12 h = X
  cases X with
  | none => rfl
  | some q =>
    obtain ⟨a26, h27⟩ := q
    rw [b2_p, b2_p]
    cases f_X12_init a26 h27 with
    | none => rfl
    | some h28 => rfl
theorem xT_eq (z : ZX) (b : Nat) (p1 : Int32) (h : AH) : f_X11_drawing z (ad b 0) p1 h = if isO 11 h (ad b 0) = true then (gI 11 h (ad b 0) 6).bind fun x1 => b2 (f_X11_within p1 0 x1 h) fun x2 h3 => if x2 = 0 then b2 (f_X11_refuse (ad b 0) 2 h3) fun x36 h37 => some (x36, h37) else (pI 11 h3 (ad b 0) 6 0).bind fun h4 => (gA 11 h4 (ad b 0) 7).bind fun a5 => (gA 11 h4 (ad b 0) 5).bind fun a6 => (f_X7_cut z a5 a6 p1 h4).bind fun h7 => (gA 11 h7 (ad b 0) 8).bind fun a8 => (f_X2_read a8 h7).bind fun h9 => (gA 11 h9 (ad b 0) 7).bind fun a10 => (gI 7 h9 a10 5).bind fun x11 => (gA 11 h9 (ad b 0) 7).bind fun a12 => (gI 7 h9 a12 6).bind fun x13 => (f_X11_noteFault (ad b 0) x11 x13 h9).bind fun h14 => (gI 11 h14 (ad b 0) 17).bind fun x15 => if x15 = 0 then xTl b h14 else b2 (f_X11_refuse (ad b 0) 4 h14) fun x33 h34 => some (x33, h34) else none := by
  unfold f_X11_drawing xTl
  simp only [xNw_b2]
section DRG
variable {b : Nat} {F : Nat → Option AE} {D E : Nat → Option KD} {I : Nat → Nat → Int32} {L : Nat → Nat → Int64} {P : Nat → Nat → Option Nat} {nx us : Nat}
theorem X_keepD {a d dl wc : Nat} (hd : d < 12) (h10 : I 0 10 = Int32.ofNat d) (hT : TYp I) (h4 : I 45 4 = Int32.ofNat dl) (h5 : I 45 5 = Int32.ofNat wc) (hdl : dl < 360) (hwc : wc ≤ 40) (r1 : a + 5 + 149 ≤ 601024) (r2 : us + 6 + dl + dl + dl + wc ≤ 7293034) : ∃ I5 L5 P5, xTl b (lay b F E I L P (149 + a) us) = some (Int32.ofNat d, lay b F (cdE E a dl wc) I5 L5 P5 (149 + a + 5) (us + 6 + dl + dl + dl + wc)) ∧ (∀ q, q < 149 + a → L5 q = L q) ∧ (∀ q, q < 149 + a → q ≠ 0 → I5 q = I q) ∧ I5 0 = upd (upd (I 0) 10 (Int32.ofNat (d + 1))) 16 0 ∧ (∀ q, q < 149 + a → q ≠ 52 → P5 q = P q) ∧ P5 52 = va_up (P 52) d (some (149 + a)) ∧ I5 (149 + a) 4 = Int32.ofNat dl ∧ I5 (149 + a) 5 = Int32.ofNat wc ∧ (∀ k, k < dl → I5 (149 + a + 1) k = I 46 k ∧ I5 (149 + a + 2) k = I 47 k ∧ I5 (149 + a + 3) k = I 48 k) ∧ ∀ k, k < wc → L5 (149 + a + 4) k = L 49 k := by
  obtain ⟨I5, L5, P5, z1, z2, z3, z4, z5, z6⟩ := X_newDr (b := b) (F := F) (E := E) (I := I) (L := L) (P := P) (us := us) (a := a) hT h4 h5 hdl hwc r1 r2
  have e12 : (Int32.ofNat d < 12) = True := eq_true ((oN_lt (c := 12) (by omega) (by omega)).mpr hd)
  have ed : iN (Int32.ofNat d) 12 = some d := iN_oN hd (by omega)
  have kc : kdf (cdE E a dl wc) (149 + a) = some (.inr (1, true)) := kdf_of (by omega) (by unfold cdE; rw [u2_ne (by omega), u2_ne (by omega), u2_ne (by omega), u2_ne (by omega), u2_same])
  have j0 : I5 0 = I 0 := (z2 0 (by omega)).1
  have hsq : sQ 6 1 (lay b F (cdE E a dl wc) I5 L5 P5 (149 + a + 5) (us + 6 + dl + dl + dl + wc)) (ad b 52) (Int32.ofNat d) (ad b (149 + a)) = some (lay b F (cdE E a dl wc) I5 L5 (u2 P5 52 (va_up (P 52) d (some (149 + a)))) (149 + a + 5) (us + 6 + dl + dl + dl + wc)) := by
    rw [sQ_lay (kdf_KT (KT_arr (show tk 52 = 6 by decide) (by decide))) (by decide) kc]
    have : ln 52 = 12 := by decide
    rw [this, ed, (z2 52 (by omega)).2.2]
    rfl
  have h10' : I5 0 10 = Int32.ofNat d := by rw [j0]; exact h10
  refine ⟨u2 I5 0 (upd (upd (I 0) 10 (Int32.ofNat (d + 1))) 16 0), L5, u2 P5 52 (va_up (P 52) d (some (149 + a))), ?_, fun q hq => (z2 q hq).2.1, fun q hq h0 => by rw [u2_ne h0]; exact (z2 q hq).1, u2_same _ _ _, fun q hq h => by rw [u2_ne h]; exact (z2 q hq).2.2, u2_same _ _ _, by rw [u2_ne (by omega)]; exact z3, by rw [u2_ne (by omega)]; exact z4, fun k hk => by rw [u2_ne (by omega), u2_ne (by omega), u2_ne (by omega)]; exact z5 k hk, z6⟩
  unfold xTl
  simp (decide := true) only [b2_p, h10, e12, z1, hsq, h10', oN_succ, oN_pred, j0, isO_s, gI_s, gA_s, gL_s, pI_s, pZ_s, pL_s, aI_s, aL_s, aN_s, aQ_s, sI_s, sL_s, cr, LNs, Option.map_some, Option.map_none, Option.bind_some, tr, lt, if_true, if_false, ckZ, X_within, M_in, inR_z, X_refuse, X_tell, X_deny, X_grant, M_refused, M_denied, M_done, M_granted, u2_same, u2_ne, u2_u2, upd_same, upd_ne, aW0, ixR_z, ixR_1, M_isWall, M_isPainter, M_isWork, X_has4, X_has10, X_at, or_false, false_or, or_true, true_or, not_true, not_false_iff, Option.isSome_some, isO_d, gI_d, gA_d, pI_d, ne_eq, not_false_eq_true, u2_hi, u2_hj, u2_dyn, u2_dynj, Nat.reduceAdd, mX_r, mX_rD, mX_rDj, mM_r, mX_u, mX_uM, mX_uD, mX_uDj, mM_u, mM_uX, mM_uD, mM_uDj, u2_dd, u2_d0, u2_0d]
theorem M_keepD {a d w : Nat} (hd : d < 12) (h38 : I 72 38 = Int32.ofNat d) (hP : P 72 40 = some w) (k0 : kdf E w = some (.inr (12, true))) (r1 : a + 12 + 149 ≤ 601024) (r2 : us + 1413 ≤ 7293034) : ∃ E2 I2 L2 P2, dTl b (lay b F E I L P (149 + a) us) = some (Int32.ofNat d, lay b F E2 I2 L2 P2 (149 + a + 12) (us + 1413)) ∧ (∀ q, q < 149 + a → kdf E2 q = kdf E q) ∧ (∀ q, q < 149 + a → E2 q = E q) ∧ (∀ q, q < 149 + a → L2 q = L q) ∧ (∀ q, q < 149 + a → q ≠ 72 → I2 q = I q) ∧ I2 72 = mE (upd (I 72) 38 (Int32.ofNat (d + 1))) 0 ∧ (∀ q, q < 149 + a → q ≠ 72 → q ≠ 92 → P2 q = P q) ∧ P2 92 = va_up (P 92) d (some w) ∧ P2 72 = va_up (P 72) 40 (some (149 + a)) ∧ K12 E2 (149 + a) := by
  obtain ⟨E2, I2, L2, P2, z1, z2, z3, z4⟩ := M_newDr (b := b) (F := F) (E := E) (I := I) (L := L) (P := u2 P 92 (va_up (P 92) d (some w))) (us := us) (a := a) r1 r2
  have e12 : (Int32.ofNat d = 12) = False := oN_ne (c := 12) (by omega) (by omega) (by omega)
  have ed : iN (Int32.ofNat d) 12 = some d := iN_oN hd (by omega)
  have hg : gA 15 (lay b F E I L P (149 + a) us) (ad b 72) 40 = some (ad b w) := by rw [gA_sP (by decide) (by decide) (by decide), hP]; rfl
  have hsq : sQ 7 12 (lay b F E I L P (149 + a) us) (ad b 92) (Int32.ofNat d) (ad b w) = some (lay b F E I L (u2 P 92 (va_up (P 92) d (some w))) (149 + a) us) := by
    rw [sQ_lay (kdf_KT (KT_arr (show tk 92 = 7 by decide) (by decide))) (by decide) k0]
    have : ln 92 = 12 := by decide
    rw [this, ed]
    rfl
  have j72 : I2 72 = I 72 := (z2 72 (by omega)).2.1
  have h38' : I2 72 38 = Int32.ofNat d := by rw [j72]; exact h38
  have p72 : P2 72 = P 72 := (z2 72 (by omega)).2.2.2.trans (u2_ne (by decide))
  have hpq : pQ 15 (lay b F E2 I2 L2 P2 (149 + a + 12) (us + 1413)) (ad b 72) 40 (some (ad b (149 + a))) = some (lay b F E2 I2 L2 (u2 P2 72 (va_up (P2 72) 40 (some (149 + a)))) (149 + a + 12) (us + 1413)) := pQ_lay (x := some (149 + a)) (kdf_KT (show KT 72 = some (.inr (15, true)) by decide)) (by decide) (fun _ => rfl)
  refine ⟨E2, u2 I2 72 (mE (upd (I 72) 38 (Int32.ofNat (d + 1))) 0), L2, u2 P2 72 (va_up (P2 72) 40 (some (149 + a))), ?_, fun q hq => (z2 q hq).1, z3, fun q hq => (z2 q hq).2.2.1, fun q hq h => by rw [u2_ne h]; exact (z2 q hq).2.1, u2_same _ _ _, fun q hq h h' => by rw [u2_ne h, (z2 q hq).2.2.2, u2_ne h'], by rw [u2_ne (by decide), (z2 92 (by omega)).2.2.2, u2_same], by rw [u2_same, p72], z4⟩
  have hm : ∀ {α : Type} (G : Nat → AH → Option α), (b2 (nwO 12 13 dX12 (lay b F E I L (u2 P 92 (va_up (P 92) d (some w))) (149 + a) us)) fun a26 h27 => (f_X12_init a26 h27).bind fun h28 => G a26 h28) = G (ad b (149 + a)) (lay b F E2 I2 L2 P2 (149 + a + 12) (us + 1413)) := fun G => by rw [← mNw_b2, z1, b2_p]
  unfold dTl
  simp (decide := true) only [b2_p, h38, e12, hg, hsq, isO_s, gI_s, gA_s, gL_s, pI_s, pZ_s, pL_s, aI_s, aL_s, aN_s, aQ_s, sI_s, sL_s, cr, LNs, Option.map_some, Option.map_none, Option.bind_some, tr, lt, if_true, if_false, ckZ, X_within, M_in, inR_z, X_refuse, X_tell, X_deny, X_grant, M_refused, M_denied, M_done, M_granted, u2_same, u2_ne, u2_u2, upd_same, upd_ne, aW0, ixR_z, ixR_1, M_isWall, M_isPainter, M_isWork, X_has4, X_has10, X_at, or_false, false_or, or_true, true_or, not_true, not_false_iff, Option.isSome_some, isO_d, gI_d, gA_d, pI_d, ne_eq, not_false_eq_true, u2_hi, u2_hj, u2_dyn, u2_dynj, Nat.reduceAdd, mX_r, mX_rD, mX_rDj, mM_r, mX_u, mX_uM, mX_uD, mX_uDj, mM_u, mM_uX, mM_uD, mM_uDj, u2_dd, u2_d0, u2_0d]
  rw [hm]
  simp (decide := true) only [b2_p, hpq, h38', oN_succ, oN_pred, j72, isO_s, gI_s, gA_s, gL_s, pI_s, pZ_s, pL_s, aI_s, aL_s, aN_s, aQ_s, sI_s, sL_s, cr, LNs, Option.map_some, Option.map_none, Option.bind_some, tr, lt, if_true, if_false, ckZ, X_within, M_in, inR_z, X_refuse, X_tell, X_deny, X_grant, M_refused, M_denied, M_done, M_granted, u2_same, u2_ne, u2_u2, upd_same, upd_ne, aW0, ixR_z, ixR_1, M_isWall, M_isPainter, M_isWork, X_has4, X_has10, X_at, or_false, false_or, or_true, true_or, not_true, not_false_iff, Option.isSome_some, isO_d, gI_d, gA_d, pI_d, ne_eq, not_false_eq_true, u2_hi, u2_hj, u2_dyn, u2_dynj, Nat.reduceAdd, mX_r, mX_rD, mX_rDj, mM_r, mX_u, mX_uM, mX_uD, mX_uDj, mM_u, mM_uX, mM_uD, mM_uDj, u2_dd, u2_d0, u2_0d]
end DRG
