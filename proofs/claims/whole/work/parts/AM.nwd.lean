/-! ===== drawing: a new drawing of the reference ===== -/
theorem dX12_dv : dX12 = dv 12 := by
  funext k
  unfold dX12 dv
  simp only [fk]
  unfold tyX12
  split <;> first | rfl | (split <;> first | rfl | simp_all [fkT, defaultValue])
/-- the arrays of a drawing of the reference -/
def kn (i : Nat) : Nat × Nat := if i < 6 then (0, 40) else if i < 8 then (0, 160) else if i < 10 then (0, 400) else (4, 40)
/-- j arrays are made for the object at c -/
def NI12 (c : Nat) (D0 : Nat → Option KD) (I0 : Nat → Nat → Int32) (L0 : Nat → Nat → Int64) (P0 : Nat → Nat → Option Nat) (j : Nat) (D : Nat → Option KD) (I : Nat → Nat → Int32) (L : Nat → Nat → Int64) (P : Nat → Nat → Option Nat) : Prop := D c = some (.inr (12, false)) ∧ (∀ q, q < c → D q = D0 q ∧ I q = I0 q ∧ L q = L0 q ∧ P q = P0 q) ∧ ∀ i, i < j → D (c + 1 + i) = some (.inl (kn i)) ∧ P c (2 + i) = some (c + 1 + i)
section NWD
variable {b : Nat} {F : Nat → Option AE} {D E : Nat → Option KD} {I : Nat → Nat → Int32} {L : Nat → Nat → Int64} {P : Nat → Nat → Option Nat} {nx us : Nat}
theorem st12 {c j k n : Nat} {x : Int32} {t : Nat} {D0 : Nat → Option KD} {I0 : Nat → Nat → Int32} {L0 : Nat → Nat → Int64} {P0 : Nat → Nat → Option Nat} (h : NI12 c D0 I0 L0 P0 j D I L P) (hx : x = Int32.ofNat n) (hn : kn j = (t, n)) (ht : t < 20) (hn1 : n ≤ 100000) (hk : k = 2 + j) (hf : fk 12 k = 2) (hnx : nx = c + 1 + j) (hc8 : 148 ≤ c) (r1 : nx + 1 ≤ 601024) (r2 : us + n ≤ 7293034) : ∃ D' I' L' P', (∀ G : AH → Option AH, (b2 (nwA t x (layD b F D I L P nx us)) fun a1 h2 => (pQ 12 h2 (ad b c) k (some a1)).bind G) = G (layD b F D' I' L' P' (nx + 1) (us + n))) ∧ NI12 c D0 I0 L0 P0 (j + 1) D' I' L' P' := by
  subst hx hk
  obtain ⟨h1, h2, h3⟩ := h
  refine ⟨u2 D nx (some (.inl (t, n))), u2 I nx (fun _ => 0), u2 L nx (fun _ => 0), u2 (u2 P nx (fun _ => none)) c (va_up (P c) (2 + j) (some nx)), fun G => ?_, ?_, ?_, ?_⟩
  · rw [nwA_r ht hn1 r1 r2, b2_p, pQ_r ((u2_ne (by omega)).trans h1) hf, Option.bind_some, u2_ne (show c ≠ nx by omega)]
  · rw [u2_ne (by omega)]; exact h1
  · intro q hq
    rw [u2_ne (by omega), u2_ne (by omega), u2_ne (by omega), u2_ne (by omega), u2_ne (by omega)]
    exact h2 q hq
  · intro i hi
    rw [u2_same]
    by_cases hij : i = j
    · subst hij
      rw [hnx, u2_same, vup_same, hn]
      exact ⟨rfl, rfl⟩
    · rw [u2_ne (by omega), vup_ne (by omega)]
      exact h3 i (by omega)
theorem M_i12 {c : Nat} {D0 : Nat → Option KD} {I0 : Nat → Nat → Int32} {L0 : Nat → Nat → Int64} {P0 : Nat → Nat → Option Nat} (h : NI12 c D0 I0 L0 P0 0 D I L P) (hc8 : 148 ≤ c) (r1 : c + 12 ≤ 601024) (r2 : us + 1400 ≤ 7293034) : ∃ D' I' L' P', f_X12_init (ad b c) (layD b F D I L P (c + 1) us) = some (layD b F D' I' L' P' (c + 1 + 1 + 1 + 1 + 1 + 1 + 1 + 1 + 1 + 1 + 1 + 1) (us + 40 + 40 + 40 + 40 + 40 + 40 + 160 + 160 + 400 + 400 + 40)) ∧ NI12 c D0 I0 L0 P0 11 D' I' L' P' := by
  obtain ⟨D1, I1, L1, P1, e1, i1⟩ := st12 (b := b) (F := F) (x := 40) (n := 40) (t := 0) (k := 2) (nx := c + 1) (us := us) h rfl rfl (by decide) (by decide) rfl (by decide) rfl hc8 (by omega) (by omega)
  obtain ⟨D2, I2, L2, P2, e2, i2⟩ := st12 (b := b) (F := F) (x := 40) (n := 40) (t := 0) (k := 3) (nx := c + 1 + 1) (us := us + 40) i1 rfl rfl (by decide) (by decide) rfl (by decide) rfl hc8 (by omega) (by omega)
  obtain ⟨D3, I3, L3, P3, e3, i3⟩ := st12 (b := b) (F := F) (x := 40) (n := 40) (t := 0) (k := 4) (nx := c + 1 + 1 + 1) (us := us + 40 + 40) i2 rfl rfl (by decide) (by decide) rfl (by decide) rfl hc8 (by omega) (by omega)
  obtain ⟨D4, I4, L4, P4, e4, i4⟩ := st12 (b := b) (F := F) (x := 40) (n := 40) (t := 0) (k := 5) (nx := c + 1 + 1 + 1 + 1) (us := us + 40 + 40 + 40) i3 rfl rfl (by decide) (by decide) rfl (by decide) rfl hc8 (by omega) (by omega)
  obtain ⟨D5, I5, L5, P5, e5, i5⟩ := st12 (b := b) (F := F) (x := 40) (n := 40) (t := 0) (k := 6) (nx := c + 1 + 1 + 1 + 1 + 1) (us := us + 40 + 40 + 40 + 40) i4 rfl rfl (by decide) (by decide) rfl (by decide) rfl hc8 (by omega) (by omega)
  obtain ⟨D6, I6, L6, P6, e6, i6⟩ := st12 (b := b) (F := F) (x := 40) (n := 40) (t := 0) (k := 7) (nx := c + 1 + 1 + 1 + 1 + 1 + 1) (us := us + 40 + 40 + 40 + 40 + 40) i5 rfl rfl (by decide) (by decide) rfl (by decide) rfl hc8 (by omega) (by omega)
  obtain ⟨D7, I7, L7, P7, e7, i7⟩ := st12 (b := b) (F := F) (x := 160) (n := 160) (t := 0) (k := 8) (nx := c + 1 + 1 + 1 + 1 + 1 + 1 + 1) (us := us + 40 + 40 + 40 + 40 + 40 + 40) i6 rfl rfl (by decide) (by decide) rfl (by decide) rfl hc8 (by omega) (by omega)
  obtain ⟨D8, I8, L8, P8, e8, i8⟩ := st12 (b := b) (F := F) (x := 160) (n := 160) (t := 0) (k := 9) (nx := c + 1 + 1 + 1 + 1 + 1 + 1 + 1 + 1) (us := us + 40 + 40 + 40 + 40 + 40 + 40 + 160) i7 rfl rfl (by decide) (by decide) rfl (by decide) rfl hc8 (by omega) (by omega)
  obtain ⟨D9, I9, L9, P9, e9, i9⟩ := st12 (b := b) (F := F) (x := 400) (n := 400) (t := 0) (k := 10) (nx := c + 1 + 1 + 1 + 1 + 1 + 1 + 1 + 1 + 1) (us := us + 40 + 40 + 40 + 40 + 40 + 40 + 160 + 160) i8 rfl rfl (by decide) (by decide) rfl (by decide) rfl hc8 (by omega) (by omega)
  obtain ⟨Da, Ia, La, Pa, ea, ia⟩ := st12 (b := b) (F := F) (x := 400) (n := 400) (t := 0) (k := 11) (nx := c + 1 + 1 + 1 + 1 + 1 + 1 + 1 + 1 + 1 + 1) (us := us + 40 + 40 + 40 + 40 + 40 + 40 + 160 + 160 + 400) i9 rfl rfl (by decide) (by decide) rfl (by decide) rfl hc8 (by omega) (by omega)
  obtain ⟨Db, Ib, Lb, Pb, eb, ib⟩ := st12 (b := b) (F := F) (x := 40) (n := 40) (t := 4) (k := 12) (nx := c + 1 + 1 + 1 + 1 + 1 + 1 + 1 + 1 + 1 + 1 + 1) (us := us + 40 + 40 + 40 + 40 + 40 + 40 + 160 + 160 + 400 + 400) ia rfl rfl (by decide) (by decide) rfl (by decide) rfl hc8 (by omega) (by omega)
  refine ⟨Db, Ib, Lb, Pb, ?_, ib⟩
  unfold f_X12_init
  rw [e1, e2, e3, e4, e5, e6, e7, e8, e9, ea, eb]
def mNw (h25 : AH) : Option (Nat × AH) := b2 (nwO 12 13 dX12 h25) fun a26 h27 => (f_X12_init a26 h27).bind fun h28 => some (a26, h28)
theorem M_newDr {a : Nat} (r1 : a + 12 + 149 ≤ 601024) (r2 : us + 1413 ≤ 7293034) : ∃ E' I' L' P', mNw (lay b F E I L P (149 + a) us) = some (ad b (149 + a), lay b F E' I' L' P' (149 + a + 12) (us + 1413)) ∧ (∀ q, q < 149 + a → kdf E' q = kdf E q ∧ I' q = I q ∧ L' q = L q ∧ P' q = P q) ∧ (∀ q, q < 149 + a → E' q = E q) ∧ K12 E' (149 + a) := by
  have h0 : NI12 (149 + a) (kdf E) I L P 0 (u2 (kdf E) (149 + a) (some (.inr (12, false)))) (u2 I (149 + a) (fun _ => 0)) (u2 L (149 + a) (fun _ => 0)) (u2 P (149 + a) (fun _ => none)) := ⟨u2_same _ _ _, fun q hq => ⟨u2_ne (by omega), u2_ne (by omega), u2_ne (by omega), u2_ne (by omega)⟩, fun i hi => absurd hi (Nat.not_lt_zero _)⟩
  obtain ⟨D', I', L', P', z1, z2, z3, z4⟩ := M_i12 (b := b) (F := F) (us := us + 13) h0 (by omega) (by omega) (by omega)
  have hk : u2 D' (149 + a) (some (.inr (12, true))) = kdf (fun q => if q < 149 + a then E q else u2 D' (149 + a) (some (.inr (12, true))) q) := by
    funext q
    by_cases hq : q < 149 + a
    · rw [u2_ne (by omega), (z3 q (by omega)).1]
      unfold kdf
      by_cases hq2 : q < 149
      · rw [if_pos hq2, if_pos hq2]
      · rw [if_neg hq2, if_neg hq2]
        exact (if_pos hq).symm
    · unfold kdf
      rw [if_neg (by omega)]
      exact (if_neg hq).symm
  refine ⟨fun q => if q < 149 + a then E q else u2 D' (149 + a) (some (.inr (12, true))) q, I', L', P', ?_, ?_, ?_, ?_⟩
  · unfold mNw
    rw [nwO_lay dX12_dv (by omega) (by omega), b2_p, z1, Option.bind_some, lay_fin (c := 149 + a) (ci := 12) z2]
    · have e : us + 13 + 40 + 40 + 40 + 40 + 40 + 40 + 160 + 160 + 400 + 400 + 40 = us + 1413 := by omega
      rw [e]
      unfold lay
      rw [← hk]
    · intro k j hk hj
      unfold cr at hj
      simp only at hj
      split at hj
      · cases hj; exact (z4 0 (by decide)).2
      · cases hj; exact (z4 1 (by decide)).2
      · cases hj; exact (z4 2 (by decide)).2
      · cases hj; exact (z4 3 (by decide)).2
      · cases hj; exact (z4 4 (by decide)).2
      · cases hj; exact (z4 5 (by decide)).2
      · cases hj; exact (z4 6 (by decide)).2
      · cases hj; exact (z4 7 (by decide)).2
      · cases hj; exact (z4 8 (by decide)).2
      · cases hj; exact (z4 9 (by decide)).2
      · cases hj; exact (z4 10 (by decide)).2
      · cases hj
  · intro q hq
    rw [← hk, u2_ne (by omega)]
    exact z3 q hq
  · intro q hq
    exact if_pos hq
  · unfold K12
    rw [← hk]
    have row : ∀ i, i < 11 → u2 D' (149 + a) (some (.inr (12, true))) (149 + a + (i + 1)) = some (.inl (kn i)) := fun i hi => by
      rw [u2_ne (by omega), ← (z4 i hi).1, show 149 + a + (i + 1) = 149 + a + 1 + i by omega]
    refine ⟨u2_same _ _ _, fun j j1 j2 => ?_, row 6 (by decide), row 7 (by decide), row 8 (by decide), row 9 (by decide), row 10 (by decide)⟩
    obtain ⟨i, rfl⟩ : ∃ i, j = i + 1 := ⟨j - 1, by omega⟩
    rw [row i (by omega)]
    unfold kn
    rw [if_pos (by omega)]
end NWD
