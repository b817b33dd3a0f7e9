/-! ===== texts below the base ===== -/
/-- a text: n letters, the i-th c i -/
def SB (b : Nat) (F : Nat → Option AE) (a n : Nat) (c : Nat → Nat) : Prop := a < b ∧ ∃ (v : Nat) (f : Nat → Value) (g : Nat → Int32), F a = some (.inr (99, f)) ∧ f 0 = .ref v ∧ f 1 = .int 0 ∧ v < b ∧ F v = some (.inl (21, n, .inl g)) ∧ n ≤ 100 ∧ ∀ i, i < n → g i = Int32.ofNat (c i) ∧ c i < 128
/-- the texts of class and reference -/
def zt : Nat → List Nat
  | 0 => [91, 93, 40, 41, 59, 60, 62, 61, 43, 45, 42, 47, 44, 37]
  | 1 => [114, 101, 99, 116]
  | 2 => [100, 105, 115, 99]
  | 3 => [115, 97, 121]
  | 4 => [101, 97, 99, 104]
  | 5 => [105, 102]
  | 6 => [114, 101, 99, 116, 32, 100, 105, 115, 99, 32, 115, 97, 121, 32, 101, 97, 99, 104, 32, 105, 102, 32, 102, 114, 111, 109, 32, 116, 111, 32, 105, 32, 106, 32, 107, 32, 109, 32, 110, 32, 119, 105, 100, 101, 32, 104, 105, 103, 104, 32, 112, 97, 105, 110, 116, 101, 114, 32, 111, 119, 110, 101, 114, 32, 116, 111, 119, 110, 32, 115, 99, 104, 111, 111, 108, 32, 114, 101, 115, 116, 32]
  | 7 => [119, 105, 100, 101]
  | 8 => [104, 105, 103, 104]
  | 9 => [102, 114, 111, 109]
  | 10 => [116, 111]
  | 11 => [114, 101, 115, 116]
  | 12 => [112, 97, 105, 110, 116, 101, 114]
  | 13 => [111, 119, 110, 101, 114]
  | 14 => [116, 111, 119, 110]
  | 15 => [115, 99, 104, 111, 111, 108]
  | 16 => [114, 101, 99, 116]
  | 17 => [100, 105, 115, 99]
  | 18 => [115, 97, 121]
  | 19 => [101, 97, 99, 104]
  | 20 => [105, 102]
  | 21 => [102, 114, 111, 109]
  | 22 => [116, 111]
  | 23 => [119, 105, 100, 101]
  | 24 => [104, 105, 103, 104]
  | 25 => [114, 101, 115, 116]
  | 26 => [112, 97, 105, 110, 116, 101, 114]
  | 27 => [111, 119, 110, 101, 114]
  | 28 => [116, 111, 119, 110]
  | 29 => [115, 99, 104, 111, 111, 108]
  | _ => []
def GZ (b : Nat) (F : Nat → Option AE) (z : ZX) : Prop := ∀ k, k < 30 → SB b F (z.1 k) (zt k).length (fun i => (zt k).getD i 0)
theorem ck_C : ∀ c, c < 128 → ckC (((Int32.ofNat c &&& 255).toUInt32 % 65536).toInt32) = some (Int32.ofNat c) ∧ ckC (Int32.ofNat c) = some (Int32.ofNat c) := by decide +kernel
/-- the letters of a text taken into a number -/
def wdF (c : Nat → Nat) : Nat → Nat → Int64 → Int64
  | 0, _, x => x
  | m + 1, i, x => wdF c m (i + 1) (32 * x + (Int32.ofNat (c i) - 97 + 1).toInt64)
def zw (k : Nat) : Int64 := wdF (fun i => (zt k).getD i 0) (zt k).length 0 0
/-- the class's numbers of known words: the texts are looked for in a row -/
def nmF (c : Nat → Nat) (v : Int64) : Nat → Nat → Nat → Int64 → Int32
  | 0, _, _, _ => -1
  | m + 1, i, k, p => if c i = 32 then (if p = v then Int32.ofNat k else nmF c v m (i + 1) (k + 1) 0) else nmF c v m (i + 1) k (p * 32 + (Int32.ofNat (c i) - 97 + 1).toInt64)
def wpF (c : Nat → Nat) : Nat → Nat → Int64 → Int64
  | 0, _, p => p
  | w + 1, i, p => wpF c w (i + 1) (p * 32 + (Int32.ofNat (c i) - 97 + 1).toInt64)
theorem nmF_w {c : Nat → Nat} {v : Int64} : ∀ (w m i k : Nat) (p : Int64), (∀ j, j < w → c (i + j) ≠ 32) → c (i + w) = 32 → nmF c v (w + 1 + m) i k p = if wpF c w i p = v then Int32.ofNat k else nmF c v m (i + w + 1) (k + 1) 0 := by
  intro w
  induction w with
  | zero =>
    intro m i k p h1 h2
    rw [show 0 + 1 + m = m + 1 by omega]
    exact if_pos h2
  | succ w ih =>
    intro m i k p h1 h2
    rw [show w + 1 + 1 + m = (w + 1 + m) + 1 by omega]
    refine (if_neg (h1 0 (by omega))).trans ?_
    have h := ih m (i + 1) k (p * 32 + (Int32.ofNat (c i) - 97 + 1).toInt64) (fun j hj => by rw [show i + 1 + j = i + (j + 1) by omega]; exact h1 (j + 1) (by omega)) (by rw [show i + 1 + w = i + (w + 1) by omega]; exact h2)
    rw [show i + 1 + w + 1 = i + (w + 1) + 1 by omega] at h
    exact h
def nmV (v : Int64) : Int32 := if zw 1 = v then 0 else if zw 2 = v then 1 else if zw 3 = v then 2 else if zw 4 = v then 3 else if zw 5 = v then 4 else if zw 9 = v then 5 else if zw 10 = v then 6 else if 9 = v then 7 else if 10 = v then 8 else if 11 = v then 9 else if 13 = v then 10 else if 14 = v then 11 else if zw 7 = v then 12 else if zw 8 = v then 13 else if zw 12 = v then 14 else if zw 13 = v then 15 else if zw 14 = v then 16 else if zw 15 = v then 17 else if zw 11 = v then 18 else -1
theorem nmV_F (v : Int64) : nmF (fun i => (zt 6).getD i 0) v 81 0 0 0 = nmV v := by
  have h0 : nmF (fun i => (zt 6).getD i 0) v 81 0 0 0 = if zw 1 = v then Int32.ofNat 0 else nmF (fun i => (zt 6).getD i 0) v 76 5 1 0 := by
    have e : wpF (fun i => (zt 6).getD i 0) 4 0 0 = zw 1 := by decide +kernel
    have h := nmF_w (c := fun i => (zt 6).getD i 0) (v := v) 4 76 0 0 0 (by decide +kernel) (by decide +kernel)
    rw [e] at h
    exact h
  have h1 : nmF (fun i => (zt 6).getD i 0) v 76 5 1 0 = if zw 2 = v then Int32.ofNat 1 else nmF (fun i => (zt 6).getD i 0) v 71 10 2 0 := by
    have e : wpF (fun i => (zt 6).getD i 0) 4 5 0 = zw 2 := by decide +kernel
    have h := nmF_w (c := fun i => (zt 6).getD i 0) (v := v) 4 71 5 1 0 (by decide +kernel) (by decide +kernel)
    rw [e] at h
    exact h
  have h2 : nmF (fun i => (zt 6).getD i 0) v 71 10 2 0 = if zw 3 = v then Int32.ofNat 2 else nmF (fun i => (zt 6).getD i 0) v 67 14 3 0 := by
    have e : wpF (fun i => (zt 6).getD i 0) 3 10 0 = zw 3 := by decide +kernel
    have h := nmF_w (c := fun i => (zt 6).getD i 0) (v := v) 3 67 10 2 0 (by decide +kernel) (by decide +kernel)
    rw [e] at h
    exact h
  have h3 : nmF (fun i => (zt 6).getD i 0) v 67 14 3 0 = if zw 4 = v then Int32.ofNat 3 else nmF (fun i => (zt 6).getD i 0) v 62 19 4 0 := by
    have e : wpF (fun i => (zt 6).getD i 0) 4 14 0 = zw 4 := by decide +kernel
    have h := nmF_w (c := fun i => (zt 6).getD i 0) (v := v) 4 62 14 3 0 (by decide +kernel) (by decide +kernel)
    rw [e] at h
    exact h
  have h4 : nmF (fun i => (zt 6).getD i 0) v 62 19 4 0 = if zw 5 = v then Int32.ofNat 4 else nmF (fun i => (zt 6).getD i 0) v 59 22 5 0 := by
    have e : wpF (fun i => (zt 6).getD i 0) 2 19 0 = zw 5 := by decide +kernel
    have h := nmF_w (c := fun i => (zt 6).getD i 0) (v := v) 2 59 19 4 0 (by decide +kernel) (by decide +kernel)
    rw [e] at h
    exact h
  have h5 : nmF (fun i => (zt 6).getD i 0) v 59 22 5 0 = if zw 9 = v then Int32.ofNat 5 else nmF (fun i => (zt 6).getD i 0) v 54 27 6 0 := by
    have e : wpF (fun i => (zt 6).getD i 0) 4 22 0 = zw 9 := by decide +kernel
    have h := nmF_w (c := fun i => (zt 6).getD i 0) (v := v) 4 54 22 5 0 (by decide +kernel) (by decide +kernel)
    rw [e] at h
    exact h
  have h6 : nmF (fun i => (zt 6).getD i 0) v 54 27 6 0 = if zw 10 = v then Int32.ofNat 6 else nmF (fun i => (zt 6).getD i 0) v 51 30 7 0 := by
    have e : wpF (fun i => (zt 6).getD i 0) 2 27 0 = zw 10 := by decide +kernel
    have h := nmF_w (c := fun i => (zt 6).getD i 0) (v := v) 2 51 27 6 0 (by decide +kernel) (by decide +kernel)
    rw [e] at h
    exact h
  have h7 : nmF (fun i => (zt 6).getD i 0) v 51 30 7 0 = if 9 = v then Int32.ofNat 7 else nmF (fun i => (zt 6).getD i 0) v 49 32 8 0 := by
    have e : wpF (fun i => (zt 6).getD i 0) 1 30 0 = 9 := by decide +kernel
    have h := nmF_w (c := fun i => (zt 6).getD i 0) (v := v) 1 49 30 7 0 (by decide +kernel) (by decide +kernel)
    rw [e] at h
    exact h
  have h8 : nmF (fun i => (zt 6).getD i 0) v 49 32 8 0 = if 10 = v then Int32.ofNat 8 else nmF (fun i => (zt 6).getD i 0) v 47 34 9 0 := by
    have e : wpF (fun i => (zt 6).getD i 0) 1 32 0 = 10 := by decide +kernel
    have h := nmF_w (c := fun i => (zt 6).getD i 0) (v := v) 1 47 32 8 0 (by decide +kernel) (by decide +kernel)
    rw [e] at h
    exact h
  have h9 : nmF (fun i => (zt 6).getD i 0) v 47 34 9 0 = if 11 = v then Int32.ofNat 9 else nmF (fun i => (zt 6).getD i 0) v 45 36 10 0 := by
    have e : wpF (fun i => (zt 6).getD i 0) 1 34 0 = 11 := by decide +kernel
    have h := nmF_w (c := fun i => (zt 6).getD i 0) (v := v) 1 45 34 9 0 (by decide +kernel) (by decide +kernel)
    rw [e] at h
    exact h
  have h10 : nmF (fun i => (zt 6).getD i 0) v 45 36 10 0 = if 13 = v then Int32.ofNat 10 else nmF (fun i => (zt 6).getD i 0) v 43 38 11 0 := by
    have e : wpF (fun i => (zt 6).getD i 0) 1 36 0 = 13 := by decide +kernel
    have h := nmF_w (c := fun i => (zt 6).getD i 0) (v := v) 1 43 36 10 0 (by decide +kernel) (by decide +kernel)
    rw [e] at h
    exact h
  have h11 : nmF (fun i => (zt 6).getD i 0) v 43 38 11 0 = if 14 = v then Int32.ofNat 11 else nmF (fun i => (zt 6).getD i 0) v 41 40 12 0 := by
    have e : wpF (fun i => (zt 6).getD i 0) 1 38 0 = 14 := by decide +kernel
    have h := nmF_w (c := fun i => (zt 6).getD i 0) (v := v) 1 41 38 11 0 (by decide +kernel) (by decide +kernel)
    rw [e] at h
    exact h
  have h12 : nmF (fun i => (zt 6).getD i 0) v 41 40 12 0 = if zw 7 = v then Int32.ofNat 12 else nmF (fun i => (zt 6).getD i 0) v 36 45 13 0 := by
    have e : wpF (fun i => (zt 6).getD i 0) 4 40 0 = zw 7 := by decide +kernel
    have h := nmF_w (c := fun i => (zt 6).getD i 0) (v := v) 4 36 40 12 0 (by decide +kernel) (by decide +kernel)
    rw [e] at h
    exact h
  have h13 : nmF (fun i => (zt 6).getD i 0) v 36 45 13 0 = if zw 8 = v then Int32.ofNat 13 else nmF (fun i => (zt 6).getD i 0) v 31 50 14 0 := by
    have e : wpF (fun i => (zt 6).getD i 0) 4 45 0 = zw 8 := by decide +kernel
    have h := nmF_w (c := fun i => (zt 6).getD i 0) (v := v) 4 31 45 13 0 (by decide +kernel) (by decide +kernel)
    rw [e] at h
    exact h
  have h14 : nmF (fun i => (zt 6).getD i 0) v 31 50 14 0 = if zw 12 = v then Int32.ofNat 14 else nmF (fun i => (zt 6).getD i 0) v 23 58 15 0 := by
    have e : wpF (fun i => (zt 6).getD i 0) 7 50 0 = zw 12 := by decide +kernel
    have h := nmF_w (c := fun i => (zt 6).getD i 0) (v := v) 7 23 50 14 0 (by decide +kernel) (by decide +kernel)
    rw [e] at h
    exact h
  have h15 : nmF (fun i => (zt 6).getD i 0) v 23 58 15 0 = if zw 13 = v then Int32.ofNat 15 else nmF (fun i => (zt 6).getD i 0) v 17 64 16 0 := by
    have e : wpF (fun i => (zt 6).getD i 0) 5 58 0 = zw 13 := by decide +kernel
    have h := nmF_w (c := fun i => (zt 6).getD i 0) (v := v) 5 17 58 15 0 (by decide +kernel) (by decide +kernel)
    rw [e] at h
    exact h
  have h16 : nmF (fun i => (zt 6).getD i 0) v 17 64 16 0 = if zw 14 = v then Int32.ofNat 16 else nmF (fun i => (zt 6).getD i 0) v 12 69 17 0 := by
    have e : wpF (fun i => (zt 6).getD i 0) 4 64 0 = zw 14 := by decide +kernel
    have h := nmF_w (c := fun i => (zt 6).getD i 0) (v := v) 4 12 64 16 0 (by decide +kernel) (by decide +kernel)
    rw [e] at h
    exact h
  have h17 : nmF (fun i => (zt 6).getD i 0) v 12 69 17 0 = if zw 15 = v then Int32.ofNat 17 else nmF (fun i => (zt 6).getD i 0) v 5 76 18 0 := by
    have e : wpF (fun i => (zt 6).getD i 0) 6 69 0 = zw 15 := by decide +kernel
    have h := nmF_w (c := fun i => (zt 6).getD i 0) (v := v) 6 5 69 17 0 (by decide +kernel) (by decide +kernel)
    rw [e] at h
    exact h
  have h18 : nmF (fun i => (zt 6).getD i 0) v 5 76 18 0 = if zw 11 = v then Int32.ofNat 18 else nmF (fun i => (zt 6).getD i 0) v 0 81 19 0 := by
    have e : wpF (fun i => (zt 6).getD i 0) 4 76 0 = zw 11 := by decide +kernel
    have h := nmF_w (c := fun i => (zt 6).getD i 0) (v := v) 4 0 76 18 0 (by decide +kernel) (by decide +kernel)
    rw [e] at h
    exact h
  rw [h0, h1, h2, h3, h4, h5, h6, h7, h8, h9, h10, h11, h12, h13, h14, h15, h16, h17, h18]
  rfl
theorem nmV_b (v : Int64) : aW 1 (nmV v).toInt8.toInt32 = nmV v := by
  unfold nmV
  by_cases q0 : zw 1 = v
  · rw [if_pos q0]; decide
  rw [if_neg q0]
  by_cases q1 : zw 2 = v
  · rw [if_pos q1]; decide
  rw [if_neg q1]
  by_cases q2 : zw 3 = v
  · rw [if_pos q2]; decide
  rw [if_neg q2]
  by_cases q3 : zw 4 = v
  · rw [if_pos q3]; decide
  rw [if_neg q3]
  by_cases q4 : zw 5 = v
  · rw [if_pos q4]; decide
  rw [if_neg q4]
  by_cases q5 : zw 9 = v
  · rw [if_pos q5]; decide
  rw [if_neg q5]
  by_cases q6 : zw 10 = v
  · rw [if_pos q6]; decide
  rw [if_neg q6]
  by_cases q7 : 9 = v
  · rw [if_pos q7]; decide
  rw [if_neg q7]
  by_cases q8 : 10 = v
  · rw [if_pos q8]; decide
  rw [if_neg q8]
  by_cases q9 : 11 = v
  · rw [if_pos q9]; decide
  rw [if_neg q9]
  by_cases q10 : 13 = v
  · rw [if_pos q10]; decide
  rw [if_neg q10]
  by_cases q11 : 14 = v
  · rw [if_pos q11]; decide
  rw [if_neg q11]
  by_cases q12 : zw 7 = v
  · rw [if_pos q12]; decide
  rw [if_neg q12]
  by_cases q13 : zw 8 = v
  · rw [if_pos q13]; decide
  rw [if_neg q13]
  by_cases q14 : zw 12 = v
  · rw [if_pos q14]; decide
  rw [if_neg q14]
  by_cases q15 : zw 13 = v
  · rw [if_pos q15]; decide
  rw [if_neg q15]
  by_cases q16 : zw 14 = v
  · rw [if_pos q16]; decide
  rw [if_neg q16]
  by_cases q17 : zw 15 = v
  · rw [if_pos q17]; decide
  rw [if_neg q17]
  by_cases q18 : zw 11 = v
  · rw [if_pos q18]; decide
  rw [if_neg q18]
  decide
theorem cmp_eq0 (x y : Int64) : (lg_cmp x y = 0) ↔ x = y := by
  unfold lg_cmp
  by_cases h1 : x > y
  · rw [if_pos h1]
    refine ⟨fun q => absurd q (by decide), fun q => ?_⟩
    subst q
    exact absurd h1 Int64.lt_irrefl
  · rw [if_neg h1]
    by_cases h2 : x = y
    · rw [if_pos h2]
      exact ⟨fun _ => h2, fun _ => rfl⟩
    · rw [if_neg h2]
      exact ⟨fun q => absurd q (by decide), fun q => absurd q h2⟩
section STR
variable {b : Nat} {F : Nat → Option AE} {D E : Nat → Option KD} {I : Nat → Nat → Int32} {L : Nat → Nat → Int64} {P : Nat → Nat → Option Nat} {nx us : Nat}
theorem S_len {a n : Nat} {c : Nat → Nat} (h : SB b F a n c) : f_J0_length_8abf5 a (lay b F E I L P nx us) = some (Int32.ofNat n, (lay b F E I L P nx us)) := by
  obtain ⟨h1, v, f, g, h2, h3, h4, h5, h6, h7, h8⟩ := h
  have e1 := hM_F (F := F) (E := E) (I := I) (L := L) (P := P) (nx := nx) (us := us) h1
  have e2 := hM_F (F := F) (E := E) (I := I) (L := L) (P := P) (nx := nx) (us := us) h5
  have o : isO 99 (lay b F E I L P nx us) a = true := by unfold isO; rw [e1, h2]; rfl
  have g0 : gA 99 (lay b F E I L P nx us) a 0 = some v := by unfold gA gV; rw [e1, h2]; simp [h3, vA]
  have g1 : gI 99 (lay b F E I L P nx us) a 1 = some 0 := by unfold gI gV; rw [e1, h2]; simp [h4, vI]
  have n1 : aN (lay b F E I L P nx us) v = some (Int32.ofNat n) := by unfold aN; rw [e2, h6]
  have cb : ckB 0 = some 0 := by decide
  have e0 : ((1 : Int32) = 0) = False := by decide
  have sh : Int32.ofNat n >>> ((0 : Int32) &&& 31) = Int32.ofNat n := by
    have : Int32.ofNat n >>> (Int32.ofNat 0 &&& 31) = Int32.ofNat (n >>> 0) := oN_sshr (by omega) (by omega)
    exact this
  unfold f_J0_length_8abf5 f_J0_coder_7d493 f_J0_coder_7d493_14
  simp only [o, g0, g1, n1, cb, e0, if_true, if_false, b2, Option.bind_some, sh]
theorem S_chr {z : ZX} {a n i : Nat} {c : Nat → Nat} (h : SB b F a n c) (hi : i < n) : f_J0_charAt_5068e z a (Int32.ofNat i) (lay b F E I L P nx us) = some (Int32.ofNat (c i), (lay b F E I L P nx us)) := by
  obtain ⟨h1, v, f, g, h2, h3, h4, h5, h6, h7, h8⟩ := h
  have e1 := hM_F (F := F) (E := E) (I := I) (L := L) (P := P) (nx := nx) (us := us) h1
  have e2 := hM_F (F := F) (E := E) (I := I) (L := L) (P := P) (nx := nx) (us := us) h5
  have o : isO 99 (lay b F E I L P nx us) a = true := by unfold isO; rw [e1, h2]; rfl
  have g0 : gA 99 (lay b F E I L P nx us) a 0 = some v := by unfold gA gV; rw [e1, h2]; simp [h3, vA]
  have g1 : gI 99 (lay b F E I L P nx us) a 1 = some 0 := by unfold gI gV; rw [e1, h2]; simp [h4, vI]
  have n1 : aN (lay b F E I L P nx us) v = some (Int32.ofNat n) := by unfold aN; rw [e2, h6]
  have n2 : aI 21 (lay b F E I L P nx us) v (Int32.ofNat i) = some (Int32.ofNat (c i)) := by unfold aI; rw [e2, h6]; simp [iN_oN hi (by omega), (h8 i hi).1]
  have e0 : ((1 : Int32) = 0) = False := by decide
  have z1 : ckZ 1 = some 1 := by decide
  obtain ⟨k1, k2⟩ := ck_C (c i) (h8 i hi).2
  have q1 := oN_neg (w := i) (by omega)
  have q2 := oN_ltT hi (by omega)
  have hck : f_J0_checkIndex_df160 z (Int32.ofNat i) (Int32.ofNat n) (lay b F E I L P nx us) = some (lay b F E I L P nx us) := by
    unfold f_J0_checkIndex_df160 f_E4
    cases z.2.2 0 <;> simp only [tr, q1, q2, if_true, if_false, b2, Option.bind_some]
  unfold f_J0_charAt_5068e f_J0_isLatin1_aae02 f_J0_isLatin1_aae02_18 f_J1_charAt_3b067
  simp only [o, g0, g1, n1, n2, z1, e0, hck, k1, k2, if_true, if_false, b2, Option.bind_some]
theorem M_wdl {z : ZX} {a n : Nat} {c : Nat → Nat} (h : SB b F a n c) (hn : n ≤ 100) : ∀ (m i : Nat), i + m = n → ∀ (fu : Nat) (x : Int64), m < fu → f_X15_wordOf_4 z fu a x (Int32.ofNat i) (lay b F E I L P nx us) = some (wdF c m i x, (lay b F E I L P nx us)) := by
  intro m
  induction m with
  | zero =>
    intro i hi fu x hf
    obtain ⟨fu, rfl⟩ : ∃ f, fu = f + 1 := ⟨fu - 1, by omega⟩
    have : i = n := by omega
    subst this
    unfold f_X15_wordOf_4
    simp only [S_len h, b2, Option.bind_some, Int32.le_refl, if_true]
    rfl
  | succ m ih =>
    intro i hi fu x hf
    obtain ⟨fu, rfl⟩ : ∃ f, fu = f + 1 := ⟨fu - 1, by omega⟩
    have e2 := oN_leF (show i < n by omega) (by omega)
    unfold f_X15_wordOf_4
    simp only [S_len h, S_chr (z := z) h (show i < n by omega), b2, lt, Option.bind_some, e2, if_false, oN_succ]
    exact ih (i + 1) (by omega) fu _ (by omega)
theorem M_wordOf {z : ZX} {k : Nat} (hz : GZ b F z) (hk : k < 30) : f_X15_wordOf z (z.1 k) (lay b F E I L P nx us) = some (zw k, (lay b F E I L P nx us)) := by
  have h := hz k hk
  have hn : (zt k).length ≤ 100 := by obtain ⟨-, v, f, g, -, -, -, -, -, h7, -⟩ := h; exact h7
  exact M_wdl h hn (zt k).length 0 (by omega) FU 0 (by unfold FU; omega)
theorem X_nameOf {z : ZX} (hz : GZ b F z) (v : Int64) : f_X7_nameOf z v (lay b F E I L P nx us) = some (nmV v, (lay b F E I L P nx us)) := by
  have hsb : SB b F (z.1 6) 81 (fun i => (zt 6).getD i 0) := hz 6 (by decide)
  have hl := S_len (E := E) (I := I) (L := L) (P := P) (nx := nx) (us := us) hsb
  have lp : ∀ (m i : Nat), i + m = 81 → ∀ (fu k : Nat) (p : Int64), m < fu → f_X7_nameOf_7 z fu v (Int32.ofNat k) p (Int32.ofNat i) (lay b F E I L P nx us) = some (nmF (fun i => (zt 6).getD i 0) v m i k p, (lay b F E I L P nx us)) := by
    intro m
    induction m with
    | zero =>
      intro i hi fu k p hf
      obtain ⟨fu, rfl⟩ : ∃ f, fu = f + 1 := ⟨fu - 1, by omega⟩
      have : i = 81 := by omega
      subst this
      unfold f_X7_nameOf_7
      simp only [hl, b2, Option.bind_some, Int32.le_refl, if_true]
      rfl
    | succ m ih =>
      intro i hi fu k p hf
      obtain ⟨fu, rfl⟩ : ∃ f, fu = f + 1 := ⟨fu - 1, by omega⟩
      have e2 := oN_leF (show i < 81 by omega) (by omega)
      have hch := S_chr (z := z) (E := E) (I := I) (L := L) (P := P) (nx := nx) (us := us) hsb (show i < 81 by omega)
      have hlt : (zt 6).getD i 0 < 128 := (by decide +kernel : ∀ i, i < 81 → (zt 6).getD i 0 < 128) i (by omega)
      have hc : (Int32.ofNat ((zt 6).getD i 0) = 32) = ((zt 6).getD i 0 = 32) := propext (oN_eq (c := 32) (by omega) (by omega))
      have hv : (lg_cmp p v = 0) = (p = v) := propext (cmp_eq0 p v)
      by_cases c1 : (zt 6).getD i 0 = 32
      · have hT : (Int32.ofNat ((zt 6).getD i 0) = 32) = True := by rw [hc]; exact eq_true c1
        have eR : nmF (fun i => (zt 6).getD i 0) v (m + 1) i k p = if p = v then Int32.ofNat k else nmF (fun i => (zt 6).getD i 0) v m (i + 1) (k + 1) 0 := if_pos c1
        rw [eR]
        unfold f_X7_nameOf_7
        by_cases c2 : p = v
        · have hvT : (lg_cmp p v = 0) = True := by rw [hv]; exact eq_true c2
          rw [if_pos c2]
          simp only [hl, hch, b2, Option.bind_some, e2, if_false, hT, if_true, hvT]
        · have hvF : (lg_cmp p v = 0) = False := by rw [hv]; exact eq_false c2
          rw [if_neg c2]
          simp only [hl, hch, b2, lt, Option.bind_some, e2, if_false, hT, if_true, hvF, f_X7_nameOf_57, oN_succ]
          exact ih (i + 1) (by omega) fu (k + 1) 0 (by omega)
      · have hF : (Int32.ofNat ((zt 6).getD i 0) = 32) = False := by rw [hc]; exact eq_false c1
        have eR : nmF (fun i => (zt 6).getD i 0) v (m + 1) i k p = nmF (fun i => (zt 6).getD i 0) v m (i + 1) k (p * 32 + (Int32.ofNat ((zt 6).getD i 0) - 97 + 1).toInt64) := if_neg c1
        rw [eR]
        unfold f_X7_nameOf_7
        simp only [hl, hch, b2, lt, Option.bind_some, e2, if_false, hF, f_X7_nameOf_57, f_X7_withLetter, oN_succ]
        exact ih (i + 1) (by omega) fu k _ (by omega)
  have h0 := lp 81 0 (by omega) FU 0 0 (by unfold FU; omega)
  rw [nmV_F] at h0
  exact h0
end STR
