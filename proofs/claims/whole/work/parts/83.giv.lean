/-! ===== give: bits of sixteen ===== -/
/-- the bits of a small number, by numbers -/
def bcN (s : Nat) : Nat :=
  (fun x1 => (fun x2 => (fun x3 => (fun x4 => Nat.land (Nat.add x4 (Nat.shiftRight x4 16)) 63) (Nat.add x3 (Nat.shiftRight x3 8))) (Nat.land (Nat.add x2 (Nat.shiftRight x2 4)) 252645135)) (Nat.add (Nat.land x1 858993459) (Nat.land (Nat.shiftRight x1 2) 858993459))) (Nat.sub s (Nat.land (Nat.shiftRight s 1) 1431655765))
def bcK (s : Nat) : Bool := (fun v => Bool.and (Nat.beq v (Nat.add (Nat.mod s 2) (bcN (Nat.div s 2)))) (Nat.beq v (Nat.add (bcN (Nat.land s (Nat.sub s 1))) (Nat.sub 1 (Nat.sub 1 s))))) (bcN s)
def allB (f : Nat → Bool) : Nat → Bool
  | 0 => true
  | n + 1 => Bool.and (f n) (allB f n)
theorem allB_t {f : Nat → Bool} : ∀ {n : Nat}, allB f n = true → ∀ k, k < n → f k = true := by
  intro n
  induction n with
  | zero => intro _ k hk; omega
  | succ n ih =>
    intro h k hk
    have h' : (f n && allB f n) = true := h
    rw [Bool.and_eq_true] at h'
    by_cases e : k = n
    · subst e; exact h'.1
    · exact ih h'.2 k (by omega)
theorem bcK_all : allB (fun i => allB (fun j => bcK (Nat.add (Nat.mul 256 i) j)) 256) 256 = true := by decide +kernel
theorem bcK_16 {s : Nat} (hs : s < 65536) : bcN s = s % 2 + bcN (s / 2) ∧ (s ≠ 0 → bcN s = bcN (s &&& (s - 1)) + 1) := by
  have h := allB_t (allB_t bcK_all (s / 256) (by omega)) (s % 256) (by omega)
  have e : Nat.add (Nat.mul 256 (s / 256)) (s % 256) = s := Nat.div_add_mod s 256
  rw [e] at h
  have h' : (Nat.beq (bcN s) (s % 2 + bcN (s / 2)) && Nat.beq (bcN s) (bcN (s &&& (s - 1)) + (1 - (1 - s)))) = true := h
  rw [Bool.and_eq_true] at h'
  refine ⟨Nat.eq_of_beq_eq_true h'.1, fun h0 => ?_⟩
  have := Nat.eq_of_beq_eq_true h'.2
  rw [this]
  omega
theorem oN_and (a c : Nat) : Int32.ofNat a &&& Int32.ofNat c = Int32.ofNat (a &&& c) := by
  rw [← Int32.toBitVec_inj, Int32.toBitVec_and]
  exact BitVec.ofNat_and.symm
theorem oN_shr {s : Nat} (hs : s < 4294967296) (k : Nat) (hk : k < 32) : ((Int32.ofNat s).toUInt32 >>> ((Int32.ofNat k).toUInt32 &&& Int32.toUInt32 31)).toInt32 = Int32.ofNat (s >>> k) := by
  rw [← Int32.toBitVec_inj]
  apply BitVec.eq_of_toNat_eq
  have hm : ∀ k, k < 32 → ((Int32.ofNat k).toUInt32 &&& Int32.toUInt32 31) = UInt32.ofNat k := by decide +kernel
  rw [hm k hk]
  show (UInt32.toBitVec ((Int32.ofNat s).toUInt32 >>> UInt32.ofNat k)).toNat = (BitVec.ofNat 32 (s >>> k)).toNat
  rw [UInt32.toBitVec_shiftRight]
  have e1 : ((UInt32.ofNat k).toBitVec % 32).toNat = k := by
    rw [BitVec.toNat_umod]
    have q : (UInt32.ofNat k).toBitVec.toNat = k := by
      show k % 4294967296 = k
      omega
    rw [q]
    exact Nat.mod_eq_of_lt hk
  rw [BitVec.ushiftRight_eq', BitVec.toNat_ushiftRight, e1]
  show (BitVec.ofNat 32 s).toNat >>> k = (BitVec.ofNat 32 (s >>> k)).toNat
  rw [BitVec.toNat_ofNat, BitVec.toNat_ofNat, Nat.mod_eq_of_lt (by omega), Nat.mod_eq_of_lt]
  have := Nat.shiftRight_le s k
  omega
theorem bcF_N {s : Nat} (hs : s < 65536) : bcF (Int32.ofNat s) = Int32.ofNat (bcN s) := by
  unfold bcF
  have a1 := Nat.shiftRight_le s 1
  have a2 : (s >>> 1) &&& 1431655765 ≤ s >>> 1 := Nat.and_le_left
  have e1 := oN_shr (s := s) (by omega) 1 (by omega)
  have c1 : (1 : Int32) = Int32.ofNat 1 := rfl
  have c2 : (2 : Int32) = Int32.ofNat 2 := rfl
  have c4 : (4 : Int32) = Int32.ofNat 4 := rfl
  have c8 : (8 : Int32) = Int32.ofNat 8 := rfl
  have c16 : (16 : Int32) = Int32.ofNat 16 := rfl
  have d1 : (1431655765 : Int32) = Int32.ofNat 1431655765 := rfl
  have d2 : (858993459 : Int32) = Int32.ofNat 858993459 := rfl
  have d3 : (252645135 : Int32) = Int32.ofNat 252645135 := rfl
  have d4 : (63 : Int32) = Int32.ofNat 63 := rfl
  have x1 : Int32.ofNat s - (((Int32.ofNat s).toUInt32 >>> ((1 : Int32).toUInt32 &&& Int32.toUInt32 31)).toInt32 &&& (1431655765 : Int32)) = Int32.ofNat (s - ((s >>> 1) &&& 1431655765)) := by
    rw [c1, e1, d1, oN_and, oN_sub (by omega)]
  show _ = Int32.ofNat ((fun x1 => (fun x2 => (fun x3 => (fun x4 => (x4 + (x4 >>> 16)) &&& 63) (x3 + (x3 >>> 8))) ((x2 + (x2 >>> 4)) &&& 252645135)) ((x1 &&& 858993459) + ((x1 >>> 2) &&& 858993459))) (s - ((s >>> 1) &&& 1431655765)))
  dsimp (zeta := true) only
  rw [x1]
  have b1 : s - ((s >>> 1) &&& 1431655765) < 65536 := by omega
  generalize s - ((s >>> 1) &&& 1431655765) = y at b1
  have e2 := oN_shr (s := y) (by omega) 2 (by omega)
  have x2 : (Int32.ofNat y &&& (858993459 : Int32)) + (((Int32.ofNat y).toUInt32 >>> ((2 : Int32).toUInt32 &&& Int32.toUInt32 31)).toInt32 &&& (858993459 : Int32)) = Int32.ofNat ((y &&& 858993459) + ((y >>> 2) &&& 858993459)) := by
    rw [c2, e2, d2, oN_and, oN_and, oN_add]
  rw [x2]
  have b2 : (y &&& 858993459) + ((y >>> 2) &&& 858993459) < 131072 := by
    have q1 : (y &&& 858993459) ≤ y := Nat.and_le_left
    have q2 : ((y >>> 2) &&& 858993459) ≤ y >>> 2 := Nat.and_le_left
    have q3 := Nat.shiftRight_le y 2
    omega
  generalize (y &&& 858993459) + ((y >>> 2) &&& 858993459) = z at b2
  have e3 := oN_shr (s := z) (by omega) 4 (by omega)
  have x3 : (Int32.ofNat z + ((Int32.ofNat z).toUInt32 >>> ((4 : Int32).toUInt32 &&& Int32.toUInt32 31)).toInt32) &&& (252645135 : Int32) = Int32.ofNat ((z + (z >>> 4)) &&& 252645135) := by
    rw [c4, e3, d3, oN_add, oN_and]
  rw [x3]
  have b3 : (z + (z >>> 4)) &&& 252645135 < 262144 := by
    have q1 : ((z + (z >>> 4)) &&& 252645135) ≤ z + (z >>> 4) := Nat.and_le_left
    have q3 := Nat.shiftRight_le z 4
    omega
  generalize (z + (z >>> 4)) &&& 252645135 = u at b3
  have e4 := oN_shr (s := u) (by omega) 8 (by omega)
  have x4 : Int32.ofNat u + ((Int32.ofNat u).toUInt32 >>> ((8 : Int32).toUInt32 &&& Int32.toUInt32 31)).toInt32 = Int32.ofNat (u + (u >>> 8)) := by
    rw [c8, e4, oN_add]
  rw [x4]
  have b4 : u + (u >>> 8) < 524288 := by
    have q3 := Nat.shiftRight_le u 8
    omega
  generalize u + (u >>> 8) = v at b4
  have e5 := oN_shr (s := v) (by omega) 16 (by omega)
  rw [c16, e5, d4, oN_add, oN_and]
/-- the reference's way of counting -/
theorem M_bitsN (h : AH) : ∀ (m s : Nat), s < 65536 → s ≤ m → ∀ n, s < n → ∀ a : Int32, f_X15_bits_4 n a (Int32.ofNat s) h = some (a + Int32.ofNat (bcN s), h) := by
  intro m
  induction m with
  | zero =>
    intro s hs hm n hn a
    obtain ⟨n, rfl⟩ : ∃ f, n = f + 1 := ⟨n - 1, by omega⟩
    have : s = 0 := by omega
    subst this
    have e : Int32.ofNat (bcN 0) = 0 := by decide
    rw [e, Int32.add_zero]
    rfl
  | succ m ih =>
    intro s hs hm n hn a
    obtain ⟨n, rfl⟩ : ∃ f, n = f + 1 := ⟨n - 1, by omega⟩
    by_cases h0 : s = 0
    · exact ih s hs (by omega) (n + 1) hn a
    have hne : (Int32.ofNat s = 0) = False := oN_ne (c := 0) h0 (by omega) (by omega)
    have e1 : Int32.ofNat s - 1 = Int32.ofNat (s - 1) := oN_sub (c := 1) (by omega)
    have hle : s &&& (s - 1) ≤ s - 1 := Nat.and_le_right
    have h2 := ih (s &&& (s - 1)) (by omega) (by omega) n (by omega) (a + 1)
    simp only [f_X15_bits_4, hne, if_false, lt, e1, oN_and, h2]
    rw [(bcK_16 hs).2 h0, show (1 : Int32) = Int32.ofNat 1 from rfl, Int32.add_assoc, oN_add, Nat.add_comm]
theorem M_bits16 {s : Nat} (hs : s < 65536) (h : AH) : f_X15_bits (Int32.ofNat s) h = some (Int32.ofNat (bcN s), h) := by
  unfold f_X15_bits
  rw [M_bitsN h s s hs (Nat.le_refl _) FU (by unfold FU; omega) 0, Int32.zero_add]
