/-! ===== rules for the static cells; new cells; numbers ===== -/
section ST
variable {b : Nat} {F : Nat → Option AE} {D E : Nat → Option KD} {I : Nat → Nat → Int32} {L : Nat → Nat → Int64} {P : Nat → Nat → Option Nat} {nx us : Nat}
theorem kdf_KT {c : Nat} {k : KD} (h : KT c = some k) : kdf E c = some k := by
  unfold kdf
  have hc : c < 149 := (List.getElem?_eq_some_iff.mp h).1
  rw [if_pos hc, h]
theorem isO_s {c ci : Nat} (h : KT c = some (.inr (ci, true))) : isO ci (lay b F E I L P nx us) (ad b c) = true := isO_lay (kdf_KT h)
theorem gI_s {c ci k : Nat} (h : KT c = some (.inr (ci, true))) (hk : fk ci k = 0) : gI ci (lay b F E I L P nx us) (ad b c) k = some (I c k) := gI_lay (kdf_KT h) hk
theorem gL_s {c ci k : Nat} (h : KT c = some (.inr (ci, true))) (hk : fk ci k = 1) : gL ci (lay b F E I L P nx us) (ad b c) k = some (L c k) := gL_lay (kdf_KT h) hk
theorem gA_s {c ci k : Nat} (h : KT c = some (.inr (ci, true))) (hk : fk ci k = 2) (hj : (cr ci c k).isSome = true) : gA ci (lay b F E I L P nx us) (ad b c) k = (cr ci c k).map (ad b) := by
  obtain ⟨j, hj⟩ := Option.isSome_iff_exists.mp hj
  rw [gA_cr (kdf_KT h) hk hj, hj]
  rfl
theorem gA_sP {c ci k : Nat} (h : KT c = some (.inr (ci, true))) (hk : fk ci k = 2) (hj : cr ci c k = none) : gA ci (lay b F E I L P nx us) (ad b c) k = (P c k).map (ad b) := gA_P (kdf_KT h) hk (fun _ => hj)
theorem pI_s {c ci k : Nat} {x : Int32} (h : KT c = some (.inr (ci, true))) (hk : fk ci k = 0) : pI ci (lay b F E I L P nx us) (ad b c) k x = some (lay b F E (u2 I c (upd (I c) k x)) L P nx us) := pI_lay (kdf_KT h) hk
theorem pZ_s {c ci k : Nat} {x : Int32} (h : KT c = some (.inr (ci, true))) (hk : fk ci k = 0) (hx : x = 0 ∨ x = 1) : pZ ci (lay b F E I L P nx us) (ad b c) k x = some (lay b F E (u2 I c (upd (I c) k x)) L P nx us) := pZ_lay (kdf_KT h) hk hx
theorem pL_s {c ci k : Nat} {x : Int64} (h : KT c = some (.inr (ci, true))) (hk : fk ci k = 1) : pL ci (lay b F E I L P nx us) (ad b c) k x = some (lay b F E I (u2 L c (vp_updL (L c) k x)) P nx us) := pL_lay (kdf_KT h) hk
/-- the length of a static array -/
def ln (c : Nat) : Nat := match KT c with
  | some (.inl q) => q.2
  | _ => 0
def tk (c : Nat) : Nat := match KT c with
  | some (.inl q) => q.1
  | _ => 99
theorem KT_arr {c t : Nat} (ht : tk c = t) (h99 : t ≠ 99) : KT c = some (.inl (t, ln c)) := by
  unfold tk at ht
  unfold ln
  split at ht
  · rename_i q hq
    rw [hq, ← ht]
  · exact absurd ht.symm h99
theorem aN_s {c : Nat} (ht : tk c ≠ 99) : aN (lay b F E I L P nx us) (ad b c) = some (Int32.ofNat (ln c)) := aN_lay (kdf_KT (KT_arr rfl ht))
theorem aI_s {c t : Nat} {i : Int32} (ht : tk c = t ∧ t ≤ 3) : aI t (lay b F E I L P nx us) (ad b c) i = (iN i (ln c)).map (I c) := aI_lay (kdf_KT (KT_arr ht.1 (by omega))) ht.2
theorem aL_s {c : Nat} {i : Int32} (ht : tk c = 4) : aL (lay b F E I L P nx us) (ad b c) i = (iN i (ln c)).map (L c) := aL_lay (kdf_KT (KT_arr ht (by decide)))
theorem aQ_s {c t : Nat} {i : Int32} (ht : tk c = t ∧ 4 < t ∧ t < 99) : aQ t (lay b F E I L P nx us) (ad b c) i = (iN i (ln c)).map (fun j => (P c j).map (ad b)) := aQ_lay (kdf_KT (KT_arr ht.1 (by omega))) ht.2.1
theorem sI_s {c t : Nat} {i x : Int32} (ht : tk c = t ∧ t ≤ 3) : sI t (lay b F E I L P nx us) (ad b c) i x = (iN i (ln c)).map (fun j => lay b F E (u2 I c (upd (I c) j (aW t x))) L P nx us) := sI_lay (kdf_KT (KT_arr ht.1 (by omega))) ht.2
theorem sL_s {c : Nat} {i : Int32} {x : Int64} (ht : tk c = 4) : sL (lay b F E I L P nx us) (ad b c) i x = (iN i (ln c)).map (fun j => lay b F E I (u2 L c (vp_updL (L c) j x)) P nx us) := sL_lay (kdf_KT (KT_arr ht (by decide)))
/-! new cells -/
theorem nwA_at {t n c : Nat} (hc : pmC c = nx) (ht : t < 20) (hn : n ≤ 100000) (h1 : nx + 1 ≤ 601024) (h2 : us + n ≤ 7293034) : nwA t (Int32.ofNat n) (layD b F D I L P nx us) = some (ad b c, layD b F (u2 D c (some (.inl (t, n)))) (u2 I c (fun _ => 0)) (u2 L c (fun _ => 0)) (u2 P c (fun _ => none)) (nx + 1) (us + n)) := by
  have hp : (Int32.ofNat n).toInt = n := by
    rw [Int32.toInt_ofNat_of_lt (by omega)]
  have hn0 : ¬ Int32.ofNat n < 0 := by
    rw [Int32.lt_iff_toInt_lt, hp]
    simp
  have hn1 : (Int32.ofNat n).toNatClampNeg = n := by
    show (Int32.ofNat n).toInt.toNat = n
    rw [hp]; rfl
  have h1' : (layD b F D I L P nx us).2.1 + 1 ≤ (layD b F D I L P nx us).1 + 601024 := by
    show b + nx + 1 ≤ b + 601024
    omega
  have h2' : (layD b F D I L P nx us).2.2.1 + n ≤ 7293034 := h2
  unfold nwA
  rw [hn1, if_neg (by rintro (q | q); exact hn0 q; omega), if_pos ⟨h1', h2'⟩]
  have e1 : (layD b F D I L P nx us).2.1 = ad b c := by show b + nx = b + pmC c; rw [hc]
  rw [e1]
  refine congrArg (fun q => some (ad b c, q)) ?_
  refine hN_at hc ?_ (fun q hq => ⟨u2_ne hq, u2_ne hq, u2_ne hq, u2_ne hq⟩)
  unfold cA
  simp only [u2_same]
  by_cases h3 : t ≤ 3
  · simp [h3]
  · by_cases h4 : t = 4
    · simp [h4]
    · simp [h3, h4]
theorem nwA_lay {t n : Nat} (ht : t < 20) (hn : n ≤ 100000) (h1 : nx + 1 ≤ 601024) (h2 : us + n ≤ 7293034) (h0 : 149 ≤ nx := by omega) : nwA t (Int32.ofNat n) (layD b F D I L P nx us) = some (ad b nx, layD b F (u2 D nx (some (.inl (t, n)))) (u2 I nx (fun _ => 0)) (u2 L nx (fun _ => 0)) (u2 P nx (fun _ => none)) (nx + 1) (us + n)) := nwA_at (pmC_hi h0) ht hn h1 h2
def dv (ci k : Nat) : Value := match fk ci k with
  | 0 => .int 0
  | 1 => .long 0
  | _ => .null
theorem nwO_at {ci N c : Nat} {f : Nat → Value} (hc : pmC c = nx) (hf : f = dv ci) (h1 : nx + 1 ≤ 601024) (h2 : us + N ≤ 7293034) : nwO ci N f (layD b F D I L P nx us) = some (ad b c, layD b F (u2 D c (some (.inr (ci, false)))) (u2 I c (fun _ => 0)) (u2 L c (fun _ => 0)) (u2 P c (fun _ => none)) (nx + 1) (us + N)) := by
  have h1' : (layD b F D I L P nx us).2.1 + 1 ≤ (layD b F D I L P nx us).1 + 601024 := by
    show b + nx + 1 ≤ b + 601024
    omega
  have h2' : (layD b F D I L P nx us).2.2.1 + N ≤ 7293034 := h2
  unfold nwO
  rw [if_pos ⟨h1', h2'⟩]
  have e1 : (layD b F D I L P nx us).2.1 = ad b c := by show b + nx = b + pmC c; rw [hc]
  rw [e1]
  refine congrArg (fun q => some (ad b c, q)) ?_
  refine hN_at hc ?_ (fun q hq => ⟨u2_ne hq, u2_ne hq, u2_ne hq, u2_ne hq⟩)
  unfold cA
  simp only [u2_same]
  subst hf
  refine congrArg (fun f => (some (.inr (ci, f)) : Option AE)) (funext fun k => ?_)
  unfold dv
  split <;> simp_all [va_rf]
theorem nwO_lay {ci N : Nat} {f : Nat → Value} (hf : f = dv ci) (h1 : nx + 1 ≤ 601024) (h2 : us + N ≤ 7293034) (h0 : 149 ≤ nx := by omega) : nwO ci N f (layD b F D I L P nx us) = some (ad b nx, layD b F (u2 D nx (some (.inr (ci, false)))) (u2 I nx (fun _ => 0)) (u2 L nx (fun _ => 0)) (u2 P nx (fun _ => none)) (nx + 1) (us + N)) := nwO_at (pmC_hi h0) hf h1 h2
/-- an object whose final references are as the rule says is a finished one -/
theorem lay_fin {c ci : Nat} (h : D c = some (.inr (ci, false))) (hP : ∀ k j, fk ci k = 2 → cr ci c k = some j → P c k = some j) : layD b F D I L P nx us = layD b F (u2 D c (some (.inr (ci, true)))) I L P nx us := by
  unfold layD
  refine congrArg (fun f => ((b, b + nx, us, f) : AH)) (funext fun a => ?_)
  by_cases ha : a < b
  · rw [if_pos ha, if_pos ha]
  · rw [if_neg ha, if_neg ha]
    by_cases hc : ipC (a - b) = c
    · rw [hc]
      unfold cA
      rw [h, u2_same]
      refine congrArg (fun f => (some (.inr (ci, f)) : Option AE)) (funext fun k => ?_)
      have ht : ∀ ty, fkT ty = 0 ∨ fkT ty = 1 ∨ fkT ty = 2 := fun ty => by cases ty <;> simp [fkT]
      have hk : fk ci k = 0 ∨ fk ci k = 1 ∨ fk ci k = 2 := by
        unfold fk
        split <;> first | exact ht _ | simp
      rcases hk with hk | hk | hk
      · simp [hk]
      · simp [hk]
      · simp only [hk, Bool.false_eq_true, if_false, if_true]
        congr 1
        cases hz : cr ci c k with
        | none => rfl
        | some j => simp [hP k j hk hz]
    · exact (cA_congr (u2_ne hc) rfl rfl rfl).symm
theorem kdf_u2 {c : Nat} {k : Option KD} (h : 149 ≤ c) : u2 (kdf E) c k = kdf (u2 E c k) := by
  funext q
  by_cases hq : q = c
  · subst hq
    rw [u2_same]
    unfold kdf
    rw [if_neg (by omega), u2_same]
  · rw [u2_ne hq]
    unfold kdf
    rw [u2_ne hq]
end ST
/-! numbers -/
theorem oN_toInt {n : Nat} (h : n < 2147483648) : (Int32.ofNat n).toInt = n := Int32.toInt_ofNat_of_lt (by omega)
theorem oN_nn {n : Nat} (h : n < 2147483648) : (Int32.ofNat n).toNatClampNeg = n := by
  show (Int32.ofNat n).toInt.toNat = n
  rw [oN_toInt h]; rfl
theorem oN_lt {a c : Nat} (ha : a < 2147483648) (hc : c < 2147483648) : Int32.ofNat a < Int32.ofNat c ↔ a < c := by
  rw [Int32.lt_iff_toInt_lt, oN_toInt ha, oN_toInt hc]; omega
theorem oN_le {a c : Nat} (ha : a < 2147483648) (hc : c < 2147483648) : Int32.ofNat a ≤ Int32.ofNat c ↔ a ≤ c := by
  rw [Int32.le_iff_toInt_le, oN_toInt ha, oN_toInt hc]; omega
theorem oN_eq {a c : Nat} (ha : a < 2147483648) (hc : c < 2147483648) : Int32.ofNat a = Int32.ofNat c ↔ a = c := by
  constructor
  · intro h
    have := congrArg Int32.toInt h
    rw [oN_toInt ha, oN_toInt hc] at this
    omega
  · intro h; rw [h]
theorem oN_add (a c : Nat) : Int32.ofNat a + Int32.ofNat c = Int32.ofNat (a + c) := (Int32.ofNat_add a c).symm
theorem oN_mul (a c : Nat) : Int32.ofNat a * Int32.ofNat c = Int32.ofNat (a * c) := (Int32.ofNat_mul a c).symm
theorem iN_oN {a n : Nat} (h : a < n) (ha : a < 2147483648) : iN (Int32.ofNat a) n = some a := by
  unfold iN
  have h1 : ¬ Int32.ofNat a < 0 := by
    rw [Int32.lt_iff_toInt_lt, oN_toInt ha]
    simp
  rw [oN_nn ha, if_neg (by rintro (q | q); exact h1 q; omega)]
/-- a number that isn't negative -/
theorem nn_oN {x : Int32} (h : ¬ x < 0) : ∃ n : Nat, n < 2147483648 ∧ x = Int32.ofNat n := by
  refine ⟨x.toInt.toNat, ?_, ?_⟩
  · have := Int32.toInt_lt x; omega
  · apply Int32.toInt_inj.mp
    have h2 : 0 ≤ x.toInt := by
      rw [Int32.lt_iff_toInt_lt] at h
      simpa using h
    have h3 := Int32.toInt_lt x
    rw [oN_toInt (by omega)]
    omega
