/-! ===== drawing: a copy of the class's drawing ===== -/
theorem z0I : (0 : Int32).toNatClampNeg = 0 := by decide
theorem cpy_0 {α : Type} {f g : Nat → α} {m k : Nat} (h : k < m) : va_cpy f g 0 0 m k = f k := by
  unfold va_cpy
  rw [if_pos (by omega)]
  congr 1
  omega
theorem mx_0 {k : Nat} (h : k < 2147483648) : mxI 0 (Int32.ofNat k) = Int32.ofNat k := by
  unfold mxI
  by_cases h0 : k = 0
  · subst h0; rfl
  · exact if_pos ((oN_lt (a := 0) (by omega) h).mpr (by omega))
theorem mn_l {m n : Nat} (h : m ≤ n) (hn : n < 2147483648) : mnI (Int32.ofNat n) (Int32.ofNat m) = Int32.ofNat m := by
  unfold mnI
  by_cases h0 : m = n
  · subst h0; rw [if_neg (fun q => by have := (oN_lt hn hn).mp q; omega)]
  · rw [if_pos ((oN_lt (by omega) hn).mpr (by omega))]
theorem dX1_dv : dX1 = dv 1 := by
  funext k
  unfold dX1 dv
  simp only [fk]
  unfold tyX1
  split <;> first | rfl | (split <;> first | rfl | simp_all [fkT, defaultValue])
section CPD
variable {b : Nat} {F : Nat → Option AE} {D E : Nat → Option KD} {I : Nat → Nat → Int32} {L : Nat → Nat → Int64} {P : Nat → Nat → Option Nat} {nx us : Nat}
theorem cpI_lay {x y t n1 n2 m : Nat} (hx : D x = some (.inl (t, n1))) (hy : D y = some (.inl (t, n2))) (ht : t ≤ 3) (h1 : m ≤ n1) (h2 : m ≤ n2) (hm : m < 2147483648) (hf : ∀ z, z < m → fits (aT t) (.int (I x z)) = true) : cpI t (layD b F D I L P nx us) (ad b x) 0 (ad b y) 0 (Int32.ofNat m) = some (layD b F D (u2 I y (va_cpy (I x) (I y) 0 0 m)) L P nx us) := by
  have e1 : hM (layD b F D I L P nx us) (ad b x) = some (.inl (t, n1, .inl (I x))) := by
    rw [hM_lay]; unfold cA; rw [hx]; simp only [ht, if_true]
  have e2 : hM (layD b F D I L P nx us) (ad b y) = some (.inl (t, n2, .inl (I y))) := by
    rw [hM_lay]; unfold cA; rw [hy]; simp only [ht, if_true]
  have e0 : (Int32.ofNat m).toNatClampNeg = m := oN_nn hm
  have h3 : (List.range (Int32.ofNat m).toNatClampNeg).all (fun z => fits (aT t) (.int (I x ((0 : Int32).toNatClampNeg + z)))) = true := by
    rw [List.all_eq_true, e0, z0I]
    intro z hz
    rw [Nat.zero_add]
    exact hf z (List.mem_range.mp hz)
  have n0 : ¬ (0 : Int32) < 0 := by decide
  have nm : ¬ Int32.ofNat m < 0 := fun q => by have := (oN_lt (c := 0) hm (by omega)).mp q; omega
  have h4 : (layD b F D I L P nx us).1 ≤ ad b y := by show b ≤ ad b y; unfold ad; omega
  unfold cpI
  rw [e1, e2]
  refine (if_pos ⟨rfl, rfl, h4, n0, n0, nm, by rw [z0I, e0]; omega, by rw [z0I, e0]; omega, h3⟩).trans ?_
  rw [z0I, e0]
  congr 1
  refine hS_lay ?_ (fun q hq => ⟨u2_ne hq, rfl, rfl⟩)
  unfold cA
  rw [hy, u2_same]
  simp only [ht, if_true]
theorem cpL_lay {x y n1 n2 m : Nat} (hx : D x = some (.inl (4, n1))) (hy : D y = some (.inl (4, n2))) (h1 : m ≤ n1) (h2 : m ≤ n2) (hm : m < 2147483648) : cpL (layD b F D I L P nx us) (ad b x) 0 (ad b y) 0 (Int32.ofNat m) = some (layD b F D I (u2 L y (va_cpy (L x) (L y) 0 0 m)) P nx us) := by
  have e1 : hM (layD b F D I L P nx us) (ad b x) = some (.inl (4, n1, .inr (.inl (L x)))) := by
    rw [hM_lay]; unfold cA; rw [hx]; rfl
  have e2 : hM (layD b F D I L P nx us) (ad b y) = some (.inl (4, n2, .inr (.inl (L y)))) := by
    rw [hM_lay]; unfold cA; rw [hy]; rfl
  have e0 : (Int32.ofNat m).toNatClampNeg = m := oN_nn hm
  have n0 : ¬ (0 : Int32) < 0 := by decide
  have nm : ¬ Int32.ofNat m < 0 := fun q => by have := (oN_lt (c := 0) hm (by omega)).mp q; omega
  have h4 : (layD b F D I L P nx us).1 ≤ ad b y := by show b ≤ ad b y; unfold ad; omega
  unfold cpL
  rw [e1, e2]
  refine (if_pos ⟨rfl, rfl, h4, n0, n0, nm, by rw [z0I, e0]; omega, by rw [z0I, e0]; omega⟩).trans ?_
  rw [z0I, e0]
  congr 1
  refine hS_lay ?_ (fun q hq => ⟨rfl, u2_ne hq, rfl⟩)
  unfold cA
  rw [hy, u2_same]
  rfl
theorem clL_lay {x n : Nat} (hx : D x = some (.inl (4, n))) (h1 : nx + 1 ≤ 601024) (h2 : us + n ≤ 7293034) (h0 : 149 ≤ nx := by omega) : clL (layD b F D I L P nx us) (ad b x) = some (ad b nx, layD b F (u2 D nx (some (.inl (4, n)))) (u2 I nx (fun _ => 0)) (u2 L nx (L x)) (u2 P nx (fun _ => none)) (nx + 1) (us + n)) := by
  have e1 : hM (layD b F D I L P nx us) (ad b x) = some (.inl (4, n, .inr (.inl (L x)))) := by
    rw [hM_lay]; unfold cA; rw [hx]; rfl
  unfold clL
  rw [e1]
  refine (if_pos ⟨rfl, show b + nx + 1 ≤ b + 601024 by omega, h2⟩).trans ?_
  have : hN (layD b F D I L P nx us) n (.inl (4, n, .inr (.inl (L x)))) = layD b F (u2 D nx (some (.inl (4, n)))) (u2 I nx (fun _ => 0)) (u2 L nx (L x)) (u2 P nx (fun _ => none)) (nx + 1) (us + n) := by
    refine hN_lay ?_ (fun q hq => ⟨u2_ne hq, u2_ne hq, u2_ne hq, u2_ne hq⟩)
    unfold cA
    rw [u2_same, u2_same, u2_same]
    rfl
  have en : ad b nx = b + nx := by unfold ad; rw [pmC_hi h0]
  rw [this, en]
  rfl
theorem cp_B {x n1 m : Nat} (hx : D x = some (.inl (1, n1))) (hm : m < n1) (hn : n1 ≤ 100000) (hxn : x < nx) (r1 : nx + 1 ≤ 601024) (r2 : us + m ≤ 7293034) (hf : ∀ z, z < m → fits (aT 1) (.int (I x z)) = true) (h0 : 149 ≤ nx := by omega) : f_J7_copyOf_9075b (ad b x) (Int32.ofNat m) (layD b F D I L P nx us) = some (some (ad b nx), layD b F (u2 D nx (some (.inl (1, m)))) (u2 I nx (va_cpy (I x) (fun _ => 0) 0 0 m)) (u2 L nx (fun _ => 0)) (u2 P nx (fun _ => none)) (nx + 1) (us + m)) := by
  unfold f_J7_copyOf_9075b
  rw [aN_lay hx, Option.bind_some, if_neg (fun q => by have := (oN_eq (by omega) (by omega)).mp q; omega), nwA_r (by decide) (by omega) r1 r2, b2_p, aN_lay (show u2 D nx _ x = _ from (u2_ne (by omega)).trans hx), Option.bind_some, mn_l (by omega) (by omega), cpI_lay (show u2 D nx _ x = _ from (u2_ne (by omega)).trans hx) (u2_same _ _ _) (by decide) (by omega) (Nat.le_refl _) (by omega) (fun z hz => by rw [u2_ne (by omega)]; exact hf z hz), Option.bind_some, u2_u2, u2_same, u2_ne (by omega)]
theorem cp_S {x n1 m : Nat} (hx : D x = some (.inl (3, n1))) (hm : m < n1) (hn : n1 ≤ 100000) (hxn : x < nx) (r1 : nx + 1 ≤ 601024) (r2 : us + m ≤ 7293034) (hf : ∀ z, z < m → fits (aT 3) (.int (I x z)) = true) (h0 : 149 ≤ nx := by omega) : f_J7_copyOf_974b1 (ad b x) (Int32.ofNat m) (layD b F D I L P nx us) = some (some (ad b nx), layD b F (u2 D nx (some (.inl (3, m)))) (u2 I nx (va_cpy (I x) (fun _ => 0) 0 0 m)) (u2 L nx (fun _ => 0)) (u2 P nx (fun _ => none)) (nx + 1) (us + m)) := by
  unfold f_J7_copyOf_974b1
  rw [aN_lay hx, Option.bind_some, if_neg (fun q => by have := (oN_eq (by omega) (by omega)).mp q; omega), nwA_r (by decide) (by omega) r1 r2, b2_p, aN_lay (show u2 D nx _ x = _ from (u2_ne (by omega)).trans hx), Option.bind_some, mn_l (by omega) (by omega), cpI_lay (show u2 D nx _ x = _ from (u2_ne (by omega)).trans hx) (u2_same _ _ _) (by decide) (by omega) (Nat.le_refl _) (by omega) (fun z hz => by rw [u2_ne (by omega)]; exact hf z hz), Option.bind_some, u2_u2, u2_same, u2_ne (by omega)]
def cpW (L : Nat → Nat → Int64) (x n1 m : Nat) : Nat → Int64 := if m = n1 then L x else va_cpy (L x) (fun _ => 0) 0 0 m
theorem cpW_e {x n1 m k : Nat} (h : k < m) : cpW L x n1 m k = L x k := by
  unfold cpW
  split
  · rfl
  · exact cpy_0 h
theorem cp_W {x n1 m : Nat} (hx : D x = some (.inl (4, n1))) (hm : m ≤ n1) (hn : n1 ≤ 100000) (hxn : x < nx) (r1 : nx + 1 ≤ 601024) (r2 : us + m ≤ 7293034) (h0 : 149 ≤ nx := by omega) : f_J7_copyOf_c38d5 (ad b x) (Int32.ofNat m) (layD b F D I L P nx us) = some (some (ad b nx), layD b F (u2 D nx (some (.inl (4, m)))) (u2 I nx (fun _ => 0)) (u2 L nx (cpW L x n1 m)) (u2 P nx (fun _ => none)) (nx + 1) (us + m)) := by
  unfold f_J7_copyOf_c38d5 cpW
  by_cases hmn : m = n1
  · subst hmn
    rw [aN_lay hx, Option.bind_some, if_pos rfl, clL_lay hx r1 r2, b2_p, if_pos rfl]
  · rw [aN_lay hx, Option.bind_some, if_neg (fun q => by have := (oN_eq (by omega) (by omega)).mp q; omega), nwA_r (by decide) (by omega) r1 r2, b2_p, aN_lay (show u2 D nx _ x = _ from (u2_ne (by omega)).trans hx), Option.bind_some, mn_l (by omega) (by omega), cpL_lay (show u2 D nx _ x = _ from (u2_ne (by omega)).trans hx) (u2_same _ _ _) (by omega) (Nat.le_refl _) (by omega), Option.bind_some, u2_u2, u2_same, u2_ne (by omega), if_neg hmn]
/-- cells of a new drawing of the class -/
def cdE (E : Nat → Option KD) (a dl wc : Nat) : Nat → Option KD := u2 (u2 (u2 (u2 (u2 E (149 + a) (some (.inr (1, true)))) (149 + a + 1) (some (.inl (1, dl)))) (149 + a + 2) (some (.inl (3, dl)))) (149 + a + 3) (some (.inl (3, dl)))) (149 + a + 4) (some (.inl (4, wc)))
theorem X_cpD {c dl wc : Nat} (k45 : D 45 = some (.inr (1, true))) (k46 : D 46 = some (.inl (1, 360))) (k47 : D 47 = some (.inl (3, 360))) (k48 : D 48 = some (.inl (3, 360))) (k49 : D 49 = some (.inl (4, 40))) (hc : 148 ≤ c) (kc : D c = some (.inr (1, false))) (hT : TYp I) (h4 : I 45 4 = Int32.ofNat dl) (h5 : I 45 5 = Int32.ofNat wc) (hdl : dl < 360) (hwc : wc ≤ 40) (r1 : c + 5 ≤ 601024) (r2 : us + dl + dl + dl + wc ≤ 7293034) : ∃ I5 L5 P5, f_X1_init_ (ad b c) (ad b 45) (layD b F D I L P (c + 1) us) = some (layD b F (u2 (u2 (u2 (u2 D (c + 1) (some (.inl (1, dl)))) (c + 1 + 1) (some (.inl (3, dl)))) (c + 1 + 1 + 1) (some (.inl (3, dl)))) (c + 1 + 1 + 1 + 1) (some (.inl (4, wc)))) I5 L5 P5 (c + 1 + 1 + 1 + 1 + 1) (us + dl + dl + dl + wc)) ∧ (∀ q, q < c → I5 q = I q ∧ L5 q = L q ∧ P5 q = P q) ∧ I5 c 4 = Int32.ofNat dl ∧ I5 c 5 = Int32.ofNat wc ∧ P5 c 0 = some (c + 1) ∧ P5 c 1 = some (c + 2) ∧ P5 c 2 = some (c + 3) ∧ P5 c 3 = some (c + 4) ∧ (∀ k, k < dl → I5 (c + 1) k = I 46 k ∧ I5 (c + 2) k = I 47 k ∧ I5 (c + 3) k = I 48 k) ∧ ∀ k, k < wc → L5 (c + 4) k = L 49 k := by
  have d1 : ∀ q, q ≠ c + 1 → u2 D (c + 1) (some (.inl (1, dl))) q = D q := fun q h => u2_ne h
  have d2 : ∀ q, q ≠ c + 1 → q ≠ c + 1 + 1 → u2 (u2 D (c + 1) (some (.inl (1, dl)))) (c + 1 + 1) (some (.inl (3, dl))) q = D q := fun q h h' => by rw [u2_ne h', u2_ne h]
  have d3 : ∀ q, q ≠ c + 1 → q ≠ c + 1 + 1 → q ≠ c + 1 + 1 + 1 → u2 (u2 (u2 D (c + 1) (some (.inl (1, dl)))) (c + 1 + 1) (some (.inl (3, dl)))) (c + 1 + 1 + 1) (some (.inl (3, dl))) q = D q := fun q h h' h'' => by rw [u2_ne h'', u2_ne h', u2_ne h]
  have d4 : ∀ q, q ≠ c + 1 → q ≠ c + 1 + 1 → q ≠ c + 1 + 1 + 1 → q ≠ c + 1 + 1 + 1 + 1 → u2 (u2 (u2 (u2 D (c + 1) (some (.inl (1, dl)))) (c + 1 + 1) (some (.inl (3, dl)))) (c + 1 + 1 + 1) (some (.inl (3, dl)))) (c + 1 + 1 + 1 + 1) (some (.inl (4, wc))) q = D q := fun q h h' h'' h3 => by rw [u2_ne h3, u2_ne h'', u2_ne h', u2_ne h]
  have i1 : ∀ q, q < c → u2 I c (upd (upd (I c) 4 (Int32.ofNat dl)) 5 (Int32.ofNat wc)) q = I q := fun q hq => u2_ne (by omega)
  have q0 : ∀ (x : Nat) (A : Option (AH)) (B : Nat → Option (AH)), tr (some x) A B = B x := fun _ _ _ => rfl
  apply Exists.intro
  apply Exists.intro
  apply Exists.intro
  refine ⟨?_, ?_⟩
  · unfold f_X1_init_
    rw [gI_lay k45 (by decide), Option.bind_some, h4, mx_0 (by omega), pI_lay kc (by decide), Option.bind_some, gI_lay k45 (by decide), Option.bind_some, u2_ne (show 45 ≠ c by omega), h5, mx_0 (by omega), pI_lay kc (by decide), Option.bind_some, u2_u2, u2_same]
    rw [gA_cr k45 (by decide) (show cr 1 45 0 = some 46 from rfl), Option.bind_some, gI_lay kc (by decide), Option.bind_some, u2_same, upd_ne (by decide), upd_same]
    rw [cp_B k46 hdl (by decide) (by omega) (by omega) (by omega) (fun z _ => by rw [i1 46 (by omega)]; exact (hT z).1), b2_p, q0, i1 46 (by omega)]
    rw [pQ_r ((d1 c (by omega)).trans kc) (by decide), Option.bind_some]
    rw [gA_cr ((d1 45 (by omega)).trans k45) (by decide) (show cr 1 45 1 = some 47 from rfl), Option.bind_some, gI_lay ((d1 c (by omega)).trans kc) (by decide), Option.bind_some, u2_ne (show c ≠ c + 1 by omega) (f := va_cpy (I 46) (fun _ => 0) 0 0 dl), u2_same, upd_ne (by decide), upd_same]
    rw [cp_S ((d1 47 (by omega)).trans k47) hdl (by decide) (by omega) (by omega) (by omega) (fun z _ => by rw [u2_ne (by omega), i1 47 (by omega)]; exact (hT z).2.1), b2_p, q0]
    rw [pQ_r ((d2 c (by omega) (by omega)).trans kc) (by decide), Option.bind_some]
    rw [gA_cr ((d2 45 (by omega) (by omega)).trans k45) (by decide) (show cr 1 45 2 = some 48 from rfl), Option.bind_some, gI_lay ((d2 c (by omega) (by omega)).trans kc) (by decide), Option.bind_some, u2_ne (show c ≠ c + 1 + 1 by omega), u2_ne (show c ≠ c + 1 by omega) (f := va_cpy (I 46) (fun _ => 0) 0 0 dl), u2_same, upd_ne (by decide), upd_same]
    rw [cp_S ((d2 48 (by omega) (by omega)).trans k48) hdl (by decide) (by omega) (by omega) (by omega) (fun z _ => by rw [u2_ne (by omega), u2_ne (by omega), i1 48 (by omega)]; exact (hT z).2.2), b2_p, q0]
    rw [pQ_r ((d3 c (by omega) (by omega) (by omega)).trans kc) (by decide), Option.bind_some]
    rw [gA_cr ((d3 45 (by omega) (by omega) (by omega)).trans k45) (by decide) (show cr 1 45 3 = some 49 from rfl), Option.bind_some, gI_lay ((d3 c (by omega) (by omega) (by omega)).trans kc) (by decide), Option.bind_some, u2_ne (show c ≠ c + 1 + 1 + 1 by omega), u2_ne (show c ≠ c + 1 + 1 by omega), u2_ne (show c ≠ c + 1 by omega) (f := va_cpy (I 46) (fun _ => 0) 0 0 dl), u2_same, upd_same]
    rw [cp_W ((d3 49 (by omega) (by omega) (by omega)).trans k49) hwc (by decide) (by omega) (by omega) (by omega), b2_p, q0]
    rw [pQ_r ((d4 c (by omega) (by omega) (by omega) (by omega)).trans kc) (by decide), Option.bind_some]
  · have s2 : c + 2 = c + 1 + 1 := rfl
    have s3 : c + 3 = c + 1 + 1 + 1 := rfl
    have s4 : c + 4 = c + 1 + 1 + 1 + 1 := rfl
    rw [s2, s3, s4]
    refine ⟨fun q hq => ⟨?_, ?_, ?_⟩, ?_, ?_, ?_, ?_, ?_, ?_, fun k hk => ⟨?_, ?_, ?_⟩, fun k hk => ?_⟩
    · repeat rw [u2_ne (by omega)]
    · repeat rw [u2_ne (by omega)]
    · repeat rw [u2_ne (by omega)]
    · repeat rw [u2_ne (by omega)]
      rw [u2_same, upd_ne (by decide), upd_same]
    · repeat rw [u2_ne (by omega)]
      rw [u2_same, upd_same]
    · rw [u2_same, vup_ne (by decide), u2_ne (by omega), u2_same, vup_ne (by decide), u2_ne (by omega), u2_same, vup_ne (by decide), u2_ne (by omega), u2_same, vup_same]
    · rw [u2_same, vup_ne (by decide), u2_ne (by omega), u2_same, vup_ne (by decide), u2_ne (by omega), u2_same, vup_same]
    · rw [u2_same, vup_ne (by decide), u2_ne (by omega), u2_same, vup_same]
    · rw [u2_same, vup_same]
    · repeat rw [u2_ne (by omega)]
      rw [u2_same]
      exact cpy_0 hk
    · repeat rw [u2_ne (by omega)]
      rw [u2_same]
      refine (cpy_0 hk).trans ?_
      rw [u2_ne (by omega), u2_ne (by omega)]
    · repeat rw [u2_ne (by omega)]
      rw [u2_same]
      refine (cpy_0 hk).trans ?_
      rw [u2_ne (by omega), u2_ne (by omega), u2_ne (by omega)]
    · rw [u2_same]
      refine (cpW_e hk).trans ?_
      rw [u2_ne (by omega), u2_ne (by omega), u2_ne (by omega)]
/-- the class makes and fills a new drawing -/
def xNw (b : Nat) (h14 : AH) : Option (Nat × AH) := b2 (nwO 1 6 dX1 h14) fun a19 h20 => (gA 11 h20 (ad b 0) 8).bind fun a21 => (gA 2 h20 a21 1).bind fun a22 => (f_X1_init_ a19 a22 h20).bind fun h23 => some (a19, h23)
theorem X_newDr {a dl wc : Nat} (hT : TYp I) (h4 : I 45 4 = Int32.ofNat dl) (h5 : I 45 5 = Int32.ofNat wc) (hdl : dl < 360) (hwc : wc ≤ 40) (r1 : a + 5 + 149 ≤ 601024) (r2 : us + 6 + dl + dl + dl + wc ≤ 7293034) : ∃ I5 L5 P5, xNw b (lay b F E I L P (149 + a) us) = some (ad b (149 + a), lay b F (cdE E a dl wc) I5 L5 P5 (149 + a + 5) (us + 6 + dl + dl + dl + wc)) ∧ (∀ q, q < 149 + a → I5 q = I q ∧ L5 q = L q ∧ P5 q = P q) ∧ I5 (149 + a) 4 = Int32.ofNat dl ∧ I5 (149 + a) 5 = Int32.ofNat wc ∧ (∀ k, k < dl → I5 (149 + a + 1) k = I 46 k ∧ I5 (149 + a + 2) k = I 47 k ∧ I5 (149 + a + 3) k = I 48 k) ∧ ∀ k, k < wc → L5 (149 + a + 4) k = L 49 k := by
  have kd' : ∀ (q : Nat) (k : KD), q < 149 → KT q = some k → u2 (kdf E) (149 + a) (some (.inr (1, false))) q = some k := fun q k h1 h2 => by rw [u2_ne (by omega)]; exact kdf_KT h2
  have iq : ∀ q, q < 149 → u2 I (149 + a) (fun _ => (0 : Int32)) q = I q := fun q hq => u2_ne (by omega)
  obtain ⟨I5, L5, P5, z1, z2, z3, z4, z5, z6, z7, z8, z9, za⟩ := X_cpD (b := b) (F := F) (D := u2 (kdf E) (149 + a) (some (.inr (1, false)))) (I := u2 I (149 + a) (fun _ => 0)) (L := u2 L (149 + a) (fun _ => 0)) (P := u2 P (149 + a) (fun _ => none)) (us := us + 6) (c := 149 + a) (dl := dl) (wc := wc) (kd' 45 _ (by decide) (by decide)) (kd' 46 _ (by decide) (by decide)) (kd' 47 _ (by decide) (by decide)) (kd' 48 _ (by decide) (by decide)) (kd' 49 _ (by decide) (by decide)) (by omega) (u2_same _ _ _) (TYp.fr (iq 46 (by decide)) (iq 47 (by decide)) (iq 48 (by decide)) hT) (by rw [iq 45 (by decide)]; exact h4) (by rw [iq 45 (by decide)]; exact h5) hdl hwc (by omega) (by omega)
  refine ⟨I5, L5, P5, ?_, fun q hq => ?_, z3, z4, fun k hk => ?_, fun k hk => ?_⟩
  · unfold xNw
    rw [nwO_lay dX1_dv (by omega) (by omega), b2_p, gA_cr (kd' 0 _ (by decide) (by decide)) (by decide) (show cr 11 0 8 = some 44 from rfl), Option.bind_some, gA_cr (kd' 44 _ (by decide) (by decide)) (by decide) (show cr 2 44 1 = some 45 from rfl), Option.bind_some, z1, Option.bind_some]
    rw [lay_fin (c := 149 + a) (ci := 1)]
    · have hD : u2 (u2 (u2 (u2 (u2 (u2 (kdf E) (149 + a) (some (.inr (1, false)))) (149 + a + 1) (some (.inl (1, dl)))) (149 + a + 1 + 1) (some (.inl (3, dl)))) (149 + a + 1 + 1 + 1) (some (.inl (3, dl)))) (149 + a + 1 + 1 + 1 + 1) (some (.inl (4, wc)))) (149 + a) (some (.inr (1, true))) = kdf (cdE E a dl wc) := by
        unfold cdE
        rw [← kdf_u2 (by omega), ← kdf_u2 (by omega), ← kdf_u2 (by omega), ← kdf_u2 (by omega), ← kdf_u2 (by omega)]
        funext q
        by_cases hq : q = 149 + a
        · subst hq
          rw [u2_same, u2_ne (by omega), u2_ne (by omega), u2_ne (by omega), u2_ne (by omega), u2_same]
        · rw [u2_ne hq]
          unfold u2
          rw [if_neg hq, if_neg hq]
      rw [hD]
    · rw [u2_ne (by omega), u2_ne (by omega), u2_ne (by omega), u2_ne (by omega), u2_same]
    · intro k j hk hj
      unfold cr at hj
      simp only at hj
      split at hj
      · cases hj; exact z5
      · cases hj; exact z6
      · cases hj; exact z7
      · cases hj; exact z8
      · cases hj
  · obtain ⟨a1, a2, a3⟩ := z2 q hq
    rw [a1, a2, a3, u2_ne (by omega), u2_ne (by omega), u2_ne (by omega)]
    exact ⟨rfl, rfl, rfl⟩
  · obtain ⟨a1, a2, a3⟩ := z9 k hk
    rw [a1, a2, a3, iq 46 (by decide), iq 47 (by decide), iq 48 (by decide)]
    exact ⟨rfl, rfl, rfl⟩
  · rw [za k hk, u2_ne (by omega)]
end CPD
