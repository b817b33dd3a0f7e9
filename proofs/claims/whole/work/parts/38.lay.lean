/-! ===== stage 2: the typed heap ===== -/
/-- a cell's kind: an array (its kind, its length), an object (its class; are its final references told by the rule cr) -/
abbrev KD : Type := (Nat × Nat) ⊕ (Nat × Bool)
/-- the kind of a field: 0 an int, 1 a long, 2 a reference -/
def fkT : FieldType → Nat
  | .long => 1
  | .object _ => 2
  | .array _ => 2
  | _ => 0
def fk (ci k : Nat) : Nat := match ci with
  | 0 => fkT (tyX0 k)
  | 1 => fkT (tyX1 k)
  | 2 => fkT (tyX2 k)
  | 3 => fkT (tyX3 k)
  | 4 => fkT (tyX4 k)
  | 5 => fkT (tyX5 k)
  | 6 => fkT (tyX6 k)
  | 7 => fkT (tyX7 k)
  | 8 => fkT (tyX8 k)
  | 9 => fkT (tyX9 k)
  | 10 => fkT (tyX10 k)
  | 11 => fkT (tyX11 k)
  | 12 => fkT (tyX12 k)
  | 13 => fkT (tyX13 k)
  | 14 => fkT (tyX14 k)
  | 15 => fkT (tyX15 k)
  | _ => 0
/-- where the final references of an object of class ci at cell c lead -/
def cr (ci c k : Nat) : Option Nat := match ci with
  | 0 => (match k with
    | 0 => some (c + 1)
    | 7 => some (53)
    | 9 => some (c + 2)
    | 10 => some (c + 3)
    | 11 => some (c + 4)
    | 13 => some (c + 5)
    | 14 => some (c + 6)
    | _ => none)
  | 1 => (match k with
    | 0 => some (c + 1)
    | 1 => some (c + 2)
    | 2 => some (c + 3)
    | 3 => some (c + 4)
    | _ => none)
  | 2 => (match k with
    | 0 => some (40)
    | 1 => some (45)
    | 4 => some (50)
    | 6 => some (51)
    | _ => none)
  | 3 => (match k with
    | 0 => some (1)
    | 1 => some (5)
    | 2 => some (13)
    | 4 => some (27)
    | 6 => some (28)
    | 8 => some (30)
    | 9 => some (31)
    | 11 => some (32)
    | _ => none)
  | 4 => (match k with
    | 1 => some (6)
    | 2 => some (7)
    | 3 => some (8)
    | 4 => some (9)
    | 5 => some (10)
    | 7 => some (11)
    | 8 => some (12)
    | _ => none)
  | 5 => (match k with
    | 0 => some (40)
    | 2 => some (55)
    | 3 => some (56)
    | 4 => some (57)
    | _ => none)
  | 6 => (match k with
    | 0 => some (1)
    | 2 => some (34)
    | 3 => some (35)
    | 4 => some (36)
    | 5 => some (37)
    | _ => none)
  | 7 => (match k with
    | 0 => some (41)
    | 1 => some (42)
    | 2 => some (43)
    | 7 => some (148)
    | _ => none)
  | 8 => (match k with
    | 11 => some (c + 1)
    | 12 => some (c + 2)
    | 13 => some (c + 3)
    | 14 => some (c + 4)
    | _ => none)
  | 9 => (match k with
    | 0 => some (2)
    | 2 => some (3)
    | 3 => some (4)
    | _ => none)
  | 10 => (match k with
    | 0 => some (1)
    | 2 => some (14)
    | 3 => some (15)
    | 4 => some (16)
    | 5 => some (17)
    | 6 => some (18)
    | 7 => some (19)
    | 8 => some (20)
    | 9 => some (21)
    | 10 => some (22)
    | 11 => some (23)
    | 16 => some (24)
    | 17 => some (25)
    | _ => none)
  | 11 => (match k with
    | 0 => some (1)
    | 1 => some (5)
    | 2 => some (13)
    | 3 => some (26)
    | 4 => some (33)
    | 5 => some (39)
    | 7 => some (40)
    | 8 => some (44)
    | 9 => some (52)
    | 11 => some (53)
    | 13 => some (54)
    | 14 => some (58)
    | 15 => some (65)
    | _ => none)
  | 12 => (match k with
    | 2 => some (c + 1)
    | 3 => some (c + 2)
    | 4 => some (c + 3)
    | 5 => some (c + 4)
    | 6 => some (c + 5)
    | 7 => some (c + 6)
    | 8 => some (c + 7)
    | 9 => some (c + 8)
    | 10 => some (c + 9)
    | 11 => some (c + 10)
    | 12 => some (c + 11)
    | _ => none)
  | 13 => (match k with
    | 1 => some (c + 1)
    | 2 => some (c + 2)
    | _ => none)
  | 15 => (match k with
    | 6 => some (73)
    | 7 => some (74)
    | 8 => some (75)
    | 9 => some (76)
    | 10 => some (77)
    | 11 => some (78)
    | 12 => some (79)
    | 13 => some (80)
    | 14 => some (81)
    | 15 => some (82)
    | 16 => some (83)
    | 17 => some (84)
    | 18 => some (85)
    | 19 => some (86)
    | 20 => some (87)
    | 21 => some (88)
    | 22 => some (89)
    | 23 => some (90)
    | 24 => some (91)
    | 39 => some (92)
    | 42 => some (105)
    | 43 => some (106)
    | 44 => some (107)
    | 45 => some (108)
    | 46 => some (109)
    | 51 => some (110)
    | 60 => some (111)
    | 61 => some (112)
    | 62 => some (113)
    | 63 => some (114)
    | 64 => some (115)
    | 65 => some (116)
    | 66 => some (117)
    | 67 => some (118)
    | 68 => some (119)
    | 69 => some (120)
    | 70 => some (121)
    | 71 => some (122)
    | 79 => some (123)
    | 80 => some (124)
    | 81 => some (125)
    | 82 => some (126)
    | 83 => some (127)
    | 84 => some (128)
    | 85 => some (129)
    | 86 => some (130)
    | 87 => some (131)
    | 88 => some (132)
    | 89 => some (133)
    | 90 => some (134)
    | 91 => some (135)
    | 92 => some (136)
    | 93 => some (137)
    | 94 => some (138)
    | 96 => some (139)
    | 97 => some (140)
    | 98 => some (141)
    | 99 => some (142)
    | 100 => some (143)
    | 104 => some (144)
    | _ => none)
  | _ => none
def KTl : List KD := [.inr (11, true), .inr (9, true), .inl (5, 16), .inl (0, 16), .inl (0, 256), .inr (4, true), .inl (0, 10), .inl (0, 10), .inl (0, 10), .inl (0, 160), .inl (0, 160), .inl (0, 300), .inl (0, 300), .inr (10, true), .inl (0, 40), .inl (0, 40), .inl (0, 40), .inl (0, 40), .inl (0, 40), .inl (0, 40), .inl (0, 40), .inl (0, 40), .inl (0, 40), .inl (0, 115), .inl (0, 60), .inl (0, 60), .inr (3, true), .inl (0, 6), .inl (0, 60), .inl (0, 0), .inl (0, 6), .inl (0, 6), .inl (0, 16), .inr (6, true), .inl (0, 100), .inl (0, 100), .inl (0, 100), .inl (0, 9), .inl (0, 0), .inl (1, 400), .inr (7, true), .inl (0, 401), .inl (0, 401), .inl (4, 401), .inr (2, true), .inr (1, true), .inl (1, 360), .inl (3, 360), .inl (3, 360), .inl (4, 40), .inl (0, 6), .inl (0, 21), .inl (6, 12), .inl (4, 12), .inr (5, true), .inl (0, 9), .inl (0, 72), .inl (0, 72), .inr (0, true), .inl (1, 192), .inl (2, 192), .inl (0, 5), .inl (0, 32), .inl (0, 6), .inl (0, 6), .inr (0, true), .inl (1, 192), .inl (2, 192), .inl (0, 5), .inl (0, 32), .inl (0, 6), .inl (0, 6), .inr (15, true), .inl (0, 16), .inl (0, 16), .inl (0, 16), .inl (0, 16), .inl (0, 16), .inl (0, 16), .inl (0, 16), .inl (0, 16), .inl (0, 16), .inl (0, 16), .inl (2, 16), .inl (2, 3072), .inl (2, 256), .inl (0, 3072), .inl (0, 3072), .inl (0, 3072), .inl (0, 256), .inr (14, true), .inl (1, 400), .inl (7, 12), .inr (12, true), .inl (0, 40), .inl (0, 40), .inl (0, 40), .inl (0, 40), .inl (0, 40), .inl (0, 40), .inl (0, 160), .inl (0, 160), .inl (0, 400), .inl (0, 400), .inl (4, 40), .inl (4, 12), .inl (0, 192), .inl (0, 5), .inl (0, 400), .inl (4, 40), .inl (0, 192), .inl (0, 10), .inl (0, 10), .inl (0, 160), .inl (0, 300), .inl (0, 300), .inl (0, 300), .inl (0, 300), .inl (0, 6), .inl (0, 6), .inl (0, 6), .inl (0, 16), .inl (0, 10), .inl (0, 40), .inl (0, 40), .inl (0, 40), .inl (0, 40), .inl (0, 40), .inl (0, 40), .inl (0, 40), .inl (0, 40), .inl (0, 40), .inl (0, 7680), .inl (0, 3650), .inl (0, 3650), .inl (0, 60), .inl (0, 60), .inl (0, 40), .inl (0, 40), .inl (0, 100), .inl (0, 100), .inl (0, 100), .inl (0, 9), .inl (0, 4608), .inl (8, 8), .inr (13, true), .inl (0, 8), .inl (0, 8), .inl (1, 401)]
def NS : Nat := 149
def KT (c : Nat) : Option KD := KTl[c]?
def kdf (E : Nat → Option KD) (c : Nat) : Option KD := if c < 149 then KT c else E c
/-- where cell c stands: cells are numbered as they are made, but for the 43rd, which has number 148 -/
def pmC (c : Nat) : Nat := if c < 42 then c else if c < 148 then c + 1 else if c = 148 then 42 else c
def ipC (x : Nat) : Nat := if x < 42 then x else if x = 42 then 148 else if x < 149 then x - 1 else x
theorem ipC_pm (c : Nat) : ipC (pmC c) = c := by unfold ipC pmC; (repeat' split) <;> omega
theorem pmC_ip (x : Nat) : pmC (ipC x) = x := by unfold ipC pmC; (repeat' split) <;> omega
theorem pmC_hi {c : Nat} (h : 149 ≤ c) : pmC c = c := by unfold pmC; rw [if_neg (by omega), if_neg (by omega), if_neg (by omega)]
theorem pmC_lt {c n : Nat} (h : 149 ≤ n) : pmC c < n ↔ c < n := by unfold pmC; (repeat' split) <;> omega
/-- the address of cell c -/
def ad (b c : Nat) : Nat := b + pmC c
def cA (b : Nat) (D : Nat → Option KD) (I : Nat → Nat → Int32) (L : Nat → Nat → Int64) (P : Nat → Nat → Option Nat) (c : Nat) : Option AE := match D c with
  | none => none
  | some (.inl q) => some (.inl (q.1, q.2, if q.1 ≤ 3 then .inl (I c) else if q.1 = 4 then .inr (.inl (L c)) else .inr (.inr (.inr (.inr (fun j => (P c j).map (ad b)))))))
  | some (.inr q) => some (.inr (q.1, fun k => match fk q.1 k with
    | 0 => .int (I c k)
    | 1 => .long (L c k)
    | _ => va_rf (match (if q.2 = true then cr q.1 c k else none) with
      | some j => some (ad b j)
      | none => (P c k).map (ad b))))
def layD (b : Nat) (F : Nat → Option AE) (D : Nat → Option KD) (I : Nat → Nat → Int32) (L : Nat → Nat → Int64) (P : Nat → Nat → Option Nat) (nx us : Nat) : AH := (b, b + nx, us, fun a => if a < b then F a else cA b D I L P (ipC (a - b)))
abbrev lay (b : Nat) (F : Nat → Option AE) (E : Nat → Option KD) (I : Nat → Nat → Int32) (L : Nat → Nat → Int64) (P : Nat → Nat → Option Nat) (nx us : Nat) : AH := layD b F (kdf E) I L P nx us
/-- cell c's row replaced -/
def u2 {α : Type} (I : Nat → α) (c : Nat) (f : α) : Nat → α := fun q => if q = c then f else I q
theorem u2_same {α : Type} (I : Nat → α) (c : Nat) (f : α) : u2 I c f c = f := if_pos rfl
theorem u2_ne {α : Type} {I : Nat → α} {c q : Nat} {f : α} (h : q ≠ c) : u2 I c f q = I q := if_neg h
theorem upd_same (f : Nat → Int32) (k : Nat) (x : Int32) : upd f k x k = x := if_pos rfl
theorem upd_ne {f : Nat → Int32} {k j : Nat} {x : Int32} (h : j ≠ k) : upd f k x j = f j := if_neg h
theorem ad_inj {b c d : Nat} : ad b c = ad b d ↔ c = d := by
  unfold ad
  constructor
  · intro h
    rw [← ipC_pm c, ← ipC_pm d, show pmC c = pmC d by omega]
  · intro h; rw [h]
section LAY
variable {b : Nat} {F : Nat → Option AE} {D : Nat → Option KD} {I : Nat → Nat → Int32} {L : Nat → Nat → Int64} {P : Nat → Nat → Option Nat} {nx us : Nat}
theorem hM_lay (c : Nat) : hM (layD b F D I L P nx us) (ad b c) = cA b D I L P c := by
  unfold hM layD ad
  show (if b + pmC c < b then F (b + pmC c) else cA b D I L P (ipC (b + pmC c - b))) = _
  rw [if_neg (by omega), Nat.add_sub_cancel_left, ipC_pm]
theorem cA_congr {D' : Nat → Option KD} {I' : Nat → Nat → Int32} {L' : Nat → Nat → Int64} {P' : Nat → Nat → Option Nat} {c : Nat} (h0 : D' c = D c) (h1 : I' c = I c) (h2 : L' c = L c) (h3 : P' c = P c) : cA b D' I' L' P' c = cA b D I L P c := by
  unfold cA
  rw [h0, h1, h2, h3]
/-- a cell replaced -/
theorem hS_lay {c : Nat} {e : AE} {I' : Nat → Nat → Int32} {L' : Nat → Nat → Int64} {P' : Nat → Nat → Option Nat} (he : cA b D I' L' P' c = some e) (h : ∀ q, q ≠ c → I' q = I q ∧ L' q = L q ∧ P' q = P q) : hS (layD b F D I L P nx us) (ad b c) e = layD b F D I' L' P' nx us := by
  unfold hS layD
  show (b, b + nx, us, fun q => if q = ad b c then some e else if q < b then F q else cA b D I L P (ipC (q - b))) = _
  congr 3
  funext q
  by_cases hq : q = ad b c
  · subst hq
    rw [if_pos rfl]
    unfold ad
    rw [if_neg (by omega), Nat.add_sub_cancel_left, ipC_pm, he]
  · rw [if_neg hq]
    by_cases hb : q < b
    · rw [if_pos hb, if_pos hb]
    · rw [if_neg hb, if_neg hb]
      have hc : ipC (q - b) ≠ c := by
        intro hc
        apply hq
        unfold ad
        rw [← hc, pmC_ip]
        omega
      obtain ⟨h1, h2, h3⟩ := h _ hc
      exact (cA_congr rfl h1 h2 h3).symm
/-- a new cell -/
theorem hN_at {n c : Nat} {e : AE} {D' : Nat → Option KD} {I' : Nat → Nat → Int32} {L' : Nat → Nat → Int64} {P' : Nat → Nat → Option Nat} (hc : pmC c = nx) (he : cA b D' I' L' P' c = some e) (h : ∀ q, q ≠ c → D' q = D q ∧ I' q = I q ∧ L' q = L q ∧ P' q = P q) : hN (layD b F D I L P nx us) n e = layD b F D' I' L' P' (nx + 1) (us + n) := by
  unfold hN layD
  show (b, b + nx + 1, us + n, fun q => if q = b + nx then some e else if q < b then F q else cA b D I L P (ipC (q - b))) = _
  refine congrArg (fun f => ((b, b + nx + 1, us + n, f) : AH)) (funext fun q => ?_)
  by_cases hq : q = b + nx
  · subst hq
    rw [if_pos rfl, if_neg (by omega), Nat.add_sub_cancel_left, ← hc, ipC_pm, he]
  · rw [if_neg hq]
    by_cases hb : q < b
    · rw [if_pos hb, if_pos hb]
    · rw [if_neg hb, if_neg hb]
      have hc : ipC (q - b) ≠ c := by
        intro hx
        apply hq
        rw [← hc, ← hx, pmC_ip]
        omega
      obtain ⟨h0, h1, h2, h3⟩ := h _ hc
      exact (cA_congr h0 h1 h2 h3).symm
theorem hN_lay {n : Nat} {e : AE} {D' : Nat → Option KD} {I' : Nat → Nat → Int32} {L' : Nat → Nat → Int64} {P' : Nat → Nat → Option Nat} (he : cA b D' I' L' P' nx = some e) (h : ∀ q, q ≠ nx → D' q = D q ∧ I' q = I q ∧ L' q = L q ∧ P' q = P q) (h0 : 149 ≤ nx := by omega) : hN (layD b F D I L P nx us) n e = layD b F D' I' L' P' (nx + 1) (us + n) := hN_at (pmC_hi h0) he h
/-! objects -/
theorem isO_lay {c ci : Nat} {l : Bool} (h : D c = some (.inr (ci, l))) : isO ci (layD b F D I L P nx us) (ad b c) = true := by
  unfold isO
  rw [hM_lay]
  unfold cA
  rw [h]
  simp
theorem gI_lay {c ci k : Nat} {l : Bool} (h : D c = some (.inr (ci, l))) (hk : fk ci k = 0) : gI ci (layD b F D I L P nx us) (ad b c) k = some (I c k) := by
  unfold gI gV
  rw [hM_lay]
  unfold cA
  rw [h]
  simp [hk, vI]
theorem gL_lay {c ci k : Nat} {l : Bool} (h : D c = some (.inr (ci, l))) (hk : fk ci k = 1) : gL ci (layD b F D I L P nx us) (ad b c) k = some (L c k) := by
  unfold gL gV
  rw [hM_lay]
  unfold cA
  rw [h]
  simp [hk, vL]
theorem gV_lay {c ci k : Nat} {l : Bool} (h : D c = some (.inr (ci, l))) (hk : fk ci k = 2) : gV ci (layD b F D I L P nx us) (ad b c) k = some (va_rf (match (if l = true then cr ci c k else none) with
      | some j => some (ad b j)
      | none => (P c k).map (ad b))) := by
  unfold gV
  rw [hM_lay]
  unfold cA
  rw [h]
  simp [hk]
theorem gA_cr {c ci k j : Nat} (h : D c = some (.inr (ci, true))) (hk : fk ci k = 2) (hj : cr ci c k = some j) : gA ci (layD b F D I L P nx us) (ad b c) k = some (ad b j) := by
  unfold gA
  rw [gV_lay h hk]
  simp [hj, va_rf, vA]
theorem gA_P {c ci k : Nat} {l : Bool} (h : D c = some (.inr (ci, l))) (hk : fk ci k = 2) (hj : l = true → cr ci c k = none) : gA ci (layD b F D I L P nx us) (ad b c) k = (P c k).map (ad b) := by
  unfold gA
  rw [gV_lay h hk]
  have hz : (if l = true then cr ci c k else none) = none := by
    cases l
    · rfl
    · rw [if_pos rfl]; exact hj rfl
  rw [hz]
  cases P c k <;> simp [va_rf, vA]
theorem pV_int {c ci k : Nat} {l : Bool} {x : Int32} (h : D c = some (.inr (ci, l))) (hk : fk ci k = 0) : pV ci (layD b F D I L P nx us) (ad b c) k (.int x) = some (layD b F D (u2 I c (upd (I c) k x)) L P nx us) := by
  unfold pV
  rw [hM_lay]
  unfold cA
  rw [h]
  have hb : (layD b F D I L P nx us).1 ≤ ad b c := by show b ≤ ad b c; unfold ad; omega
  simp only [hb, and_self, if_true]
  congr 1
  refine hS_lay ?_ (fun q hq => ⟨u2_ne hq, rfl, rfl⟩)
  unfold cA
  rw [h, u2_same]
  refine congrArg (fun f => (some (.inr (ci, f)) : Option AE)) (funext fun k' => ?_)
  unfold updV upd
  by_cases hkk : k' = k
  · subst hkk; simp [hk]
  · simp [hkk]
theorem pI_lay {c ci k : Nat} {l : Bool} {x : Int32} (h : D c = some (.inr (ci, l))) (hk : fk ci k = 0) : pI ci (layD b F D I L P nx us) (ad b c) k x = some (layD b F D (u2 I c (upd (I c) k x)) L P nx us) := pV_int h hk
theorem pZ_lay {c ci k : Nat} {l : Bool} {x : Int32} (h : D c = some (.inr (ci, l))) (hk : fk ci k = 0) (hx : x = 0 ∨ x = 1) : pZ ci (layD b F D I L P nx us) (ad b c) k x = some (layD b F D (u2 I c (upd (I c) k x)) L P nx us) := by
  unfold pZ
  rw [if_pos hx]
  exact pV_int h hk
theorem pL_lay {c ci k : Nat} {l : Bool} {x : Int64} (h : D c = some (.inr (ci, l))) (hk : fk ci k = 1) : pL ci (layD b F D I L P nx us) (ad b c) k x = some (layD b F D I (u2 L c (vp_updL (L c) k x)) P nx us) := by
  unfold pL pV
  rw [hM_lay]
  unfold cA
  rw [h]
  have hb : (layD b F D I L P nx us).1 ≤ ad b c := by show b ≤ ad b c; unfold ad; omega
  simp only [hb, and_self, if_true]
  congr 1
  refine hS_lay ?_ (fun q hq => ⟨rfl, u2_ne hq, rfl⟩)
  unfold cA
  rw [h, u2_same]
  refine congrArg (fun f => (some (.inr (ci, f)) : Option AE)) (funext fun k' => ?_)
  unfold updV vp_updL
  by_cases hkk : k' = k
  · subst hkk; simp [hk]
  · simp [hkk]
/-- a reference that is no final one of a finished object -/
theorem pQ_lay {c ci k : Nat} {l : Bool} {x : Option Nat} (h : D c = some (.inr (ci, l))) (hk : fk ci k = 2) (hj : l = true → cr ci c k = none) : pQ ci (layD b F D I L P nx us) (ad b c) k (x.map (ad b)) = some (layD b F D I L (u2 P c (va_up (P c) k x)) nx us) := by
  unfold pQ pV
  rw [hM_lay]
  unfold cA
  rw [h]
  have hb : (layD b F D I L P nx us).1 ≤ ad b c := by show b ≤ ad b c; unfold ad; omega
  simp only [hb, and_self, if_true]
  congr 1
  refine hS_lay ?_ (fun q hq => ⟨rfl, rfl, u2_ne hq⟩)
  have hz : (if l = true then cr ci c k else none) = none := by
    cases l
    · rfl
    · rw [if_pos rfl]; exact hj rfl
  unfold cA
  rw [h, u2_same]
  refine congrArg (fun f => (some (.inr (ci, f)) : Option AE)) (funext fun k' => ?_)
  unfold updV va_up
  by_cases hkk : k' = k
  · subst hkk; simp [hk, hz]
  · simp [hkk]
/-! arrays -/
theorem aN_lay {c t n : Nat} (h : D c = some (.inl (t, n))) : aN (layD b F D I L P nx us) (ad b c) = some (Int32.ofNat n) := by
  unfold aN
  rw [hM_lay]
  unfold cA
  rw [h]
theorem aI_lay {c t n : Nat} {i : Int32} (h : D c = some (.inl (t, n))) (ht : t ≤ 3) : aI t (layD b F D I L P nx us) (ad b c) i = (iN i n).map (I c) := by
  unfold aI
  rw [hM_lay]
  unfold cA
  rw [h]
  simp [ht]
theorem aL_lay {c n : Nat} {i : Int32} (h : D c = some (.inl (4, n))) : aL (layD b F D I L P nx us) (ad b c) i = (iN i n).map (L c) := by
  unfold aL
  rw [hM_lay]
  unfold cA
  rw [h]
  simp
theorem aQ_lay {c t n : Nat} {i : Int32} (h : D c = some (.inl (t, n))) (ht : 4 < t) : aQ t (layD b F D I L P nx us) (ad b c) i = (iN i n).map (fun j => (P c j).map (ad b)) := by
  unfold aQ
  rw [hM_lay]
  unfold cA
  rw [h]
  have h1 : ¬ t ≤ 3 := by omega
  have h2 : t ≠ 4 := by omega
  simp [h1, h2]
theorem sI_lay {c t n : Nat} {i x : Int32} (h : D c = some (.inl (t, n))) (ht : t ≤ 3) : sI t (layD b F D I L P nx us) (ad b c) i x = (iN i n).map (fun j => layD b F D (u2 I c (upd (I c) j (aW t x))) L P nx us) := by
  unfold sI
  rw [hM_lay]
  unfold cA
  rw [h]
  have hb : (layD b F D I L P nx us).1 ≤ ad b c := by show b ≤ ad b c; unfold ad; omega
  simp only [ht, if_true, hb, and_self]
  cases iN i n with
  | none => rfl
  | some j =>
    simp only [Option.map_some]
    congr 1
    refine hS_lay ?_ (fun q hq => ⟨u2_ne hq, rfl, rfl⟩)
    unfold cA
    rw [h, u2_same]
    simp [ht]
theorem sL_lay {c n : Nat} {i : Int32} {x : Int64} (h : D c = some (.inl (4, n))) : sL (layD b F D I L P nx us) (ad b c) i x = (iN i n).map (fun j => layD b F D I (u2 L c (vp_updL (L c) j x)) P nx us) := by
  unfold sL
  rw [hM_lay]
  unfold cA
  rw [h]
  have hb : (layD b F D I L P nx us).1 ≤ ad b c := by show b ≤ ad b c; unfold ad; omega
  simp [hb]
  cases iN i n with
  | none => rfl
  | some j =>
    simp only [Option.map_some]
    congr 1
    refine hS_lay ?_ (fun q hq => ⟨rfl, u2_ne hq, rfl⟩)
    unfold cA
    rw [h, u2_same]
    simp
theorem sQ_lay {c t n ci x : Nat} {l : Bool} {i : Int32} (h : D c = some (.inl (t, n))) (ht : 4 < t) (hx : D x = some (.inr (ci, l))) : sQ t ci (layD b F D I L P nx us) (ad b c) i (ad b x) = (iN i n).map (fun j => layD b F D I L (u2 P c (va_up (P c) j (some x))) nx us) := by
  unfold sQ
  rw [hM_lay]
  unfold cA
  rw [h]
  have hb : (layD b F D I L P nx us).1 ≤ ad b c := by show b ≤ ad b c; unfold ad; omega
  have h1 : ¬ t ≤ 3 := by omega
  have h2 : t ≠ 4 := by omega
  simp only [h1, h2, if_false, hb, isO_lay hx, and_self, if_true]
  cases iN i n with
  | none => rfl
  | some j =>
    simp only [Option.map_some]
    congr 1
    refine hS_lay ?_ (fun q hq => ⟨rfl, rfl, u2_ne hq⟩)
    unfold cA
    rw [h, u2_same]
    simp only [h1, h2, if_false]
    refine congrArg (fun f => (some (.inl (t, n, .inr (.inr (.inr (.inr f))))) : Option AE)) (funext fun j' => ?_)
    unfold va_up
    by_cases hj : j' = j
    · subst hj; simp
    · simp [hj]
end LAY

