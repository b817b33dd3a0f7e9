/-! ===== constructors: rules ===== -/
def rawK : KD → KD
  | .inl q => .inl q
  | .inr q => .inr (q.1, false)
/-- the kinds of the static cells while they are made -/
def RT (c : Nat) : Option KD := (KT c).map rawK
def Dn (n c : Nat) : Option KD := if pmC c < n then RT c else none
/-- references as a list of (cell, field, cell) -/
def plk : List (Nat × Nat × Nat) → Nat → Nat → Option Nat
  | [], _, _ => none
  | t :: m, c, k => if c = t.1 ∧ k = t.2.1 then some t.2.2 else plk m c k
def Sz (b : Nat) (F : Nat → Option AE) (n : Nat) (I : Nat → Nat → Int32) (m : List (Nat × Nat × Nat)) (us : Nat) : AH := layD b F (Dn n) I (fun _ _ => 0) (plk m) n us
def Bl (m : List (Nat × Nat × Nat)) (n : Nat) : Prop := ∀ c, n ≤ pmC c → plk m c = fun _ => none
def IZ (I : Nat → Nat → Int32) (n : Nat) : Prop := ∀ c, n ≤ pmC c → I c = fun _ => 0
theorem Bl_s {m : List (Nat × Nat × Nat)} {n n' : Nat} (h : Bl m n) (hn : n ≤ n') : Bl m n' := fun c hc => h c (by omega)
theorem Bl_at {m : List (Nat × Nat × Nat)} {n c : Nat} (h : Bl m n) (hn : n ≤ pmC c) : plk m c = fun _ => none := h c hn
theorem Bl_c {m : List (Nat × Nat × Nat)} {n c f y : Nat} (h : Bl m n) (hc : pmC c < n) : Bl ((c, f, y) :: m) n := fun q hq => by
  have hne : q ≠ c := fun e => by rw [e] at hq; omega
  funext k
  show (if q = c ∧ k = f then some y else plk m q k) = none
  rw [if_neg (fun w => hne w.1), h q hq]
theorem IZ_s {I : Nat → Nat → Int32} {n n' : Nat} (h : IZ I n) (hn : n ≤ n') : IZ I n' := fun c hc => h c (by omega)
theorem IZ_u {I : Nat → Nat → Int32} {n c : Nat} {f : Nat → Int32} (h : IZ I n) (hc : pmC c < n) : IZ (u2 I c f) n := fun q hq => by
  rw [u2_ne (fun e => by rw [e] at hq; omega)]
  exact h q hq
theorem plk_c {m : List (Nat × Nat × Nat)} {c f y : Nat} : u2 (plk m) c (va_up (plk m c) f (some y)) = plk ((c, f, y) :: m) := by
  funext q k
  show _ = (if q = c ∧ k = f then some y else plk m q k)
  by_cases hq : q = c
  · subst hq
    rw [u2_same]
    by_cases hk : k = f
    · subst hk
      rw [vup_same, if_pos ⟨rfl, rfl⟩]
    · rw [vup_ne hk, if_neg (fun h => hk h.2)]
  · rw [u2_ne hq, if_neg (fun h => hq h.1)]
theorem pmC_inj {c d : Nat} (h : pmC c = pmC d) : c = d := by rw [← ipC_pm c, ← ipC_pm d, h]
theorem Dn_s {n e : Nat} {k : KD} (he : pmC e = n) (h : RT e = some k) : u2 (Dn n) e (some k) = Dn (n + 1) := by
  funext q
  unfold u2 Dn
  by_cases hq : q = e
  · subst hq
    rw [if_pos rfl, if_pos (by omega), h]
  · have hne : pmC q ≠ n := fun w => hq (pmC_inj (w.trans he.symm))
    rw [if_neg hq]
    by_cases hq2 : pmC q < n
    · rw [if_pos hq2, if_pos (by omega)]
    · rw [if_neg hq2, if_neg (by omega)]
theorem Dn_at {n c : Nat} (h : pmC c < n) : Dn n c = RT c := if_pos h
theorem dX0_dv : dX0 = dv 0 := by
  funext k
  unfold dX0 dv
  simp only [fk]
  unfold tyX0
  split <;> first | rfl | (split <;> first | rfl | simp_all [fkT, defaultValue])
theorem dX2_dv : dX2 = dv 2 := by
  funext k
  unfold dX2 dv
  simp only [fk]
  unfold tyX2
  split <;> first | rfl | (split <;> first | rfl | simp_all [fkT, defaultValue])
theorem dX3_dv : dX3 = dv 3 := by
  funext k
  unfold dX3 dv
  simp only [fk]
  unfold tyX3
  split <;> first | rfl | (split <;> first | rfl | simp_all [fkT, defaultValue])
theorem dX4_dv : dX4 = dv 4 := by
  funext k
  unfold dX4 dv
  simp only [fk]
  unfold tyX4
  split <;> first | rfl | (split <;> first | rfl | simp_all [fkT, defaultValue])
theorem dX5_dv : dX5 = dv 5 := by
  funext k
  unfold dX5 dv
  simp only [fk]
  unfold tyX5
  split <;> first | rfl | (split <;> first | rfl | simp_all [fkT, defaultValue])
theorem dX6_dv : dX6 = dv 6 := by
  funext k
  unfold dX6 dv
  simp only [fk]
  unfold tyX6
  split <;> first | rfl | (split <;> first | rfl | simp_all [fkT, defaultValue])
theorem dX7_dv : dX7 = dv 7 := by
  funext k
  unfold dX7 dv
  simp only [fk]
  unfold tyX7
  split <;> first | rfl | (split <;> first | rfl | simp_all [fkT, defaultValue])
theorem dX9_dv : dX9 = dv 9 := by
  funext k
  unfold dX9 dv
  simp only [fk]
  unfold tyX9
  split <;> first | rfl | (split <;> first | rfl | simp_all [fkT, defaultValue])
theorem dX10_dv : dX10 = dv 10 := by
  funext k
  unfold dX10 dv
  simp only [fk]
  unfold tyX10
  split <;> first | rfl | (split <;> first | rfl | simp_all [fkT, defaultValue])
theorem dX11_dv : dX11 = dv 11 := by
  funext k
  unfold dX11 dv
  simp only [fk]
  unfold tyX11
  split <;> first | rfl | (split <;> first | rfl | simp_all [fkT, defaultValue])
theorem dX14_dv : dX14 = dv 14 := by
  funext k
  unfold dX14 dv
  simp only [fk]
  unfold tyX14
  split <;> first | rfl | (split <;> first | rfl | simp_all [fkT, defaultValue])
theorem dX15_dv : dX15 = dv 15 := by
  funext k
  unfold dX15 dv
  simp only [fk]
  unfold tyX15
  split <;> first | rfl | (split <;> first | rfl | simp_all [fkT, defaultValue])

section INI
variable {b : Nat} {F : Nat → Option AE} {I : Nat → Nat → Int32} {m : List (Nat × Nat × Nat)} {n n' us us' : Nat} {α : Type}
theorem zA {k t ci c f e : Nat} {x : Int32} {G : AH → Option α} (he : pmC e = n) (hx : x = Int32.ofNat k) (ht : t < 20) (hk : k ≤ 100000) (hr : RT e = some (.inl (t, k))) (hc : pmC c < n) (ho : RT c = some (.inr (ci, false))) (hf : fk ci f = 2) (hn : n' = n + 1) (hn2 : n + 1 ≤ 601024) (hu : us' = us + k) (hu2 : us + k ≤ 7293034) (hm : Bl m n) (hI : IZ I n) : b2 (nwA t x (Sz b F n I m us)) (fun a h => (pQ ci h (ad b c) f (some a)).bind G) = G (Sz b F n' I ((c, f, e) :: m) us') := by
  subst hx hn hu
  unfold Sz
  rw [nwA_at he ht hk hn2 hu2, b2_p, Dn_s he hr, u2_id' (hI e (Nat.le_of_eq he.symm)), u2_id' (show (fun _ _ => (0 : Int64)) e = _ from rfl), u2_id' (hm e (Nat.le_of_eq he.symm)), pQ_r ((Dn_at (by omega)).trans ho) hf, Option.bind_some, plk_c]
theorem zO {ci N e : Nat} {f : Nat → Value} {G : Nat → AH → Option α} (he : pmC e = n) (hf : f = dv ci) (hr : RT e = some (.inr (ci, false))) (hn : n' = n + 1) (hn2 : n + 1 ≤ 601024) (hu : us' = us + N) (hu2 : us + N ≤ 7293034) (hm : Bl m n) (hI : IZ I n) : b2 (nwO ci N f (Sz b F n I m us)) G = G (ad b e) (Sz b F n' I m us') := by
  subst hn hu
  unfold Sz
  rw [nwO_at he hf hn2 hu2, b2_p, Dn_s he hr, u2_id' (hI e (Nat.le_of_eq he.symm)), u2_id' (show (fun _ _ => (0 : Int64)) e = _ from rfl), u2_id' (hm e (Nat.le_of_eq he.symm))]
theorem zQ {ci c f y : Nat} {G : AH → Option α} (hc : pmC c < n) (ho : RT c = some (.inr (ci, false))) (hf : fk ci f = 2) : (pQ ci (Sz b F n I m us) (ad b c) f (some (ad b y))).bind G = G (Sz b F n I ((c, f, y) :: m) us) := by
  unfold Sz
  rw [pQ_r ((Dn_at hc).trans ho) hf, Option.bind_some, plk_c]
theorem zI {ci c f : Nat} {x : Int32} {G : AH → Option α} (hc : pmC c < n) (ho : RT c = some (.inr (ci, false))) (hf : fk ci f = 0) : (pI ci (Sz b F n I m us) (ad b c) f x).bind G = G (Sz b F n (u2 I c (upd (I c) f x)) m us) := by
  unfold Sz
  rw [pI_r ((Dn_at hc).trans ho) hf, Option.bind_some]
theorem zG {ci c f y : Nat} {G : Nat → Option α} (hc : pmC c < n) (ho : RT c = some (.inr (ci, false))) (hf : fk ci f = 2) (hy : plk m c f = some y) : (gA ci (Sz b F n I m us) (ad b c) f).bind G = G (ad b y) := by
  unfold Sz
  rw [gA_r ((Dn_at hc).trans ho) hf, hy]
  rfl
theorem zF {c k : Nat} {v : Int32} {G : AH → Option α} (hc : pmC c < n) (ho : RT c = some (.inl (0, k))) (hk : k ≤ 100000) : (f_J7_fill_53178 (ad b c) v (Sz b F n I m us)).bind G = G (Sz b F n (u2 I c (fun j => if j < k then v else I c j)) m us) := by
  unfold Sz
  rw [J_fillI v ((Dn_at hc).trans ho) hk, Option.bind_some]
/-- the diagonal of the ways -/
theorem z_diag (hn : pmC 4 < n) (hn1 : pmC 1 < n) (hy : plk m 1 3 = some 4) : ∀ (q i : Nat), i + q = 16 → ∀ (I : Nat → Nat → Int32) (fu : Nat), q < fu → f_X9_init_41 fu (ad b 1) (Int32.ofNat i) (Sz b F n I m us) = some (Sz b F n (u2 I 4 (fun k => if 17 * i ≤ k ∧ k < 272 ∧ k % 17 = 0 then 0 else I 4 k)) m us) := by
  intro q
  induction q with
  | zero =>
    intro i hi I fu hfu
    obtain ⟨fu, rfl⟩ : ∃ z, fu = z + 1 := ⟨fu - 1, by omega⟩
    have : i = 16 := by omega
    subst this
    have e : (fun k => if 17 * 16 ≤ k ∧ k < 272 ∧ k % 17 = 0 then 0 else I 4 k) = I 4 := by funext k; rw [if_neg (by omega)]
    rw [e, u2_id, f_X9_init_41, if_pos (by decide)]
  | succ q ih =>
    intro i hi I fu hfu
    obtain ⟨fu, rfl⟩ : ∃ z, fu = z + 1 := ⟨fu - 1, by omega⟩
    have e1 : ((16 : Int32) ≤ Int32.ofNat i) = False := oN_leF (show i < 16 by omega) (by decide)
    have e2 : Int32.ofNat i * 16 + Int32.ofNat i = Int32.ofNat (17 * i) := by
      rw [show (16 : Int32) = Int32.ofNat 16 from rfl, oN_mul, oN_add, show i * 16 + i = 17 * i by omega]
    have e3 : iN (Int32.ofNat (17 * i)) 256 = some (17 * i) := iN_oN (by omega) (by omega)
    rw [f_X9_init_41, if_neg (by rw [e1]; exact id), zG (ci := 9) (c := 1) (f := 3) (y := 4) hn1 rfl rfl hy, e2]
    unfold Sz
    rw [sI_lay (t := 0) (n := 256) ((Dn_at hn).trans rfl) (by decide), e3, Option.map_some, Option.bind_some, oN_succ]
    have := ih (i + 1) (by omega) (u2 I 4 (upd (I 4) (17 * i) (aW 0 0))) fu (by omega)
    unfold Sz at this
    rw [this, u2_u2, u2_same]
    congr 3
    funext k
    by_cases hz : k = 17 * i
    · subst hz; rw [if_neg (by omega), if_pos (by omega), upd_same]; rfl
    · rw [upd_ne hz]
      by_cases hk : 17 * (i + 1) ≤ k ∧ k < 272 ∧ k % 17 = 0
      · rw [if_pos hk, if_pos (by omega)]
      · rw [if_neg hk, if_neg (by omega)]
set_option maxHeartbeats 4000000 in
theorem z_i1 (hu : us + 288 ≤ 7293034) (hm : Bl m 2) (hI : IZ I 2) : f_X9_init (ad b 1) (Sz b F 2 I m us) = some (Sz b F 5 (u2 (u2 I 4 (fun k => if k < 256 then 60 else I 4 k)) 4 (fun k => if 17 * 0 ≤ k ∧ k < 272 ∧ k % 17 = 0 then 0 else (u2 I 4 (fun k => if k < 256 then 60 else I 4 k)) 4 k)) ((1, 3, 4) :: (1, 2, 3) :: (1, 0, 2) :: m) (us + 288)) := by
  unfold f_X9_init
  have hm1 := Bl_c (c := 1) (f := 0) (y := 2) (Bl_s hm (show 2 ≤ 3 by decide)) (by decide)
  have hI2 := IZ_s hI (show 2 ≤ 3 by decide)
  rw [zA (e := 2) (x := 16) (n := 2) (n' := 3) (us := us) (us' := us + 16) (k := 16) (t := 5) (ci := 9) (c := 1) (f := 0) rfl rfl (by decide) (by decide) rfl (by decide) rfl rfl rfl (by decide) (by omega) (by omega) hm hI]
  have hm3 := Bl_c (c := 1) (f := 2) (y := 3) (Bl_s hm1 (show 3 ≤ 4 by decide)) (by decide)
  have hI4 := IZ_s hI2 (show 3 ≤ 4 by decide)
  rw [zA (e := 3) (x := 16) (n := 3) (n' := 4) (us := us + 16) (us' := us + 32) (k := 16) (t := 0) (ci := 9) (c := 1) (f := 2) rfl rfl (by decide) (by decide) rfl (by decide) rfl rfl rfl (by decide) (by omega) (by omega) hm1 hI2]
  have hm5 := Bl_c (c := 1) (f := 3) (y := 4) (Bl_s hm3 (show 4 ≤ 5 by decide)) (by decide)
  have hI6 := IZ_s hI4 (show 4 ≤ 5 by decide)
  rw [zA (e := 4) (x := 256) (n := 4) (n' := 5) (us := us + 32) (us' := us + 288) (k := 256) (t := 0) (ci := 9) (c := 1) (f := 3) rfl rfl (by decide) (by decide) rfl (by decide) rfl rfl rfl (by decide) (by omega) (by omega) hm3 hI4]
  rw [zG (n := 5) (ci := 9) (c := 1) (f := 3) (y := 4) (by decide) rfl rfl rfl]
  have hI7 := IZ_u (c := 4) (f := fun k => if k < 256 then 60 else I 4 k) hI6 (by decide)
  rw [zF (n := 5) (c := 4) (k := 256) (by decide) rfl (by decide)]
  exact z_diag (by decide) (by decide) rfl 16 0 rfl _ FU (by unfold FU; omega)
set_option maxHeartbeats 4000000 in
theorem z_i5 (hu : us + 950 ≤ 7293034) (hm : Bl m 6) (hI : IZ I 6) : f_X4_init (ad b 5) (Sz b F 6 I m us) = some (Sz b F 13 I ((5, 8, 12) :: (5, 7, 11) :: (5, 5, 10) :: (5, 4, 9) :: (5, 3, 8) :: (5, 2, 7) :: (5, 1, 6) :: m) (us + 950)) := by
  unfold f_X4_init
  have hm1 := Bl_c (c := 5) (f := 1) (y := 6) (Bl_s hm (show 6 ≤ 7 by decide)) (by decide)
  have hI2 := IZ_s hI (show 6 ≤ 7 by decide)
  rw [zA (e := 6) (x := 10) (n := 6) (n' := 7) (us := us) (us' := us + 10) (k := 10) (t := 0) (ci := 4) (c := 5) (f := 1) rfl rfl (by decide) (by decide) rfl (by decide) rfl rfl rfl (by decide) (by omega) (by omega) hm hI]
  have hm3 := Bl_c (c := 5) (f := 2) (y := 7) (Bl_s hm1 (show 7 ≤ 8 by decide)) (by decide)
  have hI4 := IZ_s hI2 (show 7 ≤ 8 by decide)
  rw [zA (e := 7) (x := 10) (n := 7) (n' := 8) (us := us + 10) (us' := us + 20) (k := 10) (t := 0) (ci := 4) (c := 5) (f := 2) rfl rfl (by decide) (by decide) rfl (by decide) rfl rfl rfl (by decide) (by omega) (by omega) hm1 hI2]
  have hm5 := Bl_c (c := 5) (f := 3) (y := 8) (Bl_s hm3 (show 8 ≤ 9 by decide)) (by decide)
  have hI6 := IZ_s hI4 (show 8 ≤ 9 by decide)
  rw [zA (e := 8) (x := 10) (n := 8) (n' := 9) (us := us + 20) (us' := us + 30) (k := 10) (t := 0) (ci := 4) (c := 5) (f := 3) rfl rfl (by decide) (by decide) rfl (by decide) rfl rfl rfl (by decide) (by omega) (by omega) hm3 hI4]
  have hm7 := Bl_c (c := 5) (f := 4) (y := 9) (Bl_s hm5 (show 9 ≤ 10 by decide)) (by decide)
  have hI8 := IZ_s hI6 (show 9 ≤ 10 by decide)
  rw [zA (e := 9) (x := 160) (n := 9) (n' := 10) (us := us + 30) (us' := us + 190) (k := 160) (t := 0) (ci := 4) (c := 5) (f := 4) rfl rfl (by decide) (by decide) rfl (by decide) rfl rfl rfl (by decide) (by omega) (by omega) hm5 hI6]
  have hm9 := Bl_c (c := 5) (f := 5) (y := 10) (Bl_s hm7 (show 10 ≤ 11 by decide)) (by decide)
  have hI10 := IZ_s hI8 (show 10 ≤ 11 by decide)
  rw [zA (e := 10) (x := 160) (n := 10) (n' := 11) (us := us + 190) (us' := us + 350) (k := 160) (t := 0) (ci := 4) (c := 5) (f := 5) rfl rfl (by decide) (by decide) rfl (by decide) rfl rfl rfl (by decide) (by omega) (by omega) hm7 hI8]
  have hm11 := Bl_c (c := 5) (f := 7) (y := 11) (Bl_s hm9 (show 11 ≤ 12 by decide)) (by decide)
  have hI12 := IZ_s hI10 (show 11 ≤ 12 by decide)
  rw [zA (e := 11) (x := 300) (n := 11) (n' := 12) (us := us + 350) (us' := us + 650) (k := 300) (t := 0) (ci := 4) (c := 5) (f := 7) rfl rfl (by decide) (by decide) rfl (by decide) rfl rfl rfl (by decide) (by omega) (by omega) hm9 hI10]
  have hm13 := Bl_c (c := 5) (f := 8) (y := 12) (Bl_s hm11 (show 12 ≤ 13 by decide)) (by decide)
  have hI14 := IZ_s hI12 (show 12 ≤ 13 by decide)
  rw [zA (e := 12) (x := 300) (n := 12) (n' := 13) (us := us + 650) (us' := us + 950) (k := 300) (t := 0) (ci := 4) (c := 5) (f := 8) rfl rfl (by decide) (by decide) rfl (by decide) rfl rfl rfl (by decide) (by omega) (by omega) hm11 hI12]
  all_goals rfl
set_option maxHeartbeats 4000000 in
theorem z_i13 (hu : us + 595 ≤ 7293034) (hm : Bl m 14) (hI : IZ I 14) : f_X10_init (ad b 13) (ad b 1) (Sz b F 14 I m us) = some (Sz b F 26 (u2 (u2 I 13 (upd (I 13) 13 2)) 13 (upd ((u2 I 13 (upd (I 13) 13 2)) 13) 12 (-1))) ((13, 0, 1) :: (13, 17, 25) :: (13, 16, 24) :: (13, 11, 23) :: (13, 10, 22) :: (13, 9, 21) :: (13, 8, 20) :: (13, 7, 19) :: (13, 6, 18) :: (13, 5, 17) :: (13, 4, 16) :: (13, 3, 15) :: (13, 2, 14) :: m) (us + 595)) := by
  unfold f_X10_init
  have hm1 := Bl_c (c := 13) (f := 2) (y := 14) (Bl_s hm (show 14 ≤ 15 by decide)) (by decide)
  have hI2 := IZ_s hI (show 14 ≤ 15 by decide)
  rw [zA (e := 14) (x := 40) (n := 14) (n' := 15) (us := us) (us' := us + 40) (k := 40) (t := 0) (ci := 10) (c := 13) (f := 2) rfl rfl (by decide) (by decide) rfl (by decide) rfl rfl rfl (by decide) (by omega) (by omega) hm hI]
  have hm3 := Bl_c (c := 13) (f := 3) (y := 15) (Bl_s hm1 (show 15 ≤ 16 by decide)) (by decide)
  have hI4 := IZ_s hI2 (show 15 ≤ 16 by decide)
  rw [zA (e := 15) (x := 40) (n := 15) (n' := 16) (us := us + 40) (us' := us + 80) (k := 40) (t := 0) (ci := 10) (c := 13) (f := 3) rfl rfl (by decide) (by decide) rfl (by decide) rfl rfl rfl (by decide) (by omega) (by omega) hm1 hI2]
  have hm5 := Bl_c (c := 13) (f := 4) (y := 16) (Bl_s hm3 (show 16 ≤ 17 by decide)) (by decide)
  have hI6 := IZ_s hI4 (show 16 ≤ 17 by decide)
  rw [zA (e := 16) (x := 40) (n := 16) (n' := 17) (us := us + 80) (us' := us + 120) (k := 40) (t := 0) (ci := 10) (c := 13) (f := 4) rfl rfl (by decide) (by decide) rfl (by decide) rfl rfl rfl (by decide) (by omega) (by omega) hm3 hI4]
  have hm7 := Bl_c (c := 13) (f := 5) (y := 17) (Bl_s hm5 (show 17 ≤ 18 by decide)) (by decide)
  have hI8 := IZ_s hI6 (show 17 ≤ 18 by decide)
  rw [zA (e := 17) (x := 40) (n := 17) (n' := 18) (us := us + 120) (us' := us + 160) (k := 40) (t := 0) (ci := 10) (c := 13) (f := 5) rfl rfl (by decide) (by decide) rfl (by decide) rfl rfl rfl (by decide) (by omega) (by omega) hm5 hI6]
  have hm9 := Bl_c (c := 13) (f := 6) (y := 18) (Bl_s hm7 (show 18 ≤ 19 by decide)) (by decide)
  have hI10 := IZ_s hI8 (show 18 ≤ 19 by decide)
  rw [zA (e := 18) (x := 40) (n := 18) (n' := 19) (us := us + 160) (us' := us + 200) (k := 40) (t := 0) (ci := 10) (c := 13) (f := 6) rfl rfl (by decide) (by decide) rfl (by decide) rfl rfl rfl (by decide) (by omega) (by omega) hm7 hI8]
  have hm11 := Bl_c (c := 13) (f := 7) (y := 19) (Bl_s hm9 (show 19 ≤ 20 by decide)) (by decide)
  have hI12 := IZ_s hI10 (show 19 ≤ 20 by decide)
  rw [zA (e := 19) (x := 40) (n := 19) (n' := 20) (us := us + 200) (us' := us + 240) (k := 40) (t := 0) (ci := 10) (c := 13) (f := 7) rfl rfl (by decide) (by decide) rfl (by decide) rfl rfl rfl (by decide) (by omega) (by omega) hm9 hI10]
  have hm13 := Bl_c (c := 13) (f := 8) (y := 20) (Bl_s hm11 (show 20 ≤ 21 by decide)) (by decide)
  have hI14 := IZ_s hI12 (show 20 ≤ 21 by decide)
  rw [zA (e := 20) (x := 40) (n := 20) (n' := 21) (us := us + 240) (us' := us + 280) (k := 40) (t := 0) (ci := 10) (c := 13) (f := 8) rfl rfl (by decide) (by decide) rfl (by decide) rfl rfl rfl (by decide) (by omega) (by omega) hm11 hI12]
  have hm15 := Bl_c (c := 13) (f := 9) (y := 21) (Bl_s hm13 (show 21 ≤ 22 by decide)) (by decide)
  have hI16 := IZ_s hI14 (show 21 ≤ 22 by decide)
  rw [zA (e := 21) (x := 40) (n := 21) (n' := 22) (us := us + 280) (us' := us + 320) (k := 40) (t := 0) (ci := 10) (c := 13) (f := 9) rfl rfl (by decide) (by decide) rfl (by decide) rfl rfl rfl (by decide) (by omega) (by omega) hm13 hI14]
  have hm17 := Bl_c (c := 13) (f := 10) (y := 22) (Bl_s hm15 (show 22 ≤ 23 by decide)) (by decide)
  have hI18 := IZ_s hI16 (show 22 ≤ 23 by decide)
  rw [zA (e := 22) (x := 40) (n := 22) (n' := 23) (us := us + 320) (us' := us + 360) (k := 40) (t := 0) (ci := 10) (c := 13) (f := 10) rfl rfl (by decide) (by decide) rfl (by decide) rfl rfl rfl (by decide) (by omega) (by omega) hm15 hI16]
  have hm19 := Bl_c (c := 13) (f := 11) (y := 23) (Bl_s hm17 (show 23 ≤ 24 by decide)) (by decide)
  have hI20 := IZ_s hI18 (show 23 ≤ 24 by decide)
  rw [zA (e := 23) (x := 115) (n := 23) (n' := 24) (us := us + 360) (us' := us + 475) (k := 115) (t := 0) (ci := 10) (c := 13) (f := 11) rfl rfl (by decide) (by decide) rfl (by decide) rfl rfl rfl (by decide) (by omega) (by omega) hm17 hI18]
  have hm21 := Bl_c (c := 13) (f := 16) (y := 24) (Bl_s hm19 (show 24 ≤ 25 by decide)) (by decide)
  have hI22 := IZ_s hI20 (show 24 ≤ 25 by decide)
  rw [zA (e := 24) (x := 60) (n := 24) (n' := 25) (us := us + 475) (us' := us + 535) (k := 60) (t := 0) (ci := 10) (c := 13) (f := 16) rfl rfl (by decide) (by decide) rfl (by decide) rfl rfl rfl (by decide) (by omega) (by omega) hm19 hI20]
  have hm23 := Bl_c (c := 13) (f := 17) (y := 25) (Bl_s hm21 (show 25 ≤ 26 by decide)) (by decide)
  have hI24 := IZ_s hI22 (show 25 ≤ 26 by decide)
  rw [zA (e := 25) (x := 60) (n := 25) (n' := 26) (us := us + 535) (us' := us + 595) (k := 60) (t := 0) (ci := 10) (c := 13) (f := 17) rfl rfl (by decide) (by decide) rfl (by decide) rfl rfl rfl (by decide) (by omega) (by omega) hm21 hI22]
  have hm25 := Bl_c (c := 13) (f := 0) (y := 1) hm23 (by decide)
  rw [zQ (n := 26) (ci := 10) (c := 13) (f := 0) (y := 1) (by decide) rfl rfl]
  have hI26 := IZ_u (c := 13) (f := upd (I 13) 13 2) hI24 (by decide)
  rw [zI (n := 26) (ci := 10) (c := 13) (f := 13) (by decide) rfl rfl]
  have hI27 := IZ_u (c := 13) (f := upd ((u2 I 13 (upd (I 13) 13 2)) 13) 12 (-1)) hI26 (by decide)
  rw [zI (n := 26) (ci := 10) (c := 13) (f := 12) (by decide) rfl rfl]
  all_goals rfl
set_option maxHeartbeats 4000000 in
theorem z_i26 (hu : us + 94 ≤ 7293034) (hm : Bl m 27) (hI : IZ I 27) : f_X3_init (ad b 26) (ad b 1) (ad b 5) (ad b 13) (Sz b F 27 I m us) = some (Sz b F 33 (u2 I 32 (fun k => if k < 16 then (-1) else I 32 k)) ((26, 2, 13) :: (26, 1, 5) :: (26, 0, 1) :: (26, 11, 32) :: (26, 9, 31) :: (26, 8, 30) :: (26, 7, 29) :: (26, 6, 28) :: (26, 4, 27) :: m) (us + 94)) := by
  unfold f_X3_init
  have hm1 := Bl_c (c := 26) (f := 4) (y := 27) (Bl_s hm (show 27 ≤ 28 by decide)) (by decide)
  have hI2 := IZ_s hI (show 27 ≤ 28 by decide)
  rw [zA (e := 27) (x := 6) (n := 27) (n' := 28) (us := us) (us' := us + 6) (k := 6) (t := 0) (ci := 3) (c := 26) (f := 4) rfl rfl (by decide) (by decide) rfl (by decide) rfl rfl rfl (by decide) (by omega) (by omega) hm hI]
  have hm3 := Bl_c (c := 26) (f := 6) (y := 28) (Bl_s hm1 (show 28 ≤ 29 by decide)) (by decide)
  have hI4 := IZ_s hI2 (show 28 ≤ 29 by decide)
  rw [zA (e := 28) (x := 60) (n := 28) (n' := 29) (us := us + 6) (us' := us + 66) (k := 60) (t := 0) (ci := 3) (c := 26) (f := 6) rfl rfl (by decide) (by decide) rfl (by decide) rfl rfl rfl (by decide) (by omega) (by omega) hm1 hI2]
  have hm5 := Bl_c (c := 26) (f := 7) (y := 29) (Bl_s hm3 (show 29 ≤ 30 by decide)) (by decide)
  have hI6 := IZ_s hI4 (show 29 ≤ 30 by decide)
  rw [zA (e := 29) (x := 0) (n := 29) (n' := 30) (us := us + 66) (us' := us + 66) (k := 0) (t := 0) (ci := 3) (c := 26) (f := 7) rfl rfl (by decide) (by decide) rfl (by decide) rfl rfl rfl (by decide) (by omega) (by omega) hm3 hI4]
  have hm7 := Bl_c (c := 26) (f := 8) (y := 30) (Bl_s hm5 (show 30 ≤ 31 by decide)) (by decide)
  have hI8 := IZ_s hI6 (show 30 ≤ 31 by decide)
  rw [zA (e := 30) (x := 6) (n := 30) (n' := 31) (us := us + 66) (us' := us + 72) (k := 6) (t := 0) (ci := 3) (c := 26) (f := 8) rfl rfl (by decide) (by decide) rfl (by decide) rfl rfl rfl (by decide) (by omega) (by omega) hm5 hI6]
  have hm9 := Bl_c (c := 26) (f := 9) (y := 31) (Bl_s hm7 (show 31 ≤ 32 by decide)) (by decide)
  have hI10 := IZ_s hI8 (show 31 ≤ 32 by decide)
  rw [zA (e := 31) (x := 6) (n := 31) (n' := 32) (us := us + 72) (us' := us + 78) (k := 6) (t := 0) (ci := 3) (c := 26) (f := 9) rfl rfl (by decide) (by decide) rfl (by decide) rfl rfl rfl (by decide) (by omega) (by omega) hm7 hI8]
  have hm11 := Bl_c (c := 26) (f := 11) (y := 32) (Bl_s hm9 (show 32 ≤ 33 by decide)) (by decide)
  have hI12 := IZ_s hI10 (show 32 ≤ 33 by decide)
  rw [zA (e := 32) (x := 16) (n := 32) (n' := 33) (us := us + 78) (us' := us + 94) (k := 16) (t := 0) (ci := 3) (c := 26) (f := 11) rfl rfl (by decide) (by decide) rfl (by decide) rfl rfl rfl (by decide) (by omega) (by omega) hm9 hI10]
  have hm13 := Bl_c (c := 26) (f := 0) (y := 1) hm11 (by decide)
  rw [zQ (n := 33) (ci := 3) (c := 26) (f := 0) (y := 1) (by decide) rfl rfl]
  have hm14 := Bl_c (c := 26) (f := 1) (y := 5) hm13 (by decide)
  rw [zQ (n := 33) (ci := 3) (c := 26) (f := 1) (y := 5) (by decide) rfl rfl]
  have hm15 := Bl_c (c := 26) (f := 2) (y := 13) hm14 (by decide)
  rw [zQ (n := 33) (ci := 3) (c := 26) (f := 2) (y := 13) (by decide) rfl rfl]
  rw [zG (n := 33) (ci := 3) (c := 26) (f := 11) (y := 32) (by decide) rfl rfl rfl]
  have hI16 := IZ_u (c := 32) (f := fun k => if k < 16 then (-1) else I 32 k) hI12 (by decide)
  rw [zF (n := 33) (c := 32) (k := 16) (by decide) rfl (by decide)]
  all_goals rfl
set_option maxHeartbeats 4000000 in
theorem z_i33 (hu : us + 309 ≤ 7293034) (hm : Bl m 34) (hI : IZ I 34) : f_X6_init (ad b 33) (ad b 1) (Sz b F 34 I m us) = some (Sz b F 39 (u2 I 33 (upd (I 33) 9 (-1))) ((33, 0, 1) :: (33, 8, 38) :: (33, 5, 37) :: (33, 4, 36) :: (33, 3, 35) :: (33, 2, 34) :: m) (us + 309)) := by
  unfold f_X6_init
  have hm1 := Bl_c (c := 33) (f := 2) (y := 34) (Bl_s hm (show 34 ≤ 35 by decide)) (by decide)
  have hI2 := IZ_s hI (show 34 ≤ 35 by decide)
  rw [zA (e := 34) (x := 100) (n := 34) (n' := 35) (us := us) (us' := us + 100) (k := 100) (t := 0) (ci := 6) (c := 33) (f := 2) rfl rfl (by decide) (by decide) rfl (by decide) rfl rfl rfl (by decide) (by omega) (by omega) hm hI]
  have hm3 := Bl_c (c := 33) (f := 3) (y := 35) (Bl_s hm1 (show 35 ≤ 36 by decide)) (by decide)
  have hI4 := IZ_s hI2 (show 35 ≤ 36 by decide)
  rw [zA (e := 35) (x := 100) (n := 35) (n' := 36) (us := us + 100) (us' := us + 200) (k := 100) (t := 0) (ci := 6) (c := 33) (f := 3) rfl rfl (by decide) (by decide) rfl (by decide) rfl rfl rfl (by decide) (by omega) (by omega) hm1 hI2]
  have hm5 := Bl_c (c := 33) (f := 4) (y := 36) (Bl_s hm3 (show 36 ≤ 37 by decide)) (by decide)
  have hI6 := IZ_s hI4 (show 36 ≤ 37 by decide)
  rw [zA (e := 36) (x := 100) (n := 36) (n' := 37) (us := us + 200) (us' := us + 300) (k := 100) (t := 0) (ci := 6) (c := 33) (f := 4) rfl rfl (by decide) (by decide) rfl (by decide) rfl rfl rfl (by decide) (by omega) (by omega) hm3 hI4]
  have hm7 := Bl_c (c := 33) (f := 5) (y := 37) (Bl_s hm5 (show 37 ≤ 38 by decide)) (by decide)
  have hI8 := IZ_s hI6 (show 37 ≤ 38 by decide)
  rw [zA (e := 37) (x := 9) (n := 37) (n' := 38) (us := us + 300) (us' := us + 309) (k := 9) (t := 0) (ci := 6) (c := 33) (f := 5) rfl rfl (by decide) (by decide) rfl (by decide) rfl rfl rfl (by decide) (by omega) (by omega) hm5 hI6]
  have hm9 := Bl_c (c := 33) (f := 8) (y := 38) (Bl_s hm7 (show 38 ≤ 39 by decide)) (by decide)
  have hI10 := IZ_s hI8 (show 38 ≤ 39 by decide)
  rw [zA (e := 38) (x := 0) (n := 38) (n' := 39) (us := us + 309) (us' := us + 309) (k := 0) (t := 0) (ci := 6) (c := 33) (f := 8) rfl rfl (by decide) (by decide) rfl (by decide) rfl rfl rfl (by decide) (by omega) (by omega) hm7 hI8]
  have hm11 := Bl_c (c := 33) (f := 0) (y := 1) hm9 (by decide)
  rw [zQ (n := 39) (ci := 6) (c := 33) (f := 0) (y := 1) (by decide) rfl rfl]
  have hI12 := IZ_u (c := 33) (f := upd (I 33) 9 (-1)) hI10 (by decide)
  rw [zI (n := 39) (ci := 6) (c := 33) (f := 9) (by decide) rfl rfl]
  all_goals rfl
set_option maxHeartbeats 4000000 in
theorem z_i40 (hu : us + 1604 ≤ 7293034) (hm : Bl m 41) (hI : IZ I 41) : f_X7_init (ad b 40) (Sz b F 41 I m us) = some (Sz b F 45 I ((40, 2, 43) :: (40, 1, 42) :: (40, 7, 148) :: (40, 0, 41) :: m) (us + 1604)) := by
  unfold f_X7_init
  have hm1 := Bl_c (c := 40) (f := 0) (y := 41) (Bl_s hm (show 41 ≤ 42 by decide)) (by decide)
  have hI2 := IZ_s hI (show 41 ≤ 42 by decide)
  rw [zA (e := 41) (x := 401) (n := 41) (n' := 42) (us := us) (us' := us + 401) (k := 401) (t := 0) (ci := 7) (c := 40) (f := 0) rfl rfl (by decide) (by decide) rfl (by decide) rfl rfl rfl (by decide) (by omega) (by omega) hm hI]
  have hm3 := Bl_c (c := 40) (f := 7) (y := 148) (Bl_s hm1 (show 42 ≤ 43 by decide)) (by decide)
  have hI4 := IZ_s hI2 (show 42 ≤ 43 by decide)
  rw [zA (e := 148) (x := 401) (n := 42) (n' := 43) (us := us + 401) (us' := us + 802) (k := 401) (t := 1) (ci := 7) (c := 40) (f := 7) rfl rfl (by decide) (by decide) rfl (by decide) rfl rfl rfl (by decide) (by omega) (by omega) hm1 hI2]
  have hm5 := Bl_c (c := 40) (f := 1) (y := 42) (Bl_s hm3 (show 43 ≤ 44 by decide)) (by decide)
  have hI6 := IZ_s hI4 (show 43 ≤ 44 by decide)
  rw [zA (e := 42) (x := 401) (n := 43) (n' := 44) (us := us + 802) (us' := us + 1203) (k := 401) (t := 0) (ci := 7) (c := 40) (f := 1) rfl rfl (by decide) (by decide) rfl (by decide) rfl rfl rfl (by decide) (by omega) (by omega) hm3 hI4]
  have hm7 := Bl_c (c := 40) (f := 2) (y := 43) (Bl_s hm5 (show 44 ≤ 45 by decide)) (by decide)
  have hI8 := IZ_s hI6 (show 44 ≤ 45 by decide)
  rw [zA (e := 43) (x := 401) (n := 44) (n' := 45) (us := us + 1203) (us' := us + 1604) (k := 401) (t := 4) (ci := 7) (c := 40) (f := 2) rfl rfl (by decide) (by decide) rfl (by decide) rfl rfl rfl (by decide) (by omega) (by omega) hm5 hI6]
  all_goals rfl
set_option maxHeartbeats 4000000 in
theorem z_i45 (hu : us + 1120 ≤ 7293034) (hm : Bl m 47) (hI : IZ I 47) : f_X1_init (ad b 45) (Sz b F 47 I m us) = some (Sz b F 51 I ((45, 3, 49) :: (45, 2, 48) :: (45, 1, 47) :: (45, 0, 46) :: m) (us + 1120)) := by
  unfold f_X1_init
  have hm1 := Bl_c (c := 45) (f := 0) (y := 46) (Bl_s hm (show 47 ≤ 48 by decide)) (by decide)
  have hI2 := IZ_s hI (show 47 ≤ 48 by decide)
  rw [zA (e := 46) (x := 360) (n := 47) (n' := 48) (us := us) (us' := us + 360) (k := 360) (t := 1) (ci := 1) (c := 45) (f := 0) rfl rfl (by decide) (by decide) rfl (by decide) rfl rfl rfl (by decide) (by omega) (by omega) hm hI]
  have hm3 := Bl_c (c := 45) (f := 1) (y := 47) (Bl_s hm1 (show 48 ≤ 49 by decide)) (by decide)
  have hI4 := IZ_s hI2 (show 48 ≤ 49 by decide)
  rw [zA (e := 47) (x := 360) (n := 48) (n' := 49) (us := us + 360) (us' := us + 720) (k := 360) (t := 3) (ci := 1) (c := 45) (f := 1) rfl rfl (by decide) (by decide) rfl (by decide) rfl rfl rfl (by decide) (by omega) (by omega) hm1 hI2]
  have hm5 := Bl_c (c := 45) (f := 2) (y := 48) (Bl_s hm3 (show 49 ≤ 50 by decide)) (by decide)
  have hI6 := IZ_s hI4 (show 49 ≤ 50 by decide)
  rw [zA (e := 48) (x := 360) (n := 49) (n' := 50) (us := us + 720) (us' := us + 1080) (k := 360) (t := 3) (ci := 1) (c := 45) (f := 2) rfl rfl (by decide) (by decide) rfl (by decide) rfl rfl rfl (by decide) (by omega) (by omega) hm3 hI4]
  have hm7 := Bl_c (c := 45) (f := 3) (y := 49) (Bl_s hm5 (show 50 ≤ 51 by decide)) (by decide)
  have hI8 := IZ_s hI6 (show 50 ≤ 51 by decide)
  rw [zA (e := 49) (x := 40) (n := 50) (n' := 51) (us := us + 1080) (us' := us + 1120) (k := 40) (t := 4) (ci := 1) (c := 45) (f := 3) rfl rfl (by decide) (by decide) rfl (by decide) rfl rfl rfl (by decide) (by omega) (by omega) hm5 hI6]
  all_goals rfl
set_option maxHeartbeats 4000000 in
theorem z_i44 (hu : us + 1153 ≤ 7293034) (hm : Bl m 46) (hI : IZ I 46) : f_X2_init (ad b 44) (ad b 40) (Sz b F 46 I m us) = some (Sz b F 53 I ((44, 0, 40) :: (44, 6, 51) :: (44, 4, 50) :: (44, 1, 45) :: (45, 3, 49) :: (45, 2, 48) :: (45, 1, 47) :: (45, 0, 46) :: m) (us + 1153)) := by
  unfold f_X2_init
  have hm1 := Bl_s hm (show 46 ≤ 47 by decide)
  have hI2 := IZ_s hI (show 46 ≤ 47 by decide)
  rw [zO (e := 45) (n := 46) (n' := 47) (us := us) (us' := us + 6) (ci := 1) (N := 6) rfl dX1_dv rfl rfl (by decide) (by omega) (by omega) hm hI]
  have hm3 := Bl_c (c := 45) (f := 3) (y := 49) (Bl_c (c := 45) (f := 2) (y := 48) (Bl_c (c := 45) (f := 1) (y := 47) (Bl_c (c := 45) (f := 0) (y := 46) (Bl_s hm1 (show 47 ≤ 51 by decide)) (by decide)) (by decide)) (by decide)) (by decide)
  have hI4 := IZ_s hI2 (show 47 ≤ 51 by decide)
  rw [z_i45 (us := us + 6) (by omega) hm1 hI2, Option.bind_some, show us + 6 + 1120 = us + 1126 by omega]
  have hm5 := Bl_c (c := 44) (f := 1) (y := 45) hm3 (by decide)
  rw [zQ (n := 51) (ci := 2) (c := 44) (f := 1) (y := 45) (by decide) rfl rfl]
  have hm6 := Bl_c (c := 44) (f := 4) (y := 50) (Bl_s hm5 (show 51 ≤ 52 by decide)) (by decide)
  have hI7 := IZ_s hI4 (show 51 ≤ 52 by decide)
  rw [zA (e := 50) (x := 6) (n := 51) (n' := 52) (us := us + 1126) (us' := us + 1132) (k := 6) (t := 0) (ci := 2) (c := 44) (f := 4) rfl rfl (by decide) (by decide) rfl (by decide) rfl rfl rfl (by decide) (by omega) (by omega) hm5 hI4]
  have hm8 := Bl_c (c := 44) (f := 6) (y := 51) (Bl_s hm6 (show 52 ≤ 53 by decide)) (by decide)
  have hI9 := IZ_s hI7 (show 52 ≤ 53 by decide)
  rw [zA (e := 51) (x := 21) (n := 52) (n' := 53) (us := us + 1132) (us' := us + 1153) (k := 21) (t := 0) (ci := 2) (c := 44) (f := 6) rfl rfl (by decide) (by decide) rfl (by decide) rfl rfl rfl (by decide) (by omega) (by omega) hm6 hI7]
  have hm10 := Bl_c (c := 44) (f := 0) (y := 40) hm8 (by decide)
  rw [zQ (n := 53) (ci := 2) (c := 44) (f := 0) (y := 40) (by decide) rfl rfl]
  all_goals rfl
set_option maxHeartbeats 4000000 in
theorem z_i54 (hu : us + 153 ≤ 7293034) (hm : Bl m 56) (hI : IZ I 56) : f_X5_init (ad b 54) (ad b 40) (Sz b F 56 I m us) = some (Sz b F 59 I ((54, 0, 40) :: (54, 4, 57) :: (54, 3, 56) :: (54, 2, 55) :: m) (us + 153)) := by
  unfold f_X5_init
  have hm1 := Bl_c (c := 54) (f := 2) (y := 55) (Bl_s hm (show 56 ≤ 57 by decide)) (by decide)
  have hI2 := IZ_s hI (show 56 ≤ 57 by decide)
  rw [zA (e := 55) (x := 9) (n := 56) (n' := 57) (us := us) (us' := us + 9) (k := 9) (t := 0) (ci := 5) (c := 54) (f := 2) rfl rfl (by decide) (by decide) rfl (by decide) rfl rfl rfl (by decide) (by omega) (by omega) hm hI]
  have hm3 := Bl_c (c := 54) (f := 3) (y := 56) (Bl_s hm1 (show 57 ≤ 58 by decide)) (by decide)
  have hI4 := IZ_s hI2 (show 57 ≤ 58 by decide)
  rw [zA (e := 56) (x := 72) (n := 57) (n' := 58) (us := us + 9) (us' := us + 81) (k := 72) (t := 0) (ci := 5) (c := 54) (f := 3) rfl rfl (by decide) (by decide) rfl (by decide) rfl rfl rfl (by decide) (by omega) (by omega) hm1 hI2]
  have hm5 := Bl_c (c := 54) (f := 4) (y := 57) (Bl_s hm3 (show 58 ≤ 59 by decide)) (by decide)
  have hI6 := IZ_s hI4 (show 58 ≤ 59 by decide)
  rw [zA (e := 57) (x := 72) (n := 58) (n' := 59) (us := us + 81) (us' := us + 153) (k := 72) (t := 0) (ci := 5) (c := 54) (f := 4) rfl rfl (by decide) (by decide) rfl (by decide) rfl rfl rfl (by decide) (by omega) (by omega) hm3 hI4]
  have hm7 := Bl_c (c := 54) (f := 0) (y := 40) hm5 (by decide)
  rw [zQ (n := 59) (ci := 5) (c := 54) (f := 0) (y := 40) (by decide) rfl rfl]
  all_goals rfl
set_option maxHeartbeats 4000000 in
theorem z_i58 (hu : us + 433 ≤ 7293034) (hm : Bl m 60) (hI : IZ I 60) : f_X0_init (ad b 58) (ad b 53) (Sz b F 60 I m us) = some (Sz b F 66 I ((58, 7, 53) :: (58, 14, 64) :: (58, 13, 63) :: (58, 11, 62) :: (58, 10, 61) :: (58, 9, 60) :: (58, 0, 59) :: m) (us + 433)) := by
  unfold f_X0_init
  have hm1 := Bl_c (c := 58) (f := 0) (y := 59) (Bl_s hm (show 60 ≤ 61 by decide)) (by decide)
  have hI2 := IZ_s hI (show 60 ≤ 61 by decide)
  rw [zA (e := 59) (x := 192) (n := 60) (n' := 61) (us := us) (us' := us + 192) (k := 192) (t := 1) (ci := 0) (c := 58) (f := 0) rfl rfl (by decide) (by decide) rfl (by decide) rfl rfl rfl (by decide) (by omega) (by omega) hm hI]
  have hm3 := Bl_c (c := 58) (f := 9) (y := 60) (Bl_s hm1 (show 61 ≤ 62 by decide)) (by decide)
  have hI4 := IZ_s hI2 (show 61 ≤ 62 by decide)
  rw [zA (e := 60) (x := 192) (n := 61) (n' := 62) (us := us + 192) (us' := us + 384) (k := 192) (t := 2) (ci := 0) (c := 58) (f := 9) rfl rfl (by decide) (by decide) rfl (by decide) rfl rfl rfl (by decide) (by omega) (by omega) hm1 hI2]
  have hm5 := Bl_c (c := 58) (f := 10) (y := 61) (Bl_s hm3 (show 62 ≤ 63 by decide)) (by decide)
  have hI6 := IZ_s hI4 (show 62 ≤ 63 by decide)
  rw [zA (e := 61) (x := 5) (n := 62) (n' := 63) (us := us + 384) (us' := us + 389) (k := 5) (t := 0) (ci := 0) (c := 58) (f := 10) rfl rfl (by decide) (by decide) rfl (by decide) rfl rfl rfl (by decide) (by omega) (by omega) hm3 hI4]
  have hm7 := Bl_c (c := 58) (f := 11) (y := 62) (Bl_s hm5 (show 63 ≤ 64 by decide)) (by decide)
  have hI8 := IZ_s hI6 (show 63 ≤ 64 by decide)
  rw [zA (e := 62) (x := 32) (n := 63) (n' := 64) (us := us + 389) (us' := us + 421) (k := 32) (t := 0) (ci := 0) (c := 58) (f := 11) rfl rfl (by decide) (by decide) rfl (by decide) rfl rfl rfl (by decide) (by omega) (by omega) hm5 hI6]
  have hm9 := Bl_c (c := 58) (f := 13) (y := 63) (Bl_s hm7 (show 64 ≤ 65 by decide)) (by decide)
  have hI10 := IZ_s hI8 (show 64 ≤ 65 by decide)
  rw [zA (e := 63) (x := 6) (n := 64) (n' := 65) (us := us + 421) (us' := us + 427) (k := 6) (t := 0) (ci := 0) (c := 58) (f := 13) rfl rfl (by decide) (by decide) rfl (by decide) rfl rfl rfl (by decide) (by omega) (by omega) hm7 hI8]
  have hm11 := Bl_c (c := 58) (f := 14) (y := 64) (Bl_s hm9 (show 65 ≤ 66 by decide)) (by decide)
  have hI12 := IZ_s hI10 (show 65 ≤ 66 by decide)
  rw [zA (e := 64) (x := 6) (n := 65) (n' := 66) (us := us + 427) (us' := us + 433) (k := 6) (t := 0) (ci := 0) (c := 58) (f := 14) rfl rfl (by decide) (by decide) rfl (by decide) rfl rfl rfl (by decide) (by omega) (by omega) hm9 hI10]
  have hm13 := Bl_c (c := 58) (f := 7) (y := 53) hm11 (by decide)
  rw [zQ (n := 66) (ci := 0) (c := 58) (f := 7) (y := 53) (by decide) rfl rfl]
  all_goals rfl
set_option maxHeartbeats 4000000 in
theorem z_i65 (hu : us + 433 ≤ 7293034) (hm : Bl m 67) (hI : IZ I 67) : f_X0_init (ad b 65) (ad b 53) (Sz b F 67 I m us) = some (Sz b F 73 I ((65, 7, 53) :: (65, 14, 71) :: (65, 13, 70) :: (65, 11, 69) :: (65, 10, 68) :: (65, 9, 67) :: (65, 0, 66) :: m) (us + 433)) := by
  unfold f_X0_init
  have hm1 := Bl_c (c := 65) (f := 0) (y := 66) (Bl_s hm (show 67 ≤ 68 by decide)) (by decide)
  have hI2 := IZ_s hI (show 67 ≤ 68 by decide)
  rw [zA (e := 66) (x := 192) (n := 67) (n' := 68) (us := us) (us' := us + 192) (k := 192) (t := 1) (ci := 0) (c := 65) (f := 0) rfl rfl (by decide) (by decide) rfl (by decide) rfl rfl rfl (by decide) (by omega) (by omega) hm hI]
  have hm3 := Bl_c (c := 65) (f := 9) (y := 67) (Bl_s hm1 (show 68 ≤ 69 by decide)) (by decide)
  have hI4 := IZ_s hI2 (show 68 ≤ 69 by decide)
  rw [zA (e := 67) (x := 192) (n := 68) (n' := 69) (us := us + 192) (us' := us + 384) (k := 192) (t := 2) (ci := 0) (c := 65) (f := 9) rfl rfl (by decide) (by decide) rfl (by decide) rfl rfl rfl (by decide) (by omega) (by omega) hm1 hI2]
  have hm5 := Bl_c (c := 65) (f := 10) (y := 68) (Bl_s hm3 (show 69 ≤ 70 by decide)) (by decide)
  have hI6 := IZ_s hI4 (show 69 ≤ 70 by decide)
  rw [zA (e := 68) (x := 5) (n := 69) (n' := 70) (us := us + 384) (us' := us + 389) (k := 5) (t := 0) (ci := 0) (c := 65) (f := 10) rfl rfl (by decide) (by decide) rfl (by decide) rfl rfl rfl (by decide) (by omega) (by omega) hm3 hI4]
  have hm7 := Bl_c (c := 65) (f := 11) (y := 69) (Bl_s hm5 (show 70 ≤ 71 by decide)) (by decide)
  have hI8 := IZ_s hI6 (show 70 ≤ 71 by decide)
  rw [zA (e := 69) (x := 32) (n := 70) (n' := 71) (us := us + 389) (us' := us + 421) (k := 32) (t := 0) (ci := 0) (c := 65) (f := 11) rfl rfl (by decide) (by decide) rfl (by decide) rfl rfl rfl (by decide) (by omega) (by omega) hm5 hI6]
  have hm9 := Bl_c (c := 65) (f := 13) (y := 70) (Bl_s hm7 (show 71 ≤ 72 by decide)) (by decide)
  have hI10 := IZ_s hI8 (show 71 ≤ 72 by decide)
  rw [zA (e := 70) (x := 6) (n := 71) (n' := 72) (us := us + 421) (us' := us + 427) (k := 6) (t := 0) (ci := 0) (c := 65) (f := 13) rfl rfl (by decide) (by decide) rfl (by decide) rfl rfl rfl (by decide) (by omega) (by omega) hm7 hI8]
  have hm11 := Bl_c (c := 65) (f := 14) (y := 71) (Bl_s hm9 (show 72 ≤ 73 by decide)) (by decide)
  have hI12 := IZ_s hI10 (show 72 ≤ 73 by decide)
  rw [zA (e := 71) (x := 6) (n := 72) (n' := 73) (us := us + 427) (us' := us + 433) (k := 6) (t := 0) (ci := 0) (c := 65) (f := 14) rfl rfl (by decide) (by decide) rfl (by decide) rfl rfl rfl (by decide) (by omega) (by omega) hm9 hI10]
  have hm13 := Bl_c (c := 65) (f := 7) (y := 53) hm11 (by decide)
  rw [zQ (n := 73) (ci := 0) (c := 65) (f := 7) (y := 53) (by decide) rfl rfl]
  all_goals rfl
set_option maxHeartbeats 4000000 in
theorem z_i0 (hu : us + 6543 ≤ 7293034) (hm : Bl m 1) (hI : IZ I 1) : f_X11_init (ad b 0) (Sz b F 1 I m us) = some (Sz b F 73 (u2 (u2 (u2 (u2 (u2 (u2 I 4 (fun k => if k < 256 then 60 else I 4 k)) 4 (fun k => if 17 * 0 ≤ k ∧ k < 272 ∧ k % 17 = 0 then 0 else (u2 I 4 (fun k => if k < 256 then 60 else I 4 k)) 4 k)) 13 (upd ((u2 (u2 I 4 (fun k => if k < 256 then 60 else I 4 k)) 4 (fun k => if 17 * 0 ≤ k ∧ k < 272 ∧ k % 17 = 0 then 0 else (u2 I 4 (fun k => if k < 256 then 60 else I 4 k)) 4 k)) 13) 13 2)) 13 (upd ((u2 (u2 (u2 I 4 (fun k => if k < 256 then 60 else I 4 k)) 4 (fun k => if 17 * 0 ≤ k ∧ k < 272 ∧ k % 17 = 0 then 0 else (u2 I 4 (fun k => if k < 256 then 60 else I 4 k)) 4 k)) 13 (upd ((u2 (u2 I 4 (fun k => if k < 256 then 60 else I 4 k)) 4 (fun k => if 17 * 0 ≤ k ∧ k < 272 ∧ k % 17 = 0 then 0 else (u2 I 4 (fun k => if k < 256 then 60 else I 4 k)) 4 k)) 13) 13 2)) 13) 12 (-1))) 32 (fun k => if k < 16 then (-1) else (u2 (u2 (u2 (u2 I 4 (fun k => if k < 256 then 60 else I 4 k)) 4 (fun k => if 17 * 0 ≤ k ∧ k < 272 ∧ k % 17 = 0 then 0 else (u2 I 4 (fun k => if k < 256 then 60 else I 4 k)) 4 k)) 13 (upd ((u2 (u2 I 4 (fun k => if k < 256 then 60 else I 4 k)) 4 (fun k => if 17 * 0 ≤ k ∧ k < 272 ∧ k % 17 = 0 then 0 else (u2 I 4 (fun k => if k < 256 then 60 else I 4 k)) 4 k)) 13) 13 2)) 13 (upd ((u2 (u2 (u2 I 4 (fun k => if k < 256 then 60 else I 4 k)) 4 (fun k => if 17 * 0 ≤ k ∧ k < 272 ∧ k % 17 = 0 then 0 else (u2 I 4 (fun k => if k < 256 then 60 else I 4 k)) 4 k)) 13 (upd ((u2 (u2 I 4 (fun k => if k < 256 then 60 else I 4 k)) 4 (fun k => if 17 * 0 ≤ k ∧ k < 272 ∧ k % 17 = 0 then 0 else (u2 I 4 (fun k => if k < 256 then 60 else I 4 k)) 4 k)) 13) 13 2)) 13) 12 (-1))) 32 k)) 33 (upd ((u2 (u2 (u2 (u2 (u2 I 4 (fun k => if k < 256 then 60 else I 4 k)) 4 (fun k => if 17 * 0 ≤ k ∧ k < 272 ∧ k % 17 = 0 then 0 else (u2 I 4 (fun k => if k < 256 then 60 else I 4 k)) 4 k)) 13 (upd ((u2 (u2 I 4 (fun k => if k < 256 then 60 else I 4 k)) 4 (fun k => if 17 * 0 ≤ k ∧ k < 272 ∧ k % 17 = 0 then 0 else (u2 I 4 (fun k => if k < 256 then 60 else I 4 k)) 4 k)) 13) 13 2)) 13 (upd ((u2 (u2 (u2 I 4 (fun k => if k < 256 then 60 else I 4 k)) 4 (fun k => if 17 * 0 ≤ k ∧ k < 272 ∧ k % 17 = 0 then 0 else (u2 I 4 (fun k => if k < 256 then 60 else I 4 k)) 4 k)) 13 (upd ((u2 (u2 I 4 (fun k => if k < 256 then 60 else I 4 k)) 4 (fun k => if 17 * 0 ≤ k ∧ k < 272 ∧ k % 17 = 0 then 0 else (u2 I 4 (fun k => if k < 256 then 60 else I 4 k)) 4 k)) 13) 13 2)) 13) 12 (-1))) 32 (fun k => if k < 16 then (-1) else (u2 (u2 (u2 (u2 I 4 (fun k => if k < 256 then 60 else I 4 k)) 4 (fun k => if 17 * 0 ≤ k ∧ k < 272 ∧ k % 17 = 0 then 0 else (u2 I 4 (fun k => if k < 256 then 60 else I 4 k)) 4 k)) 13 (upd ((u2 (u2 I 4 (fun k => if k < 256 then 60 else I 4 k)) 4 (fun k => if 17 * 0 ≤ k ∧ k < 272 ∧ k % 17 = 0 then 0 else (u2 I 4 (fun k => if k < 256 then 60 else I 4 k)) 4 k)) 13) 13 2)) 13 (upd ((u2 (u2 (u2 I 4 (fun k => if k < 256 then 60 else I 4 k)) 4 (fun k => if 17 * 0 ≤ k ∧ k < 272 ∧ k % 17 = 0 then 0 else (u2 I 4 (fun k => if k < 256 then 60 else I 4 k)) 4 k)) 13 (upd ((u2 (u2 I 4 (fun k => if k < 256 then 60 else I 4 k)) 4 (fun k => if 17 * 0 ≤ k ∧ k < 272 ∧ k % 17 = 0 then 0 else (u2 I 4 (fun k => if k < 256 then 60 else I 4 k)) 4 k)) 13) 13 2)) 13) 12 (-1))) 32 k)) 33) 9 (-1))) ((0, 15, 65) :: (65, 7, 53) :: (65, 14, 71) :: (65, 13, 70) :: (65, 11, 69) :: (65, 10, 68) :: (65, 9, 67) :: (65, 0, 66) :: (0, 14, 58) :: (58, 7, 53) :: (58, 14, 64) :: (58, 13, 63) :: (58, 11, 62) :: (58, 10, 61) :: (58, 9, 60) :: (58, 0, 59) :: (0, 13, 54) :: (54, 0, 40) :: (54, 4, 57) :: (54, 3, 56) :: (54, 2, 55) :: (0, 11, 53) :: (0, 9, 52) :: (0, 8, 44) :: (44, 0, 40) :: (44, 6, 51) :: (44, 4, 50) :: (44, 1, 45) :: (45, 3, 49) :: (45, 2, 48) :: (45, 1, 47) :: (45, 0, 46) :: (0, 7, 40) :: (40, 2, 43) :: (40, 1, 42) :: (40, 7, 148) :: (40, 0, 41) :: (0, 5, 39) :: (0, 4, 33) :: (33, 0, 1) :: (33, 8, 38) :: (33, 5, 37) :: (33, 4, 36) :: (33, 3, 35) :: (33, 2, 34) :: (0, 3, 26) :: (26, 2, 13) :: (26, 1, 5) :: (26, 0, 1) :: (26, 11, 32) :: (26, 9, 31) :: (26, 8, 30) :: (26, 7, 29) :: (26, 6, 28) :: (26, 4, 27) :: (0, 2, 13) :: (13, 0, 1) :: (13, 17, 25) :: (13, 16, 24) :: (13, 11, 23) :: (13, 10, 22) :: (13, 9, 21) :: (13, 8, 20) :: (13, 7, 19) :: (13, 6, 18) :: (13, 5, 17) :: (13, 4, 16) :: (13, 3, 15) :: (13, 2, 14) :: (0, 1, 5) :: (5, 8, 12) :: (5, 7, 11) :: (5, 5, 10) :: (5, 4, 9) :: (5, 3, 8) :: (5, 2, 7) :: (5, 1, 6) :: (0, 0, 1) :: (1, 3, 4) :: (1, 2, 3) :: (1, 0, 2) :: m) (us + 6543)) := by
  unfold f_X11_init
  have hm1 := Bl_s hm (show 1 ≤ 2 by decide)
  have hI2 := IZ_s hI (show 1 ≤ 2 by decide)
  rw [zO (e := 1) (n := 1) (n' := 2) (us := us) (us' := us + 4) (ci := 9) (N := 4) rfl dX9_dv rfl rfl (by decide) (by omega) (by omega) hm hI]
  have hm3 := Bl_c (c := 1) (f := 3) (y := 4) (Bl_c (c := 1) (f := 2) (y := 3) (Bl_c (c := 1) (f := 0) (y := 2) (Bl_s hm1 (show 2 ≤ 5 by decide)) (by decide)) (by decide)) (by decide)
  have hI4 := IZ_u (c := 4) (f := fun k => if 17 * 0 ≤ k ∧ k < 272 ∧ k % 17 = 0 then 0 else (u2 I 4 (fun k => if k < 256 then 60 else I 4 k)) 4 k) (IZ_u (c := 4) (f := fun k => if k < 256 then 60 else I 4 k) (IZ_s hI2 (show 2 ≤ 5 by decide)) (by decide)) (by decide)
  rw [z_i1 (us := us + 4) (by omega) hm1 hI2, Option.bind_some, show us + 4 + 288 = us + 292 by omega]
  have hm5 := Bl_c (c := 0) (f := 0) (y := 1) hm3 (by decide)
  rw [zQ (n := 5) (ci := 11) (c := 0) (f := 0) (y := 1) (by decide) rfl rfl]
  have hm6 := Bl_s hm5 (show 5 ≤ 6 by decide)
  have hI7 := IZ_s hI4 (show 5 ≤ 6 by decide)
  rw [zO (e := 5) (n := 5) (n' := 6) (us := us + 292) (us' := us + 301) (ci := 4) (N := 9) rfl dX4_dv rfl rfl (by decide) (by omega) (by omega) hm5 hI4]
  have hm8 := Bl_c (c := 5) (f := 8) (y := 12) (Bl_c (c := 5) (f := 7) (y := 11) (Bl_c (c := 5) (f := 5) (y := 10) (Bl_c (c := 5) (f := 4) (y := 9) (Bl_c (c := 5) (f := 3) (y := 8) (Bl_c (c := 5) (f := 2) (y := 7) (Bl_c (c := 5) (f := 1) (y := 6) (Bl_s hm6 (show 6 ≤ 13 by decide)) (by decide)) (by decide)) (by decide)) (by decide)) (by decide)) (by decide)) (by decide)
  have hI9 := IZ_s hI7 (show 6 ≤ 13 by decide)
  rw [z_i5 (us := us + 301) (by omega) hm6 hI7, Option.bind_some, show us + 301 + 950 = us + 1251 by omega]
  have hm10 := Bl_c (c := 0) (f := 1) (y := 5) hm8 (by decide)
  rw [zQ (n := 13) (ci := 11) (c := 0) (f := 1) (y := 5) (by decide) rfl rfl]
  have hm11 := Bl_s hm10 (show 13 ≤ 14 by decide)
  have hI12 := IZ_s hI9 (show 13 ≤ 14 by decide)
  rw [zO (e := 13) (n := 13) (n' := 14) (us := us + 1251) (us' := us + 1269) (ci := 10) (N := 18) rfl dX10_dv rfl rfl (by decide) (by omega) (by omega) hm10 hI9]
  rw [zG (n := 14) (ci := 11) (c := 0) (f := 0) (y := 1) (by decide) rfl rfl rfl]
  have hm13 := Bl_c (c := 13) (f := 0) (y := 1) (Bl_c (c := 13) (f := 17) (y := 25) (Bl_c (c := 13) (f := 16) (y := 24) (Bl_c (c := 13) (f := 11) (y := 23) (Bl_c (c := 13) (f := 10) (y := 22) (Bl_c (c := 13) (f := 9) (y := 21) (Bl_c (c := 13) (f := 8) (y := 20) (Bl_c (c := 13) (f := 7) (y := 19) (Bl_c (c := 13) (f := 6) (y := 18) (Bl_c (c := 13) (f := 5) (y := 17) (Bl_c (c := 13) (f := 4) (y := 16) (Bl_c (c := 13) (f := 3) (y := 15) (Bl_c (c := 13) (f := 2) (y := 14) (Bl_s hm11 (show 14 ≤ 26 by decide)) (by decide)) (by decide)) (by decide)) (by decide)) (by decide)) (by decide)) (by decide)) (by decide)) (by decide)) (by decide)) (by decide)) (by decide)) (by decide)
  have hI14 := IZ_u (c := 13) (f := upd ((u2 (u2 (u2 I 4 (fun k => if k < 256 then 60 else I 4 k)) 4 (fun k => if 17 * 0 ≤ k ∧ k < 272 ∧ k % 17 = 0 then 0 else (u2 I 4 (fun k => if k < 256 then 60 else I 4 k)) 4 k)) 13 (upd ((u2 (u2 I 4 (fun k => if k < 256 then 60 else I 4 k)) 4 (fun k => if 17 * 0 ≤ k ∧ k < 272 ∧ k % 17 = 0 then 0 else (u2 I 4 (fun k => if k < 256 then 60 else I 4 k)) 4 k)) 13) 13 2)) 13) 12 (-1)) (IZ_u (c := 13) (f := upd ((u2 (u2 I 4 (fun k => if k < 256 then 60 else I 4 k)) 4 (fun k => if 17 * 0 ≤ k ∧ k < 272 ∧ k % 17 = 0 then 0 else (u2 I 4 (fun k => if k < 256 then 60 else I 4 k)) 4 k)) 13) 13 2) (IZ_s hI12 (show 14 ≤ 26 by decide)) (by decide)) (by decide)
  rw [z_i13 (us := us + 1269) (by omega) hm11 hI12, Option.bind_some, show us + 1269 + 595 = us + 1864 by omega]
  have hm15 := Bl_c (c := 0) (f := 2) (y := 13) hm13 (by decide)
  rw [zQ (n := 26) (ci := 11) (c := 0) (f := 2) (y := 13) (by decide) rfl rfl]
  have hm16 := Bl_s hm15 (show 26 ≤ 27 by decide)
  have hI17 := IZ_s hI14 (show 26 ≤ 27 by decide)
  rw [zO (e := 26) (n := 26) (n' := 27) (us := us + 1864) (us' := us + 1876) (ci := 3) (N := 12) rfl dX3_dv rfl rfl (by decide) (by omega) (by omega) hm15 hI14]
  rw [zG (n := 27) (ci := 11) (c := 0) (f := 0) (y := 1) (by decide) rfl rfl rfl]
  rw [zG (n := 27) (ci := 11) (c := 0) (f := 1) (y := 5) (by decide) rfl rfl rfl]
  rw [zG (n := 27) (ci := 11) (c := 0) (f := 2) (y := 13) (by decide) rfl rfl rfl]
  have hm18 := Bl_c (c := 26) (f := 2) (y := 13) (Bl_c (c := 26) (f := 1) (y := 5) (Bl_c (c := 26) (f := 0) (y := 1) (Bl_c (c := 26) (f := 11) (y := 32) (Bl_c (c := 26) (f := 9) (y := 31) (Bl_c (c := 26) (f := 8) (y := 30) (Bl_c (c := 26) (f := 7) (y := 29) (Bl_c (c := 26) (f := 6) (y := 28) (Bl_c (c := 26) (f := 4) (y := 27) (Bl_s hm16 (show 27 ≤ 33 by decide)) (by decide)) (by decide)) (by decide)) (by decide)) (by decide)) (by decide)) (by decide)) (by decide)) (by decide)
  have hI19 := IZ_u (c := 32) (f := fun k => if k < 16 then (-1) else (u2 (u2 (u2 (u2 I 4 (fun k => if k < 256 then 60 else I 4 k)) 4 (fun k => if 17 * 0 ≤ k ∧ k < 272 ∧ k % 17 = 0 then 0 else (u2 I 4 (fun k => if k < 256 then 60 else I 4 k)) 4 k)) 13 (upd ((u2 (u2 I 4 (fun k => if k < 256 then 60 else I 4 k)) 4 (fun k => if 17 * 0 ≤ k ∧ k < 272 ∧ k % 17 = 0 then 0 else (u2 I 4 (fun k => if k < 256 then 60 else I 4 k)) 4 k)) 13) 13 2)) 13 (upd ((u2 (u2 (u2 I 4 (fun k => if k < 256 then 60 else I 4 k)) 4 (fun k => if 17 * 0 ≤ k ∧ k < 272 ∧ k % 17 = 0 then 0 else (u2 I 4 (fun k => if k < 256 then 60 else I 4 k)) 4 k)) 13 (upd ((u2 (u2 I 4 (fun k => if k < 256 then 60 else I 4 k)) 4 (fun k => if 17 * 0 ≤ k ∧ k < 272 ∧ k % 17 = 0 then 0 else (u2 I 4 (fun k => if k < 256 then 60 else I 4 k)) 4 k)) 13) 13 2)) 13) 12 (-1))) 32 k) (IZ_s hI17 (show 27 ≤ 33 by decide)) (by decide)
  rw [z_i26 (us := us + 1876) (by omega) hm16 hI17, Option.bind_some, show us + 1876 + 94 = us + 1970 by omega]
  have hm20 := Bl_c (c := 0) (f := 3) (y := 26) hm18 (by decide)
  rw [zQ (n := 33) (ci := 11) (c := 0) (f := 3) (y := 26) (by decide) rfl rfl]
  have hm21 := Bl_s hm20 (show 33 ≤ 34 by decide)
  have hI22 := IZ_s hI19 (show 33 ≤ 34 by decide)
  rw [zO (e := 33) (n := 33) (n' := 34) (us := us + 1970) (us' := us + 1980) (ci := 6) (N := 10) rfl dX6_dv rfl rfl (by decide) (by omega) (by omega) hm20 hI19]
  rw [zG (n := 34) (ci := 11) (c := 0) (f := 0) (y := 1) (by decide) rfl rfl rfl]
  have hm23 := Bl_c (c := 33) (f := 0) (y := 1) (Bl_c (c := 33) (f := 8) (y := 38) (Bl_c (c := 33) (f := 5) (y := 37) (Bl_c (c := 33) (f := 4) (y := 36) (Bl_c (c := 33) (f := 3) (y := 35) (Bl_c (c := 33) (f := 2) (y := 34) (Bl_s hm21 (show 34 ≤ 39 by decide)) (by decide)) (by decide)) (by decide)) (by decide)) (by decide)) (by decide)
  have hI24 := IZ_u (c := 33) (f := upd ((u2 (u2 (u2 (u2 (u2 I 4 (fun k => if k < 256 then 60 else I 4 k)) 4 (fun k => if 17 * 0 ≤ k ∧ k < 272 ∧ k % 17 = 0 then 0 else (u2 I 4 (fun k => if k < 256 then 60 else I 4 k)) 4 k)) 13 (upd ((u2 (u2 I 4 (fun k => if k < 256 then 60 else I 4 k)) 4 (fun k => if 17 * 0 ≤ k ∧ k < 272 ∧ k % 17 = 0 then 0 else (u2 I 4 (fun k => if k < 256 then 60 else I 4 k)) 4 k)) 13) 13 2)) 13 (upd ((u2 (u2 (u2 I 4 (fun k => if k < 256 then 60 else I 4 k)) 4 (fun k => if 17 * 0 ≤ k ∧ k < 272 ∧ k % 17 = 0 then 0 else (u2 I 4 (fun k => if k < 256 then 60 else I 4 k)) 4 k)) 13 (upd ((u2 (u2 I 4 (fun k => if k < 256 then 60 else I 4 k)) 4 (fun k => if 17 * 0 ≤ k ∧ k < 272 ∧ k % 17 = 0 then 0 else (u2 I 4 (fun k => if k < 256 then 60 else I 4 k)) 4 k)) 13) 13 2)) 13) 12 (-1))) 32 (fun k => if k < 16 then (-1) else (u2 (u2 (u2 (u2 I 4 (fun k => if k < 256 then 60 else I 4 k)) 4 (fun k => if 17 * 0 ≤ k ∧ k < 272 ∧ k % 17 = 0 then 0 else (u2 I 4 (fun k => if k < 256 then 60 else I 4 k)) 4 k)) 13 (upd ((u2 (u2 I 4 (fun k => if k < 256 then 60 else I 4 k)) 4 (fun k => if 17 * 0 ≤ k ∧ k < 272 ∧ k % 17 = 0 then 0 else (u2 I 4 (fun k => if k < 256 then 60 else I 4 k)) 4 k)) 13) 13 2)) 13 (upd ((u2 (u2 (u2 I 4 (fun k => if k < 256 then 60 else I 4 k)) 4 (fun k => if 17 * 0 ≤ k ∧ k < 272 ∧ k % 17 = 0 then 0 else (u2 I 4 (fun k => if k < 256 then 60 else I 4 k)) 4 k)) 13 (upd ((u2 (u2 I 4 (fun k => if k < 256 then 60 else I 4 k)) 4 (fun k => if 17 * 0 ≤ k ∧ k < 272 ∧ k % 17 = 0 then 0 else (u2 I 4 (fun k => if k < 256 then 60 else I 4 k)) 4 k)) 13) 13 2)) 13) 12 (-1))) 32 k)) 33) 9 (-1)) (IZ_s hI22 (show 34 ≤ 39 by decide)) (by decide)
  rw [z_i33 (us := us + 1980) (by omega) hm21 hI22, Option.bind_some, show us + 1980 + 309 = us + 2289 by omega]
  have hm25 := Bl_c (c := 0) (f := 4) (y := 33) hm23 (by decide)
  rw [zQ (n := 39) (ci := 11) (c := 0) (f := 4) (y := 33) (by decide) rfl rfl]
  have hm26 := Bl_c (c := 0) (f := 5) (y := 39) (Bl_s hm25 (show 39 ≤ 40 by decide)) (by decide)
  have hI27 := IZ_s hI24 (show 39 ≤ 40 by decide)
  rw [zA (e := 39) (x := 400) (n := 39) (n' := 40) (us := us + 2289) (us' := us + 2689) (k := 400) (t := 1) (ci := 11) (c := 0) (f := 5) rfl rfl (by decide) (by decide) rfl (by decide) rfl rfl rfl (by decide) (by omega) (by omega) hm25 hI24]
  have hm28 := Bl_s hm26 (show 40 ≤ 41 by decide)
  have hI29 := IZ_s hI27 (show 40 ≤ 41 by decide)
  rw [zO (e := 40) (n := 40) (n' := 41) (us := us + 2689) (us' := us + 2697) (ci := 7) (N := 8) rfl dX7_dv rfl rfl (by decide) (by omega) (by omega) hm26 hI27]
  have hm30 := Bl_c (c := 40) (f := 2) (y := 43) (Bl_c (c := 40) (f := 1) (y := 42) (Bl_c (c := 40) (f := 7) (y := 148) (Bl_c (c := 40) (f := 0) (y := 41) (Bl_s hm28 (show 41 ≤ 45 by decide)) (by decide)) (by decide)) (by decide)) (by decide)
  have hI31 := IZ_s hI29 (show 41 ≤ 45 by decide)
  rw [z_i40 (us := us + 2697) (by omega) hm28 hI29, Option.bind_some, show us + 2697 + 1604 = us + 4301 by omega]
  have hm32 := Bl_c (c := 0) (f := 7) (y := 40) hm30 (by decide)
  rw [zQ (n := 45) (ci := 11) (c := 0) (f := 7) (y := 40) (by decide) rfl rfl]
  have hm33 := Bl_s hm32 (show 45 ≤ 46 by decide)
  have hI34 := IZ_s hI31 (show 45 ≤ 46 by decide)
  rw [zO (e := 44) (n := 45) (n' := 46) (us := us + 4301) (us' := us + 4309) (ci := 2) (N := 8) rfl dX2_dv rfl rfl (by decide) (by omega) (by omega) hm32 hI31]
  rw [zG (n := 46) (ci := 11) (c := 0) (f := 7) (y := 40) (by decide) rfl rfl rfl]
  have hm35 := Bl_c (c := 44) (f := 0) (y := 40) (Bl_c (c := 44) (f := 6) (y := 51) (Bl_c (c := 44) (f := 4) (y := 50) (Bl_c (c := 44) (f := 1) (y := 45) (Bl_c (c := 45) (f := 3) (y := 49) (Bl_c (c := 45) (f := 2) (y := 48) (Bl_c (c := 45) (f := 1) (y := 47) (Bl_c (c := 45) (f := 0) (y := 46) (Bl_s hm33 (show 46 ≤ 53 by decide)) (by decide)) (by decide)) (by decide)) (by decide)) (by decide)) (by decide)) (by decide)) (by decide)
  have hI36 := IZ_s hI34 (show 46 ≤ 53 by decide)
  rw [z_i44 (us := us + 4309) (by omega) hm33 hI34, Option.bind_some, show us + 4309 + 1153 = us + 5462 by omega]
  have hm37 := Bl_c (c := 0) (f := 8) (y := 44) hm35 (by decide)
  rw [zQ (n := 53) (ci := 11) (c := 0) (f := 8) (y := 44) (by decide) rfl rfl]
  have hm38 := Bl_c (c := 0) (f := 9) (y := 52) (Bl_s hm37 (show 53 ≤ 54 by decide)) (by decide)
  have hI39 := IZ_s hI36 (show 53 ≤ 54 by decide)
  rw [zA (e := 52) (x := 12) (n := 53) (n' := 54) (us := us + 5462) (us' := us + 5474) (k := 12) (t := 6) (ci := 11) (c := 0) (f := 9) rfl rfl (by decide) (by decide) rfl (by decide) rfl rfl rfl (by decide) (by omega) (by omega) hm37 hI36]
  have hm40 := Bl_c (c := 0) (f := 11) (y := 53) (Bl_s hm38 (show 54 ≤ 55 by decide)) (by decide)
  have hI41 := IZ_s hI39 (show 54 ≤ 55 by decide)
  rw [zA (e := 53) (x := 12) (n := 54) (n' := 55) (us := us + 5474) (us' := us + 5486) (k := 12) (t := 4) (ci := 11) (c := 0) (f := 11) rfl rfl (by decide) (by decide) rfl (by decide) rfl rfl rfl (by decide) (by omega) (by omega) hm38 hI39]
  have hm42 := Bl_s hm40 (show 55 ≤ 56 by decide)
  have hI43 := IZ_s hI41 (show 55 ≤ 56 by decide)
  rw [zO (e := 54) (n := 55) (n' := 56) (us := us + 5486) (us' := us + 5492) (ci := 5) (N := 6) rfl dX5_dv rfl rfl (by decide) (by omega) (by omega) hm40 hI41]
  rw [zG (n := 56) (ci := 11) (c := 0) (f := 7) (y := 40) (by decide) rfl rfl rfl]
  have hm44 := Bl_c (c := 54) (f := 0) (y := 40) (Bl_c (c := 54) (f := 4) (y := 57) (Bl_c (c := 54) (f := 3) (y := 56) (Bl_c (c := 54) (f := 2) (y := 55) (Bl_s hm42 (show 56 ≤ 59 by decide)) (by decide)) (by decide)) (by decide)) (by decide)
  have hI45 := IZ_s hI43 (show 56 ≤ 59 by decide)
  rw [z_i54 (us := us + 5492) (by omega) hm42 hI43, Option.bind_some, show us + 5492 + 153 = us + 5645 by omega]
  have hm46 := Bl_c (c := 0) (f := 13) (y := 54) hm44 (by decide)
  rw [zQ (n := 59) (ci := 11) (c := 0) (f := 13) (y := 54) (by decide) rfl rfl]
  have hm47 := Bl_s hm46 (show 59 ≤ 60 by decide)
  have hI48 := IZ_s hI45 (show 59 ≤ 60 by decide)
  rw [zO (e := 58) (n := 59) (n' := 60) (us := us + 5645) (us' := us + 5661) (ci := 0) (N := 16) rfl dX0_dv rfl rfl (by decide) (by omega) (by omega) hm46 hI45]
  rw [zG (n := 60) (ci := 11) (c := 0) (f := 11) (y := 53) (by decide) rfl rfl rfl]
  have hm49 := Bl_c (c := 58) (f := 7) (y := 53) (Bl_c (c := 58) (f := 14) (y := 64) (Bl_c (c := 58) (f := 13) (y := 63) (Bl_c (c := 58) (f := 11) (y := 62) (Bl_c (c := 58) (f := 10) (y := 61) (Bl_c (c := 58) (f := 9) (y := 60) (Bl_c (c := 58) (f := 0) (y := 59) (Bl_s hm47 (show 60 ≤ 66 by decide)) (by decide)) (by decide)) (by decide)) (by decide)) (by decide)) (by decide)) (by decide)
  have hI50 := IZ_s hI48 (show 60 ≤ 66 by decide)
  rw [z_i58 (us := us + 5661) (by omega) hm47 hI48, Option.bind_some, show us + 5661 + 433 = us + 6094 by omega]
  have hm51 := Bl_c (c := 0) (f := 14) (y := 58) hm49 (by decide)
  rw [zQ (n := 66) (ci := 11) (c := 0) (f := 14) (y := 58) (by decide) rfl rfl]
  have hm52 := Bl_s hm51 (show 66 ≤ 67 by decide)
  have hI53 := IZ_s hI50 (show 66 ≤ 67 by decide)
  rw [zO (e := 65) (n := 66) (n' := 67) (us := us + 6094) (us' := us + 6110) (ci := 0) (N := 16) rfl dX0_dv rfl rfl (by decide) (by omega) (by omega) hm51 hI50]
  rw [zG (n := 67) (ci := 11) (c := 0) (f := 11) (y := 53) (by decide) rfl rfl rfl]
  have hm54 := Bl_c (c := 65) (f := 7) (y := 53) (Bl_c (c := 65) (f := 14) (y := 71) (Bl_c (c := 65) (f := 13) (y := 70) (Bl_c (c := 65) (f := 11) (y := 69) (Bl_c (c := 65) (f := 10) (y := 68) (Bl_c (c := 65) (f := 9) (y := 67) (Bl_c (c := 65) (f := 0) (y := 66) (Bl_s hm52 (show 67 ≤ 73 by decide)) (by decide)) (by decide)) (by decide)) (by decide)) (by decide)) (by decide)) (by decide)
  have hI55 := IZ_s hI53 (show 67 ≤ 73 by decide)
  rw [z_i65 (us := us + 6110) (by omega) hm52 hI53, Option.bind_some, show us + 6110 + 433 = us + 6543 by omega]
  have hm56 := Bl_c (c := 0) (f := 15) (y := 65) hm54 (by decide)
  rw [zQ (n := 73) (ci := 11) (c := 0) (f := 15) (y := 65) (by decide) rfl rfl]
  all_goals rfl
end INI
