/-! ===== painting: what is painted ===== -/
/-- vars, canvas, steps done, spent, words shown -/
abbrev PSt : Type := RW × RW × Nat × Bool × Nat × (Nat → Int64)
def CB (ho r : RW) : Prop := ∀ k, k < 192 → -1 ≤ r k ∧ r k ≤ 7 ∧ (ho k ≠ 0 → r k = -1)
theorem tint_b : ∀ v, v < 8 → -1 ≤ Int32.ofNat v ∧ Int32.ofNat v ≤ 7 := by decide +kernel
theorem pd_c {W H v : Nat} {ho r : RW} {x y : Int32} (hv : v < 8) (h : CB ho r) : CB ho (pd W H ho r x y (Int32.ofNat v)) := by
  intro k hk
  unfold pd
  split
  · rename_i hq
    unfold upd
    split
    · rename_i hk2
      exact ⟨(tint_b v hv).1, (tint_b v hv).2, fun q => absurd (by rw [hk2]; exact hq.2.2.2.2) q⟩
    · exact h k hk
  · exact h k hk
theorem rwP_c {W H v : Nat} {ho : RW} {y xw : Int32} (hv : v < 8) : ∀ (m k : Nat) (r : RW), CB ho r → CB ho (rwP W H ho y (Int32.ofNat v) xw m k r) := by
  intro m
  induction m with
  | zero => intro k r h; exact h
  | succ m ih =>
    intro k r h
    unfold rwP
    split
    · exact h
    · exact ih _ _ (pd_c hv h)
theorem rcP_c {W H k0 v : Nat} {ho : RW} {xw yh : Int32} (hv : v < 8) : ∀ (m j : Nat) (r : RW), CB ho r → CB ho (rcP W H ho (Int32.ofNat v) xw yh k0 m j r) := by
  intro m
  induction m with
  | zero => intro k r h; exact h
  | succ m ih =>
    intro k r h
    unfold rcP
    split
    · exact h
    · exact ih _ _ (rwP_c hv _ _ _ h)
theorem dwP_c {W H j v : Nat} {ho : RW} {x y r : Int32} (hv : v < 8) : ∀ (m k : Nat) (q : RW), CB ho q → CB ho (dwP W H ho (Int32.ofNat v) x y r j m k q) := by
  intro m
  induction m with
  | zero => intro k q h; exact h
  | succ m ih =>
    intro k q h
    unfold dwP
    split
    · exact h
    · refine ih _ _ ?_
      split
      · exact h
      · exact pd_c hv h
theorem dcP_c {W H v : Nat} {ho : RW} {x y r : Int32} (hv : v < 8) : ∀ (m j : Nat) (q : RW), CB ho q → CB ho (dcP W H ho (Int32.ofNat v) x y r m j q) := by
  intro m
  induction m with
  | zero => intro k r h; exact h
  | succ m ih =>
    intro k r h
    unfold dcP
    split
    · exact h
    · exact ih _ _ (dwP_c hv _ _ _ h)
theorem syP_c {W H v : Nat} {ho : RW} {x y : Int32} (hv : v < 8) : ∀ (m k : Nat) (an : Bool) (r : RW), CB ho r → CB ho (syP W H ho (Int32.ofNat v) x y m k an r).2 := by
  intro m
  induction m with
  | zero => intro k an r h; exact h
  | succ m ih => intro k an r h; exact ih _ _ _ (pd_c hv h)
/-- bits of the bars that are among the words shown -/
def BT (nb : Nat) (bars : Nat → Int64) (sm : Nat) (sh : Nat → Int64) (x : Int32) : Prop := ∀ j, j < 32 → (bt x j = true ↔ j < nb ∧ ∃ k, k < sm ∧ sh k = bars j)
theorem BT_had {nb sm : Nat} {bars sh : Nat → Int64} {x : Int32} {wd : Int64} (hnb : nb ≤ 12) (h : BT nb bars sm sh x) (hw : ∃ k, k < sm ∧ sh k = wd) : BT nb bars sm sh (nsP bars wd nb 0 x) := by
  intro j hj
  rw [nsP_bt nb 0 x (by omega) j hj, Bool.or_eq_true, h j hj, decide_eq_true_iff]
  constructor
  · rintro (q | ⟨-, q1, q2⟩)
    · exact q
    · obtain ⟨k, k1, k2⟩ := hw
      exact ⟨by omega, k, k1, k2.trans q2.symm⟩
  · exact fun q => Or.inl q
theorem BT_new {nb sm : Nat} {bars sh : Nat → Int64} {x : Int32} {wd : Int64} (hnb : nb ≤ 12) (h : BT nb bars sm sh x) : BT nb bars (sm + 1) (vp_updL sh sm wd) (nsP bars wd nb 0 x) := by
  intro j hj
  rw [nsP_bt nb 0 x (by omega) j hj, Bool.or_eq_true, h j hj, decide_eq_true_iff]
  have us : vp_updL sh sm wd sm = wd := if_pos rfl
  have un : ∀ k, k < sm → vp_updL sh sm wd k = sh k := fun k hk => if_neg (by omega)
  constructor
  · rintro (⟨q1, k, k1, k2⟩ | ⟨-, q1, q2⟩)
    · exact ⟨q1, k, by omega, by rw [un k k1]; exact k2⟩
    · exact ⟨by omega, sm, by omega, by rw [us]; exact q2.symm⟩
  · rintro ⟨q1, k, k1, k2⟩
    by_cases hk : k = sm
    · subst hk
      rw [us] at k2
      exact Or.inr ⟨Nat.zero_le _, by omega, k2.symm⟩
    · rw [un k (by omega)] at k2
      exact Or.inl ⟨q1, k, by omega, k2⟩
/-- no more than m different things among m -/
theorem pig : ∀ (m n : Nat) (f : Nat → Nat), (∀ i, i < n → f i < m) → (∀ i j, i < n → j < n → f i = f j → i = j) → n ≤ m := by
  intro m
  induction m with
  | zero =>
    intro n f h1 _
    rcases Nat.eq_zero_or_pos n with h | h
    · omega
    · exact absurd (h1 0 h) (Nat.not_lt_zero _)
  | succ m ih =>
    intro n f h1 h2
    by_cases hx : ∃ i0, i0 < n ∧ f i0 = m
    · obtain ⟨i0, a1, a2⟩ := hx
      have := ih (n - 1) (fun i => f (if i < i0 then i else i + 1)) (fun i hi => ?_) (fun i j hi hj e => ?_)
      · omega
      · show f (if i < i0 then i else i + 1) < m
        split
        · rename_i h
          have := h1 i (by omega)
          have : f i ≠ m := fun q => by have := h2 i i0 (by omega) a1 (q.trans a2.symm); omega
          omega
        · have := h1 (i + 1) (by omega)
          have : f (i + 1) ≠ m := fun q => by have := h2 (i + 1) i0 (by omega) a1 (q.trans a2.symm); omega
          omega
      · have e : f (if i < i0 then i else i + 1) = f (if j < i0 then j else j + 1) := e
        split at e
        · split at e
          · exact h2 i j (by omega) (by omega) e
          · have := h2 i (j + 1) (by omega) (by omega) e
            omega
        · split at e
          · have := h2 (i + 1) j (by omega) (by omega) e
            omega
          · have := h2 (i + 1) (j + 1) (by omega) (by omega) e
            omega
    · have := ih n f (fun i hi => by have := h1 i hi; have : f i ≠ m := fun q => hx ⟨i, hi, q⟩; omega) h2
      omega
/-- what holds of it -/
def AOK (ho : RW) (Wd : Nat → Int64) (A : PSt) : Prop := (∀ k, k < 5 → BV (A.1 k)) ∧ A.2.2.1 ≤ 1500 ∧ A.2.2.2.2.1 ≤ 40 ∧ (∀ i j, i < A.2.2.2.2.1 → j < A.2.2.2.2.1 → A.2.2.2.2.2 i = A.2.2.2.2.2 j → i = j) ∧ (∀ k, k < A.2.2.2.2.1 → ∃ s, s < 40 ∧ A.2.2.2.2.2 k = Wd s) ∧ CB ho A.2.1
theorem AOK_new {ho : RW} {Wd : Nat → Int64} {A : PSt} {s : Nat} (h : AOK ho Wd A) (hs : s < 40) (hw : ¬ ∃ k, k < A.2.2.2.2.1 ∧ A.2.2.2.2.2 k = Wd s) : A.2.2.2.2.1 < 40 ∧ AOK ho Wd (A.1, A.2.1, A.2.2.1, A.2.2.2.1, A.2.2.2.2.1 + 1, vp_updL A.2.2.2.2.2 A.2.2.2.2.1 (Wd s)) := by
  obtain ⟨a1, a2, a3, a4, a5, a6⟩ := h
  have us : vp_updL A.2.2.2.2.2 A.2.2.2.2.1 (Wd s) A.2.2.2.2.1 = Wd s := if_pos rfl
  have un : ∀ k, k < A.2.2.2.2.1 → vp_updL A.2.2.2.2.2 A.2.2.2.2.1 (Wd s) k = A.2.2.2.2.2 k := fun k hk => if_neg (by omega)
  have d4 : ∀ i j, i < A.2.2.2.2.1 + 1 → j < A.2.2.2.2.1 + 1 → vp_updL A.2.2.2.2.2 A.2.2.2.2.1 (Wd s) i = vp_updL A.2.2.2.2.2 A.2.2.2.2.1 (Wd s) j → i = j := by
    intro i j hi hj e
    by_cases i1 : i = A.2.2.2.2.1
    · by_cases j1 : j = A.2.2.2.2.1
      · omega
      · rw [i1, us, un j (by omega)] at e
        exact absurd ⟨j, by omega, e.symm⟩ hw
    · by_cases j1 : j = A.2.2.2.2.1
      · rw [j1, us, un i (by omega)] at e
        exact absurd ⟨i, by omega, e⟩ hw
      · rw [un i (by omega), un j (by omega)] at e
        exact a4 i j (by omega) (by omega) e
  have d5 : ∀ k, k < A.2.2.2.2.1 + 1 → ∃ s', s' < 40 ∧ vp_updL A.2.2.2.2.2 A.2.2.2.2.1 (Wd s) k = Wd s' := by
    intro k hk
    by_cases k1 : k = A.2.2.2.2.1
    · exact ⟨s, hs, by rw [k1, us]⟩
    · obtain ⟨s', q1, q2⟩ := a5 k (by omega)
      exact ⟨s', q1, by rw [un k (by omega)]; exact q2⟩
  have hlt : A.2.2.2.2.1 + 1 ≤ 40 := by
    have hex : ∀ k, ∃ s', k < A.2.2.2.2.1 + 1 → s' < 40 ∧ vp_updL A.2.2.2.2.2 A.2.2.2.2.1 (Wd s) k = Wd s' := fun k => by
      by_cases hk : k < A.2.2.2.2.1 + 1
      · obtain ⟨s', q⟩ := d5 k hk
        exact ⟨s', fun _ => q⟩
      · exact ⟨0, fun q => absurd q hk⟩
    refine pig 40 (A.2.2.2.2.1 + 1) (fun k => Classical.choose (hex k)) (fun i hi => (Classical.choose_spec (hex i) hi).1) (fun i j hi hj e => d4 i j hi hj ?_)
    rw [(Classical.choose_spec (hex i) hi).2, (Classical.choose_spec (hex j) hj).2]
    exact congrArg Wd e
  exact ⟨by omega, a1, a2, hlt, d4, d5, a6⟩
/-- the class's picture of it -/
def XA (cv W H nb : Nat) (ho : RW) (bars : Nat → Int64) (A : PSt) (ec hc : Nat) (I : Nat → Nat → Int32) : Prop := I cv 1 = Int32.ofNat W ∧ I cv 2 = Int32.ofNat H ∧ I cv 8 = Int32.ofNat nb ∧ I (cv + 2) = ho ∧ I cv 4 = Int32.ofNat A.2.2.1 ∧ I cv 5 = bZ A.2.2.2.1 ∧ BT nb bars A.2.2.2.2.1 A.2.2.2.2.2 (I cv 6) ∧ (∀ k, k < 5 → I (cv + 3) k = A.1 k) ∧ A192 (I (cv + 1)) A.2.1 ∧ (A.2.2.2.1 = false → I cv 12 = Int32.ofNat hc ∧ I cv 15 = Int32.ofNat ec)
/-- the reference's -/
def MA (W H w : Nat) (ho : RW) (A : PSt) (I : Nat → Nat → Int32) (L : Nat → Nat → Int64) : Prop := MW W H w ho I ∧ I 72 48 = Int32.ofNat A.2.2.1 ∧ I 72 50 = bZ A.2.2.2.1 ∧ I 72 49 = Int32.ofNat A.2.2.2.2.1 ∧ (∀ k, k < 5 → I 107 k = A.1 k) ∧ A192 (I 106) A.2.1 ∧ ∀ k, k < A.2.2.2.2.1 → L 109 k = A.2.2.2.2.2 k
def FXp (cv ec : Nat) (I J : Nat → Nat → Int32) : Prop := (∀ q, q ≠ cv → q ≠ cv + 1 → q ≠ cv + 3 → q ≠ cv + 4 → q ≠ cv + 5 → q ≠ cv + 6 → J q = I q) ∧ (∀ k, k ≠ 4 → k ≠ 5 → k ≠ 6 → k ≠ 12 → k ≠ 15 → J cv k = I cv k) ∧ ∀ j, j < ec → J (cv + 5) j = I (cv + 5) j ∧ J (cv + 6) j = I (cv + 6) j
theorem FXp.refl {cv ec : Nat} {I : Nat → Nat → Int32} : FXp cv ec I I := ⟨fun _ _ _ _ _ _ _ => rfl, fun _ _ _ _ _ _ => rfl, fun _ _ => ⟨rfl, rfl⟩⟩
theorem FXp.trans {cv ec ec' : Nat} {I J K : Nat → Nat → Int32} (h : FXp cv ec I J) (h' : FXp cv ec' J K) (he : ec ≤ ec') : FXp cv ec I K := ⟨fun q a1 a2 a3 a4 a5 a6 => (h'.1 q a1 a2 a3 a4 a5 a6).trans (h.1 q a1 a2 a3 a4 a5 a6), fun k a1 a2 a3 a4 a5 => (h'.2.1 k a1 a2 a3 a4 a5).trans (h.2.1 k a1 a2 a3 a4 a5), fun j hj => ⟨(h'.2.2 j (by omega)).1.trans (h.2.2 j hj).1, (h'.2.2 j (by omega)).2.trans (h.2.2 j hj).2⟩⟩
def FMp (I J : Nat → Nat → Int32) (L M : Nat → Nat → Int64) : Prop := (∀ q, q ≠ 72 → q ≠ 106 → q ≠ 107 → q ≠ 108 → J q = I q) ∧ (∀ k, k ≠ 48 → k ≠ 49 → k ≠ 50 → J 72 k = I 72 k) ∧ ∀ q, q ≠ 109 → M q = L q
theorem FMp.refl {I : Nat → Nat → Int32} {L : Nat → Nat → Int64} : FMp I I L L := ⟨fun _ _ _ _ _ => rfl, fun _ _ _ _ => rfl, fun _ _ => rfl⟩
theorem FMp.trans {I J K : Nat → Nat → Int32} {L M N : Nat → Nat → Int64} (h : FMp I J L M) (h' : FMp J K M N) : FMp I K L N := ⟨fun q a1 a2 a3 a4 => (h'.1 q a1 a2 a3 a4).trans (h.1 q a1 a2 a3 a4), fun k a1 a2 a3 => (h'.2.1 k a1 a2 a3).trans (h.2.1 k a1 a2 a3), fun q hq => (h'.2.2 q hq).trans (h.2.2 q hq)⟩
/-- the reference's drawing at r -/
def RR (r : Nat) (R : Nat → RW) (Wd : Nat → Int64) (I : Nat → Nat → Int32) (L : Nat → Nat → Int64) : Prop := (∀ j, 1 ≤ j → j ≤ 10 → I (r + j) = R j) ∧ L (r + 11) = Wd
theorem RR.fr {r : Nat} {R : Nat → RW} {Wd : Nat → Int64} {I J : Nat → Nat → Int32} {L M : Nat → Nat → Int64} (h : RR r R Wd I L) (hr : RD r) (hf : FMp I J L M) : RR r R Wd J M := by
  have hr' : r = 93 ∨ 149 ≤ r := hr
  exact ⟨fun j h1 h2 => by rw [hf.1 (r + j) (by omega) (by omega) (by omega) (by omega)]; exact h.1 j h1 h2, by rw [hf.2.2 (r + 11) (by omega)]; exact h.2⟩
theorem CDr.fx {E : Nat → Option KD} {cv c dl wc ec : Nat} {dd dv dt : RW} {I J : Nat → Nat → Int32} (hcv : CV cv) (h : CDr E c dl wc dd dv dt I) (hf : FXp cv ec I J) : CDr E c dl wc dd dv dt J := by
  have := CV_r hcv
  exact h.fr (fun q hq => hf.1 q (by omega) (by omega) (by omega) (by omega) (by omega) (by omega))
theorem FMp.mw {W H w : Nat} {ho : RW} {I J : Nat → Nat → Int32} {L M : Nat → Nat → Int64} (h : MW W H w ho I) (hf : FMp I J L M) : MW W H w ho J := h.fr (hf.2.1 47 (by decide) (by decide) (by decide)) (hf.1 73 (by decide) (by decide) (by decide) (by decide)) (hf.1 74 (by decide) (by decide) (by decide) (by decide)) (hf.1 84 (by decide) (by decide) (by decide) (by decide))
section PST
variable {b : Nat} {F : Nat → Option AE} {D E : Nat → Option KD} {I : Nat → Nat → Int32} {L : Nat → Nat → Int64} {P : Nat → Nat → Option Nat} {nx us : Nat}
theorem pX_end {cv c t o : Nat} (hcv : CV cv) (h5 : I cv 5 = bZ true) (ht : t ≤ 1000000) : pX b cv c t o (lay b F E I L P nx us) = some (lay b F E I L P nx us) := by
  unfold pX
  obtain ⟨fu, e⟩ : ∃ fu, FU - t = fu + 1 := ⟨FU - t - 1, by unfold FU; omega⟩
  rw [e]
  unfold f_X0_paint_133 f_X0_paint_176
  rw [gI_s (CV_k hcv) (by decide), Option.bind_some, h5]
  split
  · rfl
  · rw [if_neg (by decide)]
theorem X_come {cv n : Nat} (hcv : CV cv) (h4 : I cv 4 = Int32.ofNat n) (hn : n ≤ 1500) : f_X0_come (ad b cv) (lay b F E I L P nx us) = some (lay b F E (if n < 1500 then u2 I cv (upd (I cv) 4 (Int32.ofNat (n + 1))) else u2 I cv (upd (I cv) 5 1)) L P nx us) := by
  unfold f_X0_come f_X0_come_28
  rw [if_pos (isO_s (CV_k hcv)), gI_s (CV_k hcv) (by decide), Option.bind_some, h4, Option.bind_some]
  by_cases h : n < 1500
  · have hq : Int32.ofNat n < 1500 := (oN_lt (c := 1500) (by omega) (by omega)).mpr h
    rw [if_pos hq, if_pos h, pI_s (CV_k hcv) (by decide), Option.bind_some, oN_succ]
  · have hq : ¬ Int32.ofNat n < 1500 := fun q => h ((oN_lt (c := 1500) (by omega) (by omega)).mp q)
    rw [if_neg hq, if_neg h, pZ_s (CV_k hcv) (by decide) (Or.inr rfl), Option.bind_some]
theorem M_valR {W H w r s k o o1 : Nat} {ho dd dv : RW} {R : Nat → RW} {Wd : Nat → Int64} (hK : K12 E r) (hr : RD r) (hs : s < 40) (hk : k < 4) (h : MW W H w ho I) (hR : RR r R Wd I L) (hS : SumAt R dd dv s k o o1) : ∃ row, f_X15_valueOf (ad b 72) (ad b r) (Int32.ofNat s) (Int32.ofNat k) (lay b F E I L P nx us) = some (smV R (I 107) W H s k, lay b F E (u2 I 108 row) L P nx us) := by
  have e7 := hR.1 7 (by decide) (by decide)
  have e8 := hR.1 8 (by decide) (by decide)
  have e9 := hR.1 9 (by decide) (by decide)
  have ea := hR.1 10 (by decide) (by decide)
  have hS' : SumAt (fun j => I (r + j)) dd dv s k o o1 := by
    unfold SumAt at hS ⊢
    simp only [e7, e8, e9, ea]
    exact hS
  obtain ⟨row, hrow⟩ := M_val (b := b) (F := F) (E := E) (I := I) (L := L) (P := P) (nx := nx) (us := us) hK hr hs hk h hS'
  refine ⟨row, ?_⟩
  rw [hrow]
  unfold smV
  simp only [e7, e8, e9, ea]
end PST
