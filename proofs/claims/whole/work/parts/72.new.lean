/-! ===== rules for new cells ===== -/
theorem u2_s1 {α : Type} {I : Nat → α} {n j : Nat} {f : α} (h : 0 < j) : u2 I (n + j) f n = I n := u2_ne (by omega)
theorem u2_s2 {α : Type} {I : Nat → α} {n j : Nat} {f : α} (h : 0 < j) : u2 I n f (n + j) = I (n + j) := u2_ne (by omega)
theorem u2_s3 {α : Type} {I : Nat → α} {n i j : Nat} {f : α} (h : j ≠ i) : u2 I (n + i) f (n + j) = I (n + j) := u2_ne (by omega)
theorem vup_same {α : Type} (f : Nat → α) (k : Nat) (x : α) : va_up f k x k = x := if_pos rfl
theorem vup_ne {α : Type} {f : Nat → α} {k j : Nat} {x : α} (h : j ≠ k) : va_up f k x j = f j := if_neg h
section NEW
variable {b : Nat} {F : Nat → Option AE} {D E : Nat → Option KD} {I : Nat → Nat → Int32} {L : Nat → Nat → Int64} {P : Nat → Nat → Option Nat} {nx us : Nat}
theorem gI_r {c ci k : Nat} (h : D c = some (.inr (ci, false))) (hk : fk ci k = 0) : gI ci (layD b F D I L P nx us) (ad b c) k = some (I c k) := gI_lay h hk
theorem gA_r {c ci k : Nat} (h : D c = some (.inr (ci, false))) (hk : fk ci k = 2) : gA ci (layD b F D I L P nx us) (ad b c) k = (P c k).map (ad b) := gA_P h hk (fun q => by cases q)
theorem pI_r {c ci k : Nat} {x : Int32} (h : D c = some (.inr (ci, false))) (hk : fk ci k = 0) : pI ci (layD b F D I L P nx us) (ad b c) k x = some (layD b F D (u2 I c (upd (I c) k x)) L P nx us) := pI_lay h hk
theorem pQ_r {c ci k y : Nat} (h : D c = some (.inr (ci, false))) (hk : fk ci k = 2) : pQ ci (layD b F D I L P nx us) (ad b c) k (some (ad b y)) = some (layD b F D I L (u2 P c (va_up (P c) k (some y))) nx us) := pQ_lay (x := some y) h hk (fun q => by cases q)
theorem nwA_r {t n : Nat} (ht : t < 20) (hn : n ≤ 100000) (h1 : nx + 1 ≤ 601024) (h2 : us + n ≤ 7293034) (h0 : 149 ≤ nx := by omega) : nwA t (Int32.ofNat n) (layD b F D I L P nx us) = some (ad b nx, layD b F (u2 D nx (some (.inl (t, n)))) (u2 I nx (fun _ => 0)) (u2 L nx (fun _ => 0)) (u2 P nx (fun _ => none)) (nx + 1) (us + n)) := nwA_lay ht hn h1 h2 h0
/-- a row of bytes filled -/
theorem J_fillB {c n : Nat} (v : Int32) (h : D c = some (.inl (1, n))) (hn : n ≤ 100000) : f_J7_fill_031fb (ad b c) v (layD b F D I L P nx us) = some (layD b F D (u2 I c (fun k => if k < n then aW 1 v else I c k)) L P nx us) := by
  have lp : ∀ (m i : Nat), i + m = n → ∀ (I : Nat → Nat → Int32) (fu : Nat), m < fu → f_J7_fill_031fb_5 fu (ad b c) v (Int32.ofNat i) (Int32.ofNat n) (layD b F D I L P nx us) = some (layD b F D (u2 I c (fun k => if i ≤ k ∧ k < n then aW 1 v else I c k)) L P nx us) := by
    intro m
    induction m with
    | zero =>
      intro i hi I fu hfu
      obtain ⟨fu, rfl⟩ : ∃ z, fu = z + 1 := ⟨fu - 1, by omega⟩
      have : i = n := by omega
      subst this
      have e : (fun k => if i ≤ k ∧ k < i then aW 1 v else I c k) = I c := by funext k; rw [if_neg (by omega)]
      rw [e, u2_id]
      simp only [f_J7_fill_031fb_5, Int32.le_refl, if_true]
    | succ m ih =>
      intro i hi I fu hfu
      obtain ⟨fu, rfl⟩ : ∃ z, fu = z + 1 := ⟨fu - 1, by omega⟩
      have e1 := oN_leF (show i < n by omega) (by omega)
      have e2 : iN (Int32.ofNat i) n = some i := iN_oN (by omega) (by omega)
      simp only [f_J7_fill_031fb_5, e1, if_false, sI_lay h (by decide), e2, Option.map_some, Option.bind_some, oN_succ]
      rw [ih (i + 1) (by omega) _ fu (by omega), u2_u2, u2_same]
      congr 3
      funext k
      by_cases hz : k = i
      · subst hz; rw [if_neg (by omega), if_pos (by omega), upd_same]
      · rw [upd_ne hz]
        by_cases hk : i + 1 ≤ k ∧ k < n
        · rw [if_pos hk, if_pos (by omega)]
        · rw [if_neg hk, if_neg (by omega)]
  have := lp n 0 (by omega) I FU (by unfold FU; omega)
  unfold f_J7_fill_031fb
  rw [aN_lay h]
  simp only [Option.bind_some]
  rw [show (0 : Int32) = Int32.ofNat 0 from rfl, this]
  congr 3
  funext k
  by_cases hk : k < n
  · rw [if_pos ⟨by omega, hk⟩, if_pos hk]
  · rw [if_neg (fun q => hk q.2), if_neg hk]
end NEW
theorem dX8_dv : dX8 = dv 8 := by
  funext k
  unfold dX8 dv
  simp only [fk]
  unfold tyX8
  split <;> first | rfl | (split <;> first | rfl | simp_all [fkT, defaultValue])
