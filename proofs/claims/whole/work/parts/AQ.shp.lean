/-! ===== painting: rect and disc ===== -/
theorem mx_n (x : Int32) : ∃ k, k < 2147483648 ∧ mxI 0 x = Int32.ofNat k ∧ (mxI 0 x).toNatClampNeg = k := by
  have h : ¬ mxI 0 x < 0 := by
    unfold mxI
    split
    · rename_i h
      exact fun q => absurd (Int32.lt_trans h q) (by decide)
    · decide
  obtain ⟨k, hk, e⟩ := nn_oN h
  exact ⟨k, hk, e, by rw [e]; exact oN_nn hk⟩
/-- a row of a rect from k on -/
def rwP (W H : Nat) (ho : RW) (y t xw : Int32) : Nat → Nat → RW → RW
  | 0, _, r => r
  | m + 1, k, r => if W ≤ k ∨ xw ≤ Int32.ofNat k then r else rwP W H ho y t xw m (k + 1) (pd W H ho r (Int32.ofNat k) y t)
def rcP (W H : Nat) (ho : RW) (t xw yh : Int32) (k0 : Nat) : Nat → Nat → RW → RW
  | 0, _, r => r
  | m + 1, j, r => if H ≤ j ∨ yh ≤ Int32.ofNat j then r else rcP W H ho t xw yh k0 m (j + 1) (rwP W H ho (Int32.ofNat j) t xw (W + 1) k0 r)
def rectP (W H : Nat) (ho : RW) (t x y w h : Int32) (r : RW) : RW := rcP W H ho t (x + w) (y + h) (mxI 0 x).toNatClampNeg (H + 1) (mxI 0 y).toNatClampNeg r
def dwP (W H : Nat) (ho : RW) (t x y r : Int32) (j : Nat) : Nat → Nat → RW → RW
  | 0, _, q => q
  | m + 1, k, q => if W ≤ k then q else dwP W H ho t x y r j m (k + 1) (if r * r < (Int32.ofNat k - x) * (Int32.ofNat k - x) + (Int32.ofNat j - y) * (Int32.ofNat j - y) then q else pd W H ho q (Int32.ofNat k) (Int32.ofNat j) t)
def dcP (W H : Nat) (ho : RW) (t x y r : Int32) : Nat → Nat → RW → RW
  | 0, _, q => q
  | m + 1, j, q => if H ≤ j ∨ r < 0 then q else dcP W H ho t x y r m (j + 1) (dwP W H ho t x y r j (W + 1) 0 q)
theorem rwP_A {W H : Nat} {ho : RW} {y t xw : Int32} : ∀ (m k : Nat) (r r' : RW), A192 r r' → A192 (rwP W H ho y t xw m k r) (rwP W H ho y t xw m k r') := by
  intro m
  induction m with
  | zero => intro k r r' h; exact h
  | succ m ih =>
    intro k r r' h
    unfold rwP
    split
    · exact h
    · exact ih _ _ _ (pd_A h)
theorem rcP_A {W H k0 : Nat} {ho : RW} {t xw yh : Int32} : ∀ (m j : Nat) (r r' : RW), A192 r r' → A192 (rcP W H ho t xw yh k0 m j r) (rcP W H ho t xw yh k0 m j r') := by
  intro m
  induction m with
  | zero => intro k r r' h; exact h
  | succ m ih =>
    intro k r r' h
    unfold rcP
    split
    · exact h
    · exact ih _ _ _ (rwP_A _ _ _ _ h)
theorem dwP_A {W H j : Nat} {ho : RW} {t x y r : Int32} : ∀ (m k : Nat) (q q' : RW), A192 q q' → A192 (dwP W H ho t x y r j m k q) (dwP W H ho t x y r j m k q') := by
  intro m
  induction m with
  | zero => intro k q q' h; exact h
  | succ m ih =>
    intro k q q' h
    unfold dwP
    split
    · exact h
    · refine ih _ _ _ ?_
      split
      · exact h
      · exact pd_A h
theorem dcP_A {W H : Nat} {ho : RW} {t x y r : Int32} : ∀ (m j : Nat) (q q' : RW), A192 q q' → A192 (dcP W H ho t x y r m j q) (dcP W H ho t x y r m j q') := by
  intro m
  induction m with
  | zero => intro k r r' h; exact h
  | succ m ih =>
    intro k r r' h
    unfold dcP
    split
    · exact h
    · exact ih _ _ _ (dwP_A _ _ _ _ h)
theorem CV_k {cv : Nat} (h : CV cv) : KT cv = some (.inr (0, true)) := by
  rcases h with rfl | rfl <;> decide
/-- the wall that is painted, in the reference -/
def MW (W H w : Nat) (ho : RW) (I : Nat → Nat → Int32) : Prop := 1 ≤ W ∧ W ≤ 16 ∧ 1 ≤ H ∧ H ≤ 12 ∧ w < 16 ∧ I 72 47 = Int32.ofNat w ∧ I 73 w = Int32.ofNat W ∧ I 74 w = Int32.ofNat H ∧ ∀ c, c < W * H → (I 84 (192 * w + c) = 0 ↔ ho c = 0)
theorem MW.fr {W H w : Nat} {ho : RW} {I J : Nat → Nat → Int32} (h : MW W H w ho I) (h1 : J 72 47 = I 72 47) (h2 : J 73 = I 73) (h3 : J 74 = I 74) (h4 : J 84 = I 84) : MW W H w ho J := by
  obtain ⟨a1, a2, a3, a4, a5, a6, a7, a8, a9⟩ := h
  exact ⟨a1, a2, a3, a4, a5, by rw [h1]; exact a6, by rw [h2]; exact a7, by rw [h3]; exact a8, fun c hc => by rw [h4]; exact a9 c hc⟩
section SHP
variable {b : Nat} {F : Nat → Option AE} {D E : Nat → Option KD} {I : Nat → Nat → Int32} {L : Nat → Nat → Int64} {P : Nat → Nat → Option Nat} {nx us : Nat}
theorem MW.dot {W H w : Nat} {ho : RW} (h : MW W H w ho I) (x y t : Int32) : f_X15_dot (ad b 72) x y t (lay b F E I L P nx us) = some (lay b F E (u2 I 106 (pd W H ho (I 106) x y t)) L P nx us) := M_dot h.1 h.2.1 h.2.2.1 h.2.2.2.1 h.2.2.2.2.1 h.2.2.2.2.2.1 h.2.2.2.2.2.2.1 h.2.2.2.2.2.2.2.1 h.2.2.2.2.2.2.2.2 x y t
theorem MW.u6 {W H w : Nat} {ho r : RW} (h : MW W H w ho I) : MW W H w ho (u2 I 106 r) := h.fr (by simp (decide := true) only [u2_same, u2_ne, u2_u2, upd_same, upd_ne, mE, u2_dyn, dyn_u2, dyn_hi, u2_hi, u2_hj, u2_dynj, u2_dd, u2_d0, u2_0d]) (by simp (decide := true) only [u2_same, u2_ne, u2_u2, upd_same, upd_ne, mE, u2_dyn, dyn_u2, dyn_hi, u2_hi, u2_hj, u2_dynj, u2_dd, u2_d0, u2_0d]) (by simp (decide := true) only [u2_same, u2_ne, u2_u2, upd_same, upd_ne, mE, u2_dyn, dyn_u2, dyn_hi, u2_hi, u2_hj, u2_dynj, u2_dd, u2_d0, u2_0d]) (by simp (decide := true) only [u2_same, u2_ne, u2_u2, upd_same, upd_ne, mE, u2_dyn, dyn_u2, dyn_hi, u2_hi, u2_hj, u2_dynj, u2_dd, u2_d0, u2_0d])
theorem MW.wd {W H w : Nat} {ho : RW} {α : Type} (h : MW W H w ho I) (G : Int32 → Option α) : ((gA 15 (lay b F E I L P nx us) (ad b 72) 6).bind fun a1 => (gI 15 (lay b F E I L P nx us) (ad b 72) 47).bind fun x2 => (aI 0 (lay b F E I L P nx us) a1 x2).bind fun x3 => G x3) = G (Int32.ofNat W) := by
  obtain ⟨a1, a2, a3, a4, a5, a6, a7, a8, a9⟩ := h
  have ew : iN (Int32.ofNat w) 16 = some w := iN_oN a5 (by omega)
  simp (decide := true) only [a6, ew, a7, isO_s, gI_s, gA_s, gL_s, pI_s, pZ_s, pL_s, aI_s, aL_s, aN_s, aQ_s, sI_s, sL_s, cr, LNs, Option.map_some, Option.map_none, Option.bind_some, b2, tr, lt, if_true, if_false, ckZ, X_within, M_in, inR_z, X_refuse, X_tell, X_deny, X_grant, M_refused, M_denied, M_done, M_granted, u2_same, u2_ne, u2_u2, upd_same, upd_ne, aW0, ixR_z, ixR_1, M_isWall, M_isPainter, M_isWork, X_has4, X_has10, X_at, or_false, false_or, or_true, true_or, not_true, not_false_iff, Option.isSome_some, isO_d, gI_d, gA_d, pI_d, ne_eq, not_false_eq_true, u2_hi, u2_hj, u2_dyn, u2_dynj, Nat.reduceAdd, mX_r, mX_rD, mX_rDj, mM_r, mX_u, mX_uM, mX_uD, mX_uDj, mM_u, mM_uX, mM_uD, mM_uDj, u2_dd, u2_d0, u2_0d]
theorem MW.hg {W H w : Nat} {ho : RW} {α : Type} (h : MW W H w ho I) (G : Int32 → Option α) : ((gA 15 (lay b F E I L P nx us) (ad b 72) 7).bind fun a1 => (gI 15 (lay b F E I L P nx us) (ad b 72) 47).bind fun x2 => (aI 0 (lay b F E I L P nx us) a1 x2).bind fun x3 => G x3) = G (Int32.ofNat H) := by
  obtain ⟨a1, a2, a3, a4, a5, a6, a7, a8, a9⟩ := h
  have ew : iN (Int32.ofNat w) 16 = some w := iN_oN a5 (by omega)
  simp (decide := true) only [a6, ew, a8, isO_s, gI_s, gA_s, gL_s, pI_s, pZ_s, pL_s, aI_s, aL_s, aN_s, aQ_s, sI_s, sL_s, cr, LNs, Option.map_some, Option.map_none, Option.bind_some, b2, tr, lt, if_true, if_false, ckZ, X_within, M_in, inR_z, X_refuse, X_tell, X_deny, X_grant, M_refused, M_denied, M_done, M_granted, u2_same, u2_ne, u2_u2, upd_same, upd_ne, aW0, ixR_z, ixR_1, M_isWall, M_isPainter, M_isWork, X_has4, X_has10, X_at, or_false, false_or, or_true, true_or, not_true, not_false_iff, Option.isSome_some, isO_d, gI_d, gA_d, pI_d, ne_eq, not_false_eq_true, u2_hi, u2_hj, u2_dyn, u2_dynj, Nat.reduceAdd, mX_r, mX_rD, mX_rDj, mM_r, mX_u, mX_uM, mX_uD, mX_uDj, mM_u, mM_uX, mM_uD, mM_uDj, u2_dd, u2_d0, u2_0d]
theorem X_row {cv W H v ky : Nat} {k30 : Nat → Int32 → Int32 → Int32 → Int32 → Int32 → Int32 → AH → Option AH} {i2 i3 i4 i5 : Int32} (hcv : CV cv) (hy : ky < H) (hW : W ≤ 16) (hH : H ≤ 12) (hv : v < 8) : ∀ (m k : Nat) (I : Nat → Nat → Int32) (fu : Nat), W < k + m → m < fu → k < 2147483648 → I cv 1 = Int32.ofNat W → f_X0_rect_56 k30 fu (ad b cv) (Int32.ofNat v) i2 i3 i4 i5 (Int32.ofNat ky) (Int32.ofNat k) (lay b F E I L P nx us) = k30 (ad b cv) (Int32.ofNat v) i2 i3 i4 i5 (Int32.ofNat ky + 1) (lay b F E (u2 I (cv + 1) (rwP W H (I (cv + 2)) (Int32.ofNat ky) (Int32.ofNat v) (i5 + i3) m k (I (cv + 1)))) L P nx us) := by
  intro m
  induction m with
  | zero =>
    intro k I fu hk hfu hk2 h1
    obtain ⟨fu, rfl⟩ : ∃ z, fu = z + 1 := ⟨fu - 1, by omega⟩
    unfold f_X0_rect_56 rwP
    rw [gI_s (CV_k hcv) (by decide), Option.bind_some, h1, if_pos (oN_leL (by omega) hk2), u2_id]
    rfl
  | succ m ih =>
    intro k I fu hk hfu hk2 h1
    obtain ⟨fu, rfl⟩ : ∃ z, fu = z + 1 := ⟨fu - 1, by omega⟩
    unfold f_X0_rect_56 rwP
    rw [gI_s (CV_k hcv) (by decide), Option.bind_some, h1]
    by_cases c1 : W ≤ k
    · rw [if_pos (oN_leL c1 hk2), if_pos (Or.inl c1), u2_id]
      rfl
    · rw [if_neg (fun q => by have := (oN_le (by omega) hk2).mp q; omega)]
      by_cases c2 : i5 + i3 ≤ Int32.ofNat k
      · rw [if_pos c2, if_pos (Or.inr c2), u2_id]
        rfl
      · rw [if_neg c2, if_neg (fun q => q.elim c1 c2), X_dot hcv h1 (by omega) hy hW hH hv, Option.bind_some, oN_succ, ih (k + 1) _ fu (by omega) (by omega) (by omega) (by rw [u2_ne (by omega)]; exact h1), u2_same, u2_u2, u2_ne (show cv + 2 ≠ cv + 1 by omega)]
theorem X_rects {cv W H v k0 : Nat} {i2 i3 i4 i5 : Int32} (hcv : CV cv) (hW : W ≤ 16) (hH : H ≤ 12) (hv : v < 8) (hk0 : k0 < 2147483648) (he : mxI 0 i5 = Int32.ofNat k0) : ∀ (m j : Nat) (I : Nat → Nat → Int32) (fu : Nat), H < j + m → m < fu → j < 2147483648 → I cv 1 = Int32.ofNat W → I cv 2 = Int32.ofNat H → f_X0_rect_30 fu (ad b cv) (Int32.ofNat v) i2 i3 i4 i5 (Int32.ofNat j) (lay b F E I L P nx us) = some (lay b F E (u2 I (cv + 1) (rcP W H (I (cv + 2)) (Int32.ofNat v) (i5 + i3) (i4 + i2) k0 m j (I (cv + 1)))) L P nx us) := by
  intro m
  induction m with
  | zero =>
    intro j I fu hj hfu hj2 h1 h2
    obtain ⟨fu, rfl⟩ : ∃ z, fu = z + 1 := ⟨fu - 1, by omega⟩
    unfold f_X0_rect_30 rcP
    rw [gI_s (CV_k hcv) (by decide), Option.bind_some, h2, if_pos (oN_leL (by omega) hj2), u2_id]
    rfl
  | succ m ih =>
    intro j I fu hj hfu hj2 h1 h2
    obtain ⟨fu, rfl⟩ : ∃ z, fu = z + 1 := ⟨fu - 1, by omega⟩
    unfold f_X0_rect_30 rcP
    rw [gI_s (CV_k hcv) (by decide), Option.bind_some, h2]
    by_cases c1 : H ≤ j
    · rw [if_pos (oN_leL c1 hj2), if_pos (Or.inl c1), u2_id]
      rfl
    · rw [if_neg (fun q => by have := (oN_le (by omega) hj2).mp q; omega)]
      by_cases c2 : i4 + i2 ≤ Int32.ofNat j
      · rw [if_pos c2, if_pos (Or.inr c2), u2_id]
        rfl
      · rw [if_neg c2, if_neg (fun q => q.elim c1 c2), he, X_row hcv (by omega) hW hH hv (W + 1) k0 I FU (by omega) (by unfold FU; omega) hk0 h1, oN_succ, ih (j + 1) _ fu (by omega) (by omega) (by omega) (by rw [u2_ne (by omega)]; exact h1) (by rw [u2_ne (by omega)]; exact h2), u2_same, u2_u2, u2_ne (show cv + 2 ≠ cv + 1 by omega)]
theorem M_row {W H w ky : Nat} {ho : RW} {k7 : Nat → Int32 → Int32 → Int32 → Int32 → Int32 → Int32 → AH → Option AH} {t i2 i3 i4 i5 : Int32} : ∀ (m k : Nat) (I : Nat → Nat → Int32) (fu : Nat), W < k + m → m < fu → k < 2147483648 → MW W H w ho I → f_X15_rect_37 k7 fu (ad b 72) t i2 i3 i4 i5 (Int32.ofNat ky) (Int32.ofNat k) (lay b F E I L P nx us) = k7 (ad b 72) t i2 i3 i4 i5 (Int32.ofNat ky + 1) (lay b F E (u2 I 106 (rwP W H ho (Int32.ofNat ky) t (i2 + i4) m k (I 106))) L P nx us) := by
  intro m
  induction m with
  | zero =>
    intro k I fu hk hfu hk2 h
    have hW := h.2.1
    obtain ⟨fu, rfl⟩ : ∃ z, fu = z + 1 := ⟨fu - 1, by omega⟩
    unfold f_X15_rect_37 rwP
    rw [h.wd, u2_id]
    by_cases c2 : i2 + i4 ≤ Int32.ofNat k
    · rw [if_pos c2]
      rfl
    · rw [if_neg c2, if_pos (oN_leL (by omega) hk2)]
      rfl
  | succ m ih =>
    intro k I fu hk hfu hk2 h
    have hW := h.2.1
    obtain ⟨fu, rfl⟩ : ∃ z, fu = z + 1 := ⟨fu - 1, by omega⟩
    unfold f_X15_rect_37 rwP
    rw [h.wd]
    by_cases c2 : i2 + i4 ≤ Int32.ofNat k
    · rw [if_pos c2, if_pos (Or.inr c2), u2_id]
      rfl
    · rw [if_neg c2]
      by_cases c1 : W ≤ k
      · rw [if_pos (oN_leL c1 hk2), if_pos (Or.inl c1), u2_id]
        rfl
      · rw [if_neg (fun q => by have := (oN_le (by omega) hk2).mp q; omega), if_neg (fun q => q.elim c1 c2), h.dot, Option.bind_some, oN_succ, ih (k + 1) _ fu (by omega) (by omega) (by omega) h.u6, u2_same, u2_u2]
theorem M_rects {W H w k0 : Nat} {ho : RW} {t i2 i3 i4 i5 : Int32} (hk0 : k0 < 2147483648) (he : mxI 0 i2 = Int32.ofNat k0) : ∀ (m j : Nat) (I : Nat → Nat → Int32) (fu : Nat), H < j + m → m < fu → j < 2147483648 → MW W H w ho I → f_X15_rect_7 fu (ad b 72) t i2 i3 i4 i5 (Int32.ofNat j) (lay b F E I L P nx us) = some (lay b F E (u2 I 106 (rcP W H ho t (i2 + i4) (i3 + i5) k0 m j (I 106))) L P nx us) := by
  intro m
  induction m with
  | zero =>
    intro j I fu hj hfu hj2 h
    have hH := h.2.2.2.1
    obtain ⟨fu, rfl⟩ : ∃ z, fu = z + 1 := ⟨fu - 1, by omega⟩
    unfold f_X15_rect_7 rcP
    rw [h.hg, u2_id]
    by_cases c2 : i3 + i5 ≤ Int32.ofNat j
    · rw [if_pos c2]
      rfl
    · rw [if_neg c2, if_pos (oN_leL (by omega) hj2)]
      rfl
  | succ m ih =>
    intro j I fu hj hfu hj2 h
    have hH := h.2.2.2.1
    have hW := h.2.1
    obtain ⟨fu, rfl⟩ : ∃ z, fu = z + 1 := ⟨fu - 1, by omega⟩
    unfold f_X15_rect_7 rcP
    rw [h.hg]
    by_cases c2 : i3 + i5 ≤ Int32.ofNat j
    · rw [if_pos c2, if_pos (Or.inr c2), u2_id]
      rfl
    · rw [if_neg c2]
      by_cases c1 : H ≤ j
      · rw [if_pos (oN_leL c1 hj2), if_pos (Or.inl c1), u2_id]
        rfl
      · rw [if_neg (fun q => by have := (oN_le (by omega) hj2).mp q; omega), if_neg (fun q => q.elim c1 c2), he, M_row (W + 1) k0 I FU (by omega) (by unfold FU; omega) hk0 h, oN_succ, ih (j + 1) _ fu (by omega) (by omega) (by omega) h.u6, u2_same, u2_u2]
theorem M_rect {W H w : Nat} {ho : RW} {t x y ww hh : Int32} (h : MW W H w ho I) : f_X15_rect (ad b 72) t x y ww hh (lay b F E I L P nx us) = some (lay b F E (u2 I 106 (rectP W H ho t x y ww hh (I 106))) L P nx us) := by
  obtain ⟨k0, a1, a2, a3⟩ := mx_n x
  obtain ⟨j0, b1, b2', b3⟩ := mx_n y
  have hH := h.2.2.2.1
  unfold f_X15_rect rectP
  rw [if_pos (isO_s (by decide)), a3, b3, b2', M_rects a1 a2 (H + 1) j0 I FU (by omega) (by unfold FU; omega) b1 h]
theorem X_drow {cv W H v j : Nat} {k19 : Nat → Int32 → Int32 → Int32 → Int32 → Int32 → AH → Option AH} {i2 i3 i4 : Int32} (hcv : CV cv) (hj : j < H) (hW : W ≤ 16) (hH : H ≤ 12) (hv : v < 8) : ∀ (m k : Nat) (I : Nat → Nat → Int32) (fu : Nat), W < k + m → m < fu → k < 2147483648 → I cv 1 = Int32.ofNat W → f_X0_disc_35 k19 fu (ad b cv) (Int32.ofNat v) i2 i3 i4 (Int32.ofNat j) (Int32.ofNat k) (lay b F E I L P nx us) = k19 (ad b cv) (Int32.ofNat v) i2 i3 i4 (Int32.ofNat j + 1) (lay b F E (u2 I (cv + 1) (dwP W H (I (cv + 2)) (Int32.ofNat v) i4 i3 i2 j m k (I (cv + 1)))) L P nx us) := by
  intro m
  induction m with
  | zero =>
    intro k I fu hk hfu hk2 h1
    obtain ⟨fu, rfl⟩ : ∃ z, fu = z + 1 := ⟨fu - 1, by omega⟩
    unfold f_X0_disc_35 dwP
    rw [gI_s (CV_k hcv) (by decide), Option.bind_some, h1, if_pos (oN_leL (by omega) hk2), u2_id]
  | succ m ih =>
    intro k I fu hk hfu hk2 h1
    obtain ⟨fu, rfl⟩ : ∃ z, fu = z + 1 := ⟨fu - 1, by omega⟩
    unfold f_X0_disc_35 dwP
    rw [gI_s (CV_k hcv) (by decide), Option.bind_some, h1]
    by_cases c1 : W ≤ k
    · rw [if_pos (oN_leL c1 hk2), if_pos c1, u2_id]
    · rw [if_neg (fun q => by have := (oN_le (by omega) hk2).mp q; omega), if_neg c1]
      unfold f_X0_disc_80
      by_cases c2 : i2 * i2 < (Int32.ofNat k - i4) * (Int32.ofNat k - i4) + (Int32.ofNat j - i3) * (Int32.ofNat j - i3)
      · rw [if_pos c2, if_pos c2, oN_succ, ih (k + 1) I fu (by omega) (by omega) (by omega) h1]
      · rw [if_neg c2, if_neg c2, X_dot hcv h1 (by omega) hj hW hH hv, Option.bind_some, oN_succ, ih (k + 1) _ fu (by omega) (by omega) (by omega) (by rw [u2_ne (by omega)]; exact h1), u2_same, u2_u2, u2_ne (show cv + 2 ≠ cv + 1 by omega)]
theorem X_discs {cv W H v : Nat} {i2 i3 i4 : Int32} (hcv : CV cv) (hW : W ≤ 16) (hH : H ≤ 12) (hv : v < 8) : ∀ (m j : Nat) (I : Nat → Nat → Int32) (fu : Nat), H < j + m → m < fu → j < 2147483648 → I cv 1 = Int32.ofNat W → I cv 2 = Int32.ofNat H → f_X0_disc_19 fu (ad b cv) (Int32.ofNat v) i2 i3 i4 (Int32.ofNat j) (lay b F E I L P nx us) = some (lay b F E (u2 I (cv + 1) (dcP W H (I (cv + 2)) (Int32.ofNat v) i4 i3 i2 m j (I (cv + 1)))) L P nx us) := by
  intro m
  induction m with
  | zero =>
    intro j I fu hj hfu hj2 h1 h2
    obtain ⟨fu, rfl⟩ : ∃ z, fu = z + 1 := ⟨fu - 1, by omega⟩
    unfold f_X0_disc_19 dcP
    rw [gI_s (CV_k hcv) (by decide), Option.bind_some, h2, if_pos (oN_leL (by omega) hj2), u2_id]
    rfl
  | succ m ih =>
    intro j I fu hj hfu hj2 h1 h2
    obtain ⟨fu, rfl⟩ : ∃ z, fu = z + 1 := ⟨fu - 1, by omega⟩
    unfold f_X0_disc_19 dcP
    rw [gI_s (CV_k hcv) (by decide), Option.bind_some, h2]
    by_cases c1 : H ≤ j
    · rw [if_pos (oN_leL c1 hj2), if_pos (Or.inl c1), u2_id]
      rfl
    · rw [if_neg (fun q => by have := (oN_le (by omega) hj2).mp q; omega)]
      by_cases c2 : i2 < 0
      · rw [if_pos c2, if_pos (Or.inr c2), u2_id]
        rfl
      · have hx := X_drow (b := b) (F := F) (E := E) (L := L) (P := P) (nx := nx) (us := us) (k19 := f_X0_disc_19 fu) (i2 := i2) (i3 := i3) (i4 := i4) hcv (show j < H by omega) hW hH hv (W + 1) 0 I FU (by omega) (by unfold FU; omega) (by omega) h1
        rw [if_neg c2, if_neg (fun q => q.elim c1 c2)]
        refine hx.trans ?_
        rw [oN_succ, ih (j + 1) _ fu (by omega) (by omega) (by omega) (by rw [u2_ne (by omega)]; exact h1) (by rw [u2_ne (by omega)]; exact h2), u2_same, u2_u2, u2_ne (show cv + 2 ≠ cv + 1 by omega)]
theorem M_drow {W H w j : Nat} {ho : RW} {k3 : Nat → Int32 → Int32 → Int32 → Int32 → Int32 → AH → Option AH} {t i2 i3 i4 : Int32} : ∀ (m k : Nat) (I : Nat → Nat → Int32) (fu : Nat), W < k + m → m < fu → k < 2147483648 → MW W H w ho I → f_X15_disc_25 k3 fu (ad b 72) t i2 i3 i4 (Int32.ofNat j) (Int32.ofNat k) (lay b F E I L P nx us) = k3 (ad b 72) t i2 i3 i4 (Int32.ofNat j + 1) (lay b F E (u2 I 106 (dwP W H ho t i2 i3 i4 j m k (I 106))) L P nx us) := by
  intro m
  induction m with
  | zero =>
    intro k I fu hk hfu hk2 h
    have hW := h.2.1
    obtain ⟨fu, rfl⟩ : ∃ z, fu = z + 1 := ⟨fu - 1, by omega⟩
    unfold f_X15_disc_25 dwP
    rw [h.wd, u2_id, if_pos (oN_leL (by omega) hk2)]
  | succ m ih =>
    intro k I fu hk hfu hk2 h
    have hW := h.2.1
    obtain ⟨fu, rfl⟩ : ∃ z, fu = z + 1 := ⟨fu - 1, by omega⟩
    unfold f_X15_disc_25 dwP
    rw [h.wd]
    by_cases c1 : W ≤ k
    · rw [if_pos (oN_leL c1 hk2), if_pos c1, u2_id]
    · rw [if_neg (fun q => by have := (oN_le (by omega) hk2).mp q; omega), if_neg c1]
      unfold f_X15_disc_75
      by_cases c2 : i4 * i4 < (Int32.ofNat k - i2) * (Int32.ofNat k - i2) + (Int32.ofNat j - i3) * (Int32.ofNat j - i3)
      · rw [if_pos c2, if_pos c2, oN_succ, ih (k + 1) I fu (by omega) (by omega) (by omega) h]
      · rw [if_neg c2, if_neg c2, h.dot, Option.bind_some, oN_succ, ih (k + 1) _ fu (by omega) (by omega) (by omega) h.u6, u2_same, u2_u2]
theorem M_discs {W H w : Nat} {ho : RW} {t i2 i3 i4 : Int32} : ∀ (m j : Nat) (I : Nat → Nat → Int32) (fu : Nat), H < j + m → m < fu → j < 2147483648 → MW W H w ho I → f_X15_disc_3 fu (ad b 72) t i2 i3 i4 (Int32.ofNat j) (lay b F E I L P nx us) = some (lay b F E (u2 I 106 (dcP W H ho t i2 i3 i4 m j (I 106))) L P nx us) := by
  intro m
  induction m with
  | zero =>
    intro j I fu hj hfu hj2 h
    have hH := h.2.2.2.1
    obtain ⟨fu, rfl⟩ : ∃ z, fu = z + 1 := ⟨fu - 1, by omega⟩
    unfold f_X15_disc_3 dcP
    rw [h.hg, u2_id, if_pos (oN_leL (by omega) hj2)]
    rfl
  | succ m ih =>
    intro j I fu hj hfu hj2 h
    have hH := h.2.2.2.1
    have hW := h.2.1
    obtain ⟨fu, rfl⟩ : ∃ z, fu = z + 1 := ⟨fu - 1, by omega⟩
    unfold f_X15_disc_3 dcP
    rw [h.hg]
    by_cases c1 : H ≤ j
    · rw [if_pos (oN_leL c1 hj2), if_pos (Or.inl c1), u2_id]
      rfl
    · rw [if_neg (fun q => by have := (oN_le (by omega) hj2).mp q; omega)]
      by_cases c2 : i4 < 0
      · rw [if_pos c2, if_pos (Or.inr c2), u2_id]
        rfl
      · have hx := M_drow (b := b) (F := F) (E := E) (L := L) (P := P) (nx := nx) (us := us) (k3 := f_X15_disc_3 fu) (j := j) (t := t) (i2 := i2) (i3 := i3) (i4 := i4) (W + 1) 0 I FU (by omega) (by unfold FU; omega) (by omega) h
        rw [if_neg c2, if_neg (fun q => q.elim c1 c2)]
        refine hx.trans ?_
        rw [oN_succ, ih (j + 1) _ fu (by omega) (by omega) (by omega) h.u6, u2_same, u2_u2]
def discP (W H : Nat) (ho : RW) (t x y r : Int32) (q : RW) : RW := dcP W H ho t x y r (H + 1) 0 q
theorem M_disc {W H w : Nat} {ho : RW} {t x y r : Int32} (h : MW W H w ho I) : f_X15_disc (ad b 72) t x y r (lay b F E I L P nx us) = some (lay b F E (u2 I 106 (discP W H ho t x y r (I 106))) L P nx us) := by
  have hH := h.2.2.2.1
  unfold f_X15_disc discP
  rw [if_pos (isO_s (by decide))]
  exact M_discs (H + 1) 0 I FU (by omega) (by unfold FU; omega) (by omega) h
end SHP
