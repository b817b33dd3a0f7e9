/-! ===== painting: whole ===== -/
def A0 : PSt := (fun _ => 0, fun _ => -1, 0, false, 0, fun _ => 0)
theorem A0_ok {ho : RW} {Wd : Nat → Int64} : AOK ho Wd A0 := ⟨fun _ _ => ⟨(by decide : (-9999 : Int32) ≤ 0), (by decide : (0 : Int32) ≤ 9999)⟩, by decide, by decide, fun i j h => absurd h (Nat.not_lt_zero _), fun k h => absurd h (Nat.not_lt_zero _), fun _ _ => ⟨(by decide : (-1 : Int32) ≤ -1), (by decide : (-1 : Int32) ≤ 7), fun _ => rfl⟩⟩
theorem mn_r {m n : Nat} (h : m ≤ n) (hn : n < 2147483648) : mnI (Int32.ofNat m) (Int32.ofNat n) = Int32.ofNat m := by
  unfold mnI
  rw [if_neg (fun q => by have := (oN_lt hn (by omega)).mp q; omega)]
theorem aW2 {x : Int32} (h : x = 0 ∨ x = 1) : aW 2 x = x := by rcases h with rfl | rfl <;> decide
theorem sm_one : ∀ m : Nat, sm (fun _ => 1) 0 m = Int32.ofNat m := by
  intro m
  induction m with
  | zero => rfl
  | succ m ih => rw [sm_last, ih, oN_succ]
theorem sub_e {x y z : Int32} (h : x + y = z) : z - y = x := by
  rw [← h]
  grind
section PN3
variable {b : Nat} {F : Nat → Option AE} {D E : Nat → Option KD} {I : Nat → Nat → Int32} {L : Nat → Nat → Int64} {P : Nat → Nat → Option Nat} {nx us : Nat}
theorem pX_fin {cv c dl wc t : Nat} {dd dv dt : RW} (hcv : CV cv) (hc : CDr E c dl wc dd dv dt I) (ht : t ≤ 1000000) : pX b cv c t dl (lay b F E I L P nx us) = some (lay b F E I L P nx us) := by
  obtain ⟨a0, a1, a2, a3, a4, a5, a6, a7, a8, a9, aa, ab, ac⟩ := hc
  unfold pX
  obtain ⟨fu, e⟩ : ∃ fu, FU - t = fu + 1 := ⟨FU - t - 1, by unfold FU; omega⟩
  rw [e]
  unfold f_X0_paint_133 f_X0_paint_176
  rw [gI_s (CV_k hcv) (by decide), Option.bind_some, gI_lay a0 (by decide), Option.bind_some, a5, if_pos (Int32.le_refl _)]
  split
  · rfl
  · split
    · split <;> rfl
    · rfl
/-- the class copies the wall's holes -/
theorem X_holes {cv c wl N : Nat} (hcv : CV cv) (hN : N ≤ 192) (hwl : 149 ≤ wl) (kw : kdf E wl = some (.inr (8, true))) (kh : kdf E (wl + 1) = some (.inl (2, N))) : ∀ (m i : Nat) (I : Nat → Nat → Int32) (fu : Nat), i + m = N → m < fu → (∀ k, k < N → I (wl + 1) k = 0 ∨ I (wl + 1) k = 1) → f_X0_paint_87 fu (ad b cv) (ad b c) (ad b wl) (Int32.ofNat i) (lay b F E I L P nx us) = f_X0_paint_127 (ad b cv) (ad b c) (lay b F E (u2 I (cv + 2) (fun k => if i ≤ k ∧ k < N then I (wl + 1) k else I (cv + 2) k)) L P nx us) := by
  have hcr := CV_r hcv
  have k2 : KT (cv + 2) = some (.inl (2, 192)) := by rcases hcv with rfl | rfl <;> decide
  intro m
  induction m with
  | zero =>
    intro i I fu hi hfu hh
    obtain ⟨fu, rfl⟩ : ∃ z, fu = z + 1 := ⟨fu - 1, by omega⟩
    unfold f_X0_paint_87
    rw [gA_cr kw (by decide) (show cr 8 wl 11 = some (wl + 1) from rfl), Option.bind_some, aN_lay kh, Option.bind_some, if_pos (oN_leL (by omega) (by omega))]
    have : (fun k => if i ≤ k ∧ k < N then I (wl + 1) k else I (cv + 2) k) = I (cv + 2) := by
      funext k
      rw [if_neg (by omega)]
    rw [this, u2_id]
  | succ m ih =>
    intro i I fu hi hfu hh
    obtain ⟨fu, rfl⟩ : ∃ z, fu = z + 1 := ⟨fu - 1, by omega⟩
    have ei : iN (Int32.ofNat i) N = some i := iN_oN (by omega) (by omega)
    have ei2 : iN (Int32.ofNat i) 192 = some i := iN_oN (by omega) (by omega)
    have g9 : gA 0 (lay b F E I L P nx us) (ad b cv) 9 = some (ad b (cv + 2)) := gA_cr (kdf_KT (CV_k hcv)) (by decide) (show cr 0 cv 9 = some (cv + 2) from rfl)
    unfold f_X0_paint_87
    rw [gA_cr kw (by decide) (show cr 8 wl 11 = some (wl + 1) from rfl), Option.bind_some, aN_lay kh, Option.bind_some, if_neg (fun q => by have := (oN_le (by omega) (by omega)).mp q; omega), g9, Option.bind_some, aN_lay (kdf_KT k2), Option.bind_some, if_neg (fun q => by have := (oN_le (by omega) (by omega)).mp q; omega), Option.bind_some, Option.bind_some, aI_lay kh (by decide), ei, Option.map_some, Option.bind_some, sI_lay (kdf_KT k2) (by decide), ei2, Option.map_some, Option.bind_some, aW2 (hh i (by omega)), oN_succ]
    have := ih (i + 1) (u2 I (cv + 2) (upd (I (cv + 2)) i (I (wl + 1) i))) fu (by omega) (by omega) (fun k hk => by rw [u2_ne (by omega)]; exact hh k hk)
    rw [this, u2_u2, u2_same, u2_ne (show wl + 1 ≠ cv + 2 by omega)]
    congr 3
    funext k
    by_cases hk : k = i
    · subst hk
      rw [if_neg (by omega), upd_same, if_pos (by omega)]
    · rw [upd_ne hk]
      by_cases hk2 : i + 1 ≤ k ∧ k < N
      · rw [if_pos hk2, if_pos (by omega)]
      · rw [if_neg hk2, if_neg (by omega)]
theorem X_pnt0 {cv c wl W H nb dl wc : Nat} {dd dv dt : RW} (hcv : CV cv) (hc : CDr E c dl wc dd dv dt I) (kw : kdf E wl = some (.inr (8, true))) (kh : kdf E (wl + 1) = some (.inl (2, W * H))) (hwl : 149 ≤ wl) (hW : W ≤ 16) (hH : H ≤ 12) (h0 : I wl 0 = Int32.ofNat W) (h1 : I wl 1 = Int32.ofNat H) (hnb : nb ≤ 12) (hho : ∀ k, k < W * H → I (wl + 1) k = 0 ∨ I (wl + 1) k = 1) : ∃ K, f_X0_paint (ad b cv) (ad b c) (ad b wl) (Int32.ofNat nb) (lay b F E I L P nx us) = pX b cv c 0 0 (lay b F E K L P nx us) ∧ XA cv W H nb (fun k => if k < W * H then I (wl + 1) k else I (cv + 2) k) (L 53) A0 0 0 K ∧ (∀ q, q ≠ cv → q ≠ cv + 1 → q ≠ cv + 2 → q ≠ cv + 3 → K q = I q) ∧ K cv 3 = 1 := by
  have hcr := CV_r hcv
  have hN : W * H ≤ 192 := Nat.mul_le_mul hW hH
  have k3 : KT (cv + 3) = some (.inl (0, 5)) := by rcases hcv with rfl | rfl <;> decide
  have k1 : KT (cv + 1) = some (.inl (1, 192)) := by rcases hcv with rfl | rfl <;> decide
  have e12 : ln 53 = 12 := by decide
  let X : RW := upd (upd (upd (upd (upd (upd (upd (upd (upd (I cv) 3 1) 1 (Int32.ofNat W)) 2 (Int32.ofNat H)) 8 (Int32.ofNat nb)) 4 0) 5 0) 6 0) 12 0) 15 0
  let K1 : Nat → Nat → Int32 := u2 (u2 (u2 I cv X) (cv + 3) (fun k => if k < 5 then 0 else I (cv + 3) k)) (cv + 1) (fun k => if k < 192 then -1 else I (cv + 1) k)
  have hrun : f_X0_paint (ad b cv) (ad b c) (ad b wl) (Int32.ofNat nb) (lay b F E I L P nx us) = f_X0_paint_87 FU (ad b cv) (ad b c) (ad b wl) 0 (lay b F E K1 L P nx us) := by
    unfold f_X0_paint
    rw [if_pos (isO_s (CV_k hcv)), pZ_s (CV_k hcv) (by decide) (Or.inr rfl), Option.bind_some, gI_lay kw (by decide), Option.bind_some, u2_ne (show wl ≠ cv by omega), h0, pI_s (CV_k hcv) (by decide), Option.bind_some, u2_u2, u2_same, gI_lay kw (by decide), Option.bind_some, u2_ne (show wl ≠ cv by omega), h1, pI_s (CV_k hcv) (by decide), Option.bind_some, u2_u2, u2_same, gA_cr (kdf_KT (CV_k hcv)) (by decide) (show cr 0 cv 7 = some 53 from rfl), Option.bind_some, aN_s (by decide), Option.bind_some, e12, mn_r hnb (by omega), pI_s (CV_k hcv) (by decide), Option.bind_some, u2_u2, u2_same, pI_s (CV_k hcv) (by decide), Option.bind_some, u2_u2, u2_same, pZ_s (CV_k hcv) (by decide) (Or.inl rfl), Option.bind_some, u2_u2, u2_same, pI_s (CV_k hcv) (by decide), Option.bind_some, u2_u2, u2_same, pI_s (CV_k hcv) (by decide), Option.bind_some, u2_u2, u2_same, pI_s (CV_k hcv) (by decide), Option.bind_some, u2_u2, u2_same, gA_cr (kdf_KT (CV_k hcv)) (by decide) (show cr 0 cv 10 = some (cv + 3) from rfl), Option.bind_some, J_fillI 0 (kdf_KT k3) (by decide), Option.bind_some, gA_cr (kdf_KT (CV_k hcv)) (by decide) (show cr 0 cv 0 = some (cv + 1) from rfl), Option.bind_some, J_fillB (-1) (kdf_KT k1) (by decide), Option.bind_some, u2_ne (show cv + 3 ≠ cv by omega), u2_ne (show cv + 1 ≠ cv + 3 by omega), u2_ne (show cv + 1 ≠ cv by omega)]
    have : aW 1 (-1) = -1 := by decide
    rw [this]
  have x3 : K1 (cv + 3) = fun k => if k < 5 then 0 else I (cv + 3) k := by
    show u2 (u2 (u2 I cv X) (cv + 3) _) (cv + 1) _ (cv + 3) = _
    rw [u2_ne (by omega), u2_same]
  have x1 : K1 (cv + 1) = fun k => if k < 192 then -1 else I (cv + 1) k := u2_same _ _ _
  have xc : K1 cv = X := by
    show u2 (u2 (u2 I cv X) (cv + 3) _) (cv + 1) _ cv = _
    rw [u2_ne (by omega), u2_ne (by omega), u2_same]
  have xn : ∀ q, q ≠ cv → q ≠ cv + 1 → q ≠ cv + 3 → K1 q = I q := fun q q1 q2 q3 => by
    show u2 (u2 (u2 I cv X) (cv + 3) _) (cv + 1) _ q = _
    rw [u2_ne q2, u2_ne q3, u2_ne q1]
  have hh := X_holes (b := b) (F := F) (E := E) (L := L) (P := P) (nx := nx) (us := us) (c := c) hcv hN hwl kw kh (W * H) 0 K1 FU (by omega) (by unfold FU; omega) (fun k hk => by rw [xn _ (by omega) (by omega) (by omega)]; exact hho k hk)
  rw [xn (wl + 1) (by omega) (by omega) (by omega), xn (cv + 2) (by omega) (by omega) (by omega)] at hh
  have eho : (fun k => if 0 ≤ k ∧ k < W * H then I (wl + 1) k else I (cv + 2) k) = fun k => if k < W * H then I (wl + 1) k else I (cv + 2) k := by
    funext k
    by_cases hk : k < W * H
    · rw [if_pos ⟨Nat.zero_le _, hk⟩, if_pos hk]
    · rw [if_neg (fun q => hk q.2), if_neg hk]
  rw [eho] at hh
  refine ⟨u2 K1 (cv + 2) (fun k => if k < W * H then I (wl + 1) k else I (cv + 2) k), hrun.trans hh, ?_, fun q q1 q2 q3 q4 => by rw [u2_ne q3, xn q q1 q2 q4], ?_⟩
  · have c0 : u2 K1 (cv + 2) (fun k => if k < W * H then I (wl + 1) k else I (cv + 2) k) cv = X := by rw [u2_ne (by omega), xc]
    unfold XA
    rw [c0, u2_same, u2_ne (show cv + 3 ≠ cv + 2 by omega), u2_ne (show cv + 1 ≠ cv + 2 by omega), x3, x1]
    refine ⟨by simp (decide := true) only [X, u2_same, u2_ne, u2_u2, upd_same, upd_ne, mE, u2_dyn, dyn_u2, dyn_hi, u2_hi, u2_hj, u2_dynj, u2_dd, u2_d0, u2_0d], by simp (decide := true) only [X, u2_same, u2_ne, u2_u2, upd_same, upd_ne, mE, u2_dyn, dyn_u2, dyn_hi, u2_hi, u2_hj, u2_dynj, u2_dd, u2_d0, u2_0d], by simp (decide := true) only [X, u2_same, u2_ne, u2_u2, upd_same, upd_ne, mE, u2_dyn, dyn_u2, dyn_hi, u2_hi, u2_hj, u2_dynj, u2_dd, u2_d0, u2_0d], rfl, by simp (decide := true) only [X, u2_same, u2_ne, u2_u2, upd_same, upd_ne, mE, u2_dyn, dyn_u2, dyn_hi, u2_hi, u2_hj, u2_dynj, u2_dd, u2_d0, u2_0d]; first | done | rfl, by simp (decide := true) only [X, u2_same, u2_ne, u2_u2, upd_same, upd_ne, mE, u2_dyn, dyn_u2, dyn_hi, u2_hi, u2_hj, u2_dynj, u2_dd, u2_d0, u2_0d]; first | done | rfl, ?_, fun k hk => if_pos hk, fun k hk => if_pos hk, fun _ => ⟨by simp (decide := true) only [X, u2_same, u2_ne, u2_u2, upd_same, upd_ne, mE, u2_dyn, dyn_u2, dyn_hi, u2_hi, u2_hj, u2_dynj, u2_dd, u2_d0, u2_0d]; first | done | rfl, by simp (decide := true) only [X, u2_same, u2_ne, u2_u2, upd_same, upd_ne, mE, u2_dyn, dyn_u2, dyn_hi, u2_hi, u2_hj, u2_dynj, u2_dd, u2_d0, u2_0d]; first | done | rfl⟩⟩
    have : X 6 = 0 := by simp (decide := true) only [X, u2_same, u2_ne, u2_u2, upd_same, upd_ne, mE, u2_dyn, dyn_u2, dyn_hi, u2_hi, u2_hj, u2_dynj, u2_dd, u2_d0, u2_0d]
    rw [this]
    intro j hj
    rw [b_0]
    exact ⟨fun q => (by cases q), fun ⟨_, k, k1, _⟩ => absurd k1 (Nat.not_lt_zero _)⟩
  · rw [u2_ne (by omega), xc]
    simp (decide := true) only [X, u2_same, u2_ne, u2_u2, upd_same, upd_ne, mE, u2_dyn, dyn_u2, dyn_hi, u2_hi, u2_hj, u2_dynj, u2_dd, u2_d0, u2_0d]
/-- the reference clears its canvas -/
theorem M_p2 {d w : Int32} : ∀ (m i : Nat) (I : Nat → Nat → Int32) (fu : Nat), i + m = 192 → m < fu → f_X15_paintsOn_2 fu (ad b 72) d w (Int32.ofNat i) (lay b F E I L P nx us) = f_X15_paintsOn_24 FU (ad b 72) d w 0 (lay b F E (u2 I 106 (fun k => if i ≤ k ∧ k < 192 then -1 else I 106 k)) L P nx us) := by
  intro m
  induction m with
  | zero =>
    intro i I fu hi hfu
    obtain ⟨fu, rfl⟩ : ∃ z, fu = z + 1 := ⟨fu - 1, by omega⟩
    have : (fun k => if i ≤ k ∧ k < 192 then -1 else I 106 k) = I 106 := by
      funext k
      rw [if_neg (by omega)]
    have e : (192 : Int32) ≤ Int32.ofNat i := oN_leL (n := 192) (by omega) (by omega)
    unfold f_X15_paintsOn_2
    rw [if_pos e, this, u2_id]
  | succ m ih =>
    intro i I fu hi hfu
    obtain ⟨fu, rfl⟩ : ∃ z, fu = z + 1 := ⟨fu - 1, by omega⟩
    have e : ¬ (192 : Int32) ≤ Int32.ofNat i := fun q => by have := (oN_le (a := 192) (by omega) (by omega)).mp q; omega
    have ei : iN (Int32.ofNat i) 192 = some i := iN_oN (by omega) (by omega)
    have g43 : gA 15 (lay b F E I L P nx us) (ad b 72) 43 = some (ad b 106) := by simp (decide := true) only [isO_s, gI_s, gA_s, gL_s, pI_s, pZ_s, pL_s, aI_s, aL_s, aN_s, aQ_s, sI_s, sL_s, cr, LNs, Option.map_some, Option.map_none, Option.bind_some, b2, tr, lt, if_true, if_false, ckZ, X_within, M_in, inR_z, X_refuse, X_tell, X_deny, X_grant, M_refused, M_denied, M_done, M_granted, u2_same, u2_ne, u2_u2, upd_same, upd_ne, aW0, ixR_z, ixR_1, M_isWall, M_isPainter, M_isWork, X_has4, X_has10, X_at, or_false, false_or, or_true, true_or, not_true, not_false_iff, Option.isSome_some, isO_d, gI_d, gA_d, pI_d, ne_eq, not_false_eq_true, u2_hi, u2_hj, u2_dyn, u2_dynj, Nat.reduceAdd, mX_r, mX_rD, mX_rDj, mM_r, mX_u, mX_uM, mX_uD, mX_uDj, mM_u, mM_uX, mM_uD, mM_uDj, u2_dd, u2_d0, u2_0d]
    have s6 : sI 0 (lay b F E I L P nx us) (ad b 106) (Int32.ofNat i) (-1) = some (lay b F E (u2 I 106 (upd (I 106) i (-1))) L P nx us) := by simp (decide := true) only [ei, isO_s, gI_s, gA_s, gL_s, pI_s, pZ_s, pL_s, aI_s, aL_s, aN_s, aQ_s, sI_s, sL_s, cr, LNs, Option.map_some, Option.map_none, Option.bind_some, b2, tr, lt, if_true, if_false, ckZ, X_within, M_in, inR_z, X_refuse, X_tell, X_deny, X_grant, M_refused, M_denied, M_done, M_granted, u2_same, u2_ne, u2_u2, upd_same, upd_ne, aW0, ixR_z, ixR_1, M_isWall, M_isPainter, M_isWork, X_has4, X_has10, X_at, or_false, false_or, or_true, true_or, not_true, not_false_iff, Option.isSome_some, isO_d, gI_d, gA_d, pI_d, ne_eq, not_false_eq_true, u2_hi, u2_hj, u2_dyn, u2_dynj, Nat.reduceAdd, mX_r, mX_rD, mX_rDj, mM_r, mX_u, mX_uM, mX_uD, mX_uDj, mM_u, mM_uX, mM_uD, mM_uDj, u2_dd, u2_d0, u2_0d]
    unfold f_X15_paintsOn_2
    rw [if_neg e, g43, Option.bind_some, s6, Option.bind_some, oN_succ, ih (i + 1) _ fu (by omega) (by omega), u2_u2, u2_same]
    congr 3
    funext k
    by_cases hk : k = i
    · subst hk
      rw [if_neg (by omega), upd_same, if_pos (by omega)]
    · rw [upd_ne hk]
      by_cases hk2 : i + 1 ≤ k ∧ k < 192
      · rw [if_pos hk2, if_pos (by omega)]
      · rw [if_neg hk2, if_neg (by omega)]
theorem M_p24 {d w : Int32} : ∀ (m i : Nat) (I : Nat → Nat → Int32) (fu : Nat), i + m = 5 → m < fu → f_X15_paintsOn_24 fu (ad b 72) d w (Int32.ofNat i) (lay b F E I L P nx us) = f_X15_paintsOn_24 1 (ad b 72) d w 5 (lay b F E (u2 I 107 (fun k => if i ≤ k ∧ k < 5 then 0 else I 107 k)) L P nx us) := by
  intro m
  induction m with
  | zero =>
    intro i I fu hi hfu
    obtain ⟨fu, rfl⟩ : ∃ z, fu = z + 1 := ⟨fu - 1, by omega⟩
    have : (fun k => if i ≤ k ∧ k < 5 then 0 else I 107 k) = I 107 := by
      funext k
      rw [if_neg (by omega)]
    have hi5 : i = 5 := by omega
    subst hi5
    rw [this, u2_id]
    have e : (5 : Int32) ≤ Int32.ofNat 5 := Int32.le_refl _
    have e' : (5 : Int32) ≤ 5 := Int32.le_refl _
    conv => lhs; unfold f_X15_paintsOn_24
    conv => rhs; unfold f_X15_paintsOn_24
    rw [if_pos e, if_pos e']
  | succ m ih =>
    intro i I fu hi hfu
    obtain ⟨fu, rfl⟩ : ∃ z, fu = z + 1 := ⟨fu - 1, by omega⟩
    have e : ¬ (5 : Int32) ≤ Int32.ofNat i := fun q => by have := (oN_le (a := 5) (by omega) (by omega)).mp q; omega
    have ei : iN (Int32.ofNat i) 5 = some i := iN_oN (by omega) (by omega)
    have g44 : gA 15 (lay b F E I L P nx us) (ad b 72) 44 = some (ad b 107) := by simp (decide := true) only [isO_s, gI_s, gA_s, gL_s, pI_s, pZ_s, pL_s, aI_s, aL_s, aN_s, aQ_s, sI_s, sL_s, cr, LNs, Option.map_some, Option.map_none, Option.bind_some, b2, tr, lt, if_true, if_false, ckZ, X_within, M_in, inR_z, X_refuse, X_tell, X_deny, X_grant, M_refused, M_denied, M_done, M_granted, u2_same, u2_ne, u2_u2, upd_same, upd_ne, aW0, ixR_z, ixR_1, M_isWall, M_isPainter, M_isWork, X_has4, X_has10, X_at, or_false, false_or, or_true, true_or, not_true, not_false_iff, Option.isSome_some, isO_d, gI_d, gA_d, pI_d, ne_eq, not_false_eq_true, u2_hi, u2_hj, u2_dyn, u2_dynj, Nat.reduceAdd, mX_r, mX_rD, mX_rDj, mM_r, mX_u, mX_uM, mX_uD, mX_uDj, mM_u, mM_uX, mM_uD, mM_uDj, u2_dd, u2_d0, u2_0d]
    have s7 : sI 0 (lay b F E I L P nx us) (ad b 107) (Int32.ofNat i) 0 = some (lay b F E (u2 I 107 (upd (I 107) i 0)) L P nx us) := by simp (decide := true) only [ei, isO_s, gI_s, gA_s, gL_s, pI_s, pZ_s, pL_s, aI_s, aL_s, aN_s, aQ_s, sI_s, sL_s, cr, LNs, Option.map_some, Option.map_none, Option.bind_some, b2, tr, lt, if_true, if_false, ckZ, X_within, M_in, inR_z, X_refuse, X_tell, X_deny, X_grant, M_refused, M_denied, M_done, M_granted, u2_same, u2_ne, u2_u2, upd_same, upd_ne, aW0, ixR_z, ixR_1, M_isWall, M_isPainter, M_isWork, X_has4, X_has10, X_at, or_false, false_or, or_true, true_or, not_true, not_false_iff, Option.isSome_some, isO_d, gI_d, gA_d, pI_d, ne_eq, not_false_eq_true, u2_hi, u2_hj, u2_dyn, u2_dynj, Nat.reduceAdd, mX_r, mX_rD, mX_rDj, mM_r, mX_u, mX_uM, mX_uD, mX_uDj, mM_u, mM_uX, mM_uD, mM_uDj, u2_dd, u2_d0, u2_0d]
    conv => lhs; unfold f_X15_paintsOn_24
    rw [if_neg e, g44, Option.bind_some, s7, Option.bind_some, oN_succ, ih (i + 1) _ fu (by omega) (by omega), u2_u2, u2_same]
    congr 3
    funext k
    by_cases hk : k = i
    · subst hk
      rw [if_neg (by omega), upd_same, if_pos (by omega)]
    · rw [upd_ne hk]
      by_cases hk2 : i + 1 ≤ k ∧ k < 5
      · rw [if_pos hk2, if_pos (by omega)]
      · rw [if_neg hk2, if_neg (by omega)]
def pntF (r : RW) (k : Nat) : Int32 := if r k = -1 then 0 else 1
theorem M_p87 : f_X15_paintsOn_87 FU (ad b 72) 0 0 (lay b F E I L P nx us) = some (sm (pntF (I 106)) 0 192, (lay b F E I L P nx us)) := by
  have g43 : gA 15 (lay b F E I L P nx us) (ad b 72) 43 = some (ad b 106) := by simp (decide := true) only [isO_s, gI_s, gA_s, gL_s, pI_s, pZ_s, pL_s, aI_s, aL_s, aN_s, aQ_s, sI_s, sL_s, cr, LNs, Option.map_some, Option.map_none, Option.bind_some, b2, tr, lt, if_true, if_false, ckZ, X_within, M_in, inR_z, X_refuse, X_tell, X_deny, X_grant, M_refused, M_denied, M_done, M_granted, u2_same, u2_ne, u2_u2, upd_same, upd_ne, aW0, ixR_z, ixR_1, M_isWall, M_isPainter, M_isWork, X_has4, X_has10, X_at, or_false, false_or, or_true, true_or, not_true, not_false_iff, Option.isSome_some, isO_d, gI_d, gA_d, pI_d, ne_eq, not_false_eq_true, u2_hi, u2_hj, u2_dyn, u2_dynj, Nat.reduceAdd, mX_r, mX_rD, mX_rDj, mM_r, mX_u, mX_uM, mX_uD, mX_uDj, mM_u, mM_uX, mM_uD, mM_uDj, u2_dd, u2_d0, u2_0d]
  refine lp_sum0 (T := fun n a k => f_X15_paintsOn_87 n (ad b 72) a k (lay b F E I L P nx us)) (R := fun a => some (a, (lay b F E I L P nx us))) (f := pntF (I 106)) (N := 192) (by omega) ?_ ?_
  · intro n a
    show f_X15_paintsOn_87 (n + 1) (ad b 72) a (Int32.ofNat 192) (lay b F E I L P nx us) = _
    unfold f_X15_paintsOn_87
    rw [if_pos (show (192 : Int32) ≤ Int32.ofNat 192 from Int32.le_refl _)]
  · intro n a k hk
    have e : ¬ (192 : Int32) ≤ Int32.ofNat k := fun q => by have := (oN_le (a := 192) (by omega) (by omega)).mp q; omega
    have ei : iN (Int32.ofNat k) 192 = some k := iN_oN hk (by omega)
    have a6 : aI 0 (lay b F E I L P nx us) (ad b 106) (Int32.ofNat k) = some (I 106 k) := by simp (decide := true) only [ei, isO_s, gI_s, gA_s, gL_s, pI_s, pZ_s, pL_s, aI_s, aL_s, aN_s, aQ_s, sI_s, sL_s, cr, LNs, Option.map_some, Option.map_none, Option.bind_some, b2, tr, lt, if_true, if_false, ckZ, X_within, M_in, inR_z, X_refuse, X_tell, X_deny, X_grant, M_refused, M_denied, M_done, M_granted, u2_same, u2_ne, u2_u2, upd_same, upd_ne, aW0, ixR_z, ixR_1, M_isWall, M_isPainter, M_isWork, X_has4, X_has10, X_at, or_false, false_or, or_true, true_or, not_true, not_false_iff, Option.isSome_some, isO_d, gI_d, gA_d, pI_d, ne_eq, not_false_eq_true, u2_hi, u2_hj, u2_dyn, u2_dynj, Nat.reduceAdd, mX_r, mX_rD, mX_rDj, mM_r, mX_u, mX_uM, mX_uD, mX_uDj, mM_u, mM_uX, mM_uD, mM_uDj, u2_dd, u2_d0, u2_0d]
    show f_X15_paintsOn_87 (n + 1) (ad b 72) a (Int32.ofNat k) (lay b F E I L P nx us) = f_X15_paintsOn_87 n (ad b 72) (a + pntF (I 106) k) (Int32.ofNat (k + 1)) (lay b F E I L P nx us)
    conv => lhs; unfold f_X15_paintsOn_87 f_X15_paintsOn_112
    unfold pntF
    rw [if_neg e, g43, Option.bind_some, a6, Option.bind_some, oN_succ]
    by_cases hq : I 106 k = -1
    · rw [if_pos hq, if_pos hq]
    · rw [if_neg hq, if_neg hq]
/-- the class counts what is painted -/
theorem X_ptd {cv : Nat} (hcv : CV cv) : f_X0_painted (ad b cv) (lay b F E I L P nx us) = some (sm (pntF (I (cv + 1))) 0 192, (lay b F E I L P nx us)) := by
  have k1 : KT (cv + 1) = some (.inl (1, 192)) := by rcases hcv with rfl | rfl <;> decide
  have g0 : gA 0 (lay b F E I L P nx us) (ad b cv) 0 = some (ad b (cv + 1)) := gA_cr (kdf_KT (CV_k hcv)) (by decide) (show cr 0 cv 0 = some (cv + 1) from rfl)
  have ha : f_X0_area_4 FU (ad b cv) (-1) 0 0 (lay b F E I L P nx us) = some (sm (fun k => if I (cv + 1) k = -1 then 1 else 0) 0 192, (lay b F E I L P nx us)) := by
    refine lp_sum0 (T := fun n a k => f_X0_area_4 n (ad b cv) (-1) a k (lay b F E I L P nx us)) (R := fun a => some (a, (lay b F E I L P nx us))) (f := fun k => if I (cv + 1) k = -1 then 1 else 0) (N := 192) (by omega) ?_ ?_
    · intro n a
      show f_X0_area_4 (n + 1) (ad b cv) (-1) a (Int32.ofNat 192) (lay b F E I L P nx us) = _
      unfold f_X0_area_4
      rw [g0, Option.bind_some, aN_lay (kdf_KT k1), Option.bind_some, if_pos (Int32.le_refl _)]
    · intro n a k hk
      have ei : iN (Int32.ofNat k) 192 = some k := iN_oN hk (by omega)
      show f_X0_area_4 (n + 1) (ad b cv) (-1) a (Int32.ofNat k) (lay b F E I L P nx us) = f_X0_area_4 n (ad b cv) (-1) (a + if I (cv + 1) k = -1 then 1 else 0) (Int32.ofNat (k + 1)) (lay b F E I L P nx us)
      conv => lhs; unfold f_X0_area_4 f_X0_area_26
      rw [g0, Option.bind_some, aN_lay (kdf_KT k1), Option.bind_some, if_neg (fun q => by have := (oN_le (by omega) (by omega)).mp q; omega), Option.bind_some, aI_lay (kdf_KT k1) (by decide), ei, Option.map_some, Option.bind_some, oN_succ]
      by_cases hq : I (cv + 1) k = -1
      · rw [if_pos hq, if_pos hq]
      · rw [if_neg hq, if_neg hq, Int32.add_zero]
  have hs : sm (pntF (I (cv + 1))) 0 192 + sm (fun k => if I (cv + 1) k = -1 then 1 else 0) 0 192 = Int32.ofNat 192 := by
    rw [sm_add]
    have : sm (fun k => pntF (I (cv + 1)) k + if I (cv + 1) k = -1 then 1 else 0) 0 192 = sm (fun _ => 1) 0 192 := by
      refine sm_congr _ _ (fun k _ _ => ?_)
      unfold pntF
      split <;> rfl
    rw [this]
    exact sm_one 192
  unfold f_X0_painted f_X0_area
  rw [if_pos (isO_s (CV_k hcv)), g0, Option.bind_some, aN_lay (kdf_KT k1), Option.bind_some, if_pos (isO_s (CV_k hcv)), ha, b2_p, sub_e hs]
end PN3
/-- both paint a drawing -/
theorem paint2 {b : Nat} {F : Nat → Option AE} {E : Nat → Option KD} {P : Nat → Nat → Option Nat} {nx us : Nat} {Lx : Nat → Nat → Int64} {cv c dl wc W H w nb r : Nat} {ho dd dv dt : RW} {R : Nat → RW} {Wd : Nat → Int64} {st n0 : Nat} (hcv : CV cv) (hr : RD r) (hB : BlS b F E P nx us Lx cv c dl wc W H w nb r ho dd dv dt R Wd 6 0 st 0 dl) (hst : st ≤ 40) : ∃ A', AOK ho Wd A' ∧
    (∀ K : Nat → Nat → Int32, XA cv W H nb ho (Lx 53) A0 0 0 K → CDr E c dl wc dd dv dt K → ∃ J, pX b cv c 0 0 (lay b F E K Lx P nx us) = some (lay b F E J Lx P nx us) ∧ XA cv W H nb ho (Lx 53) A' 0 0 J ∧ FXp cv 0 K J) ∧
    (∀ (I : Nat → Nat → Int32) (L : Nat → Nat → Int64) (d : Nat), d < 12 → P 92 d = some r → K12 E r → I r 0 = Int32.ofNat st → RR r R Wd I L → w < 16 → 1 ≤ W → W ≤ 16 → 1 ≤ H → H ≤ 12 → I 73 w = Int32.ofNat W → I 74 w = Int32.ofNat H → (∀ c, c < W * H → (I 84 (192 * w + c) = 0 ↔ ho c = 0)) → ∃ J M, f_X15_paintsOn (ad b 72) (Int32.ofNat d) (Int32.ofNat w) (lay b F E I L P nx us) = some (sm (pntF (J 106)) 0 192, lay b F E J M P nx us) ∧ MA W H w ho A' J M ∧ (∀ q, q ≠ 72 → q ≠ 106 → q ≠ 107 → q ≠ 108 → J q = I q) ∧ (∀ k, k ≠ 47 → k ≠ 48 → k ≠ 49 → k ≠ 50 → J 72 k = I 72 k) ∧ ∀ q, q ≠ 109 → M q = L q) := by
  obtain ⟨A', n, b1, b2', b3, b4, b5, bX, bM⟩ := hB A0 0 A0_ok rfl (by decide)
  have hA1 := b1.2.1
  refine ⟨A', b1, ?_, ?_⟩
  · intro K hX hc
    obtain ⟨J, j1, j2, j3, j4⟩ := bX K 0 hX hc (by decide)
    refine ⟨J, ?_, j3, j4⟩
    cases hs : A'.2.2.2.1 with
    | true => exact j2 hs
    | false =>
      have := b3 hs
      rw [j1 hs]
      exact pX_fin hcv (hc.fx hcv j4) (by have h0 : A0.2.2.1 = 0 := rfl; rw [h0] at this; omega)
  · intro I L d hd hP hK h0 hR hw hW1 hW hH1 hH h73 h74 hho
    have hr' : r = 93 ∨ 149 ≤ r := hr
    let I1 : Nat → Nat → Int32 := u2 (u2 I 106 (fun k => if 0 ≤ k ∧ k < 192 then -1 else I 106 k)) 107 (fun k => if 0 ≤ k ∧ k < 5 then 0 else I 107 k)
    let I2 : Nat → Nat → Int32 := u2 I1 72 (upd (upd (upd (upd (I 72) 47 (Int32.ofNat w)) 48 0) 49 0) 50 0)
    have n1 : ∀ q, q ≠ 106 → q ≠ 107 → I1 q = I q := fun q q1 q2 => by show u2 (u2 I 106 _) 107 _ q = _; rw [u2_ne q2, u2_ne q1]
    have n2 : ∀ q, q ≠ 72 → q ≠ 106 → q ≠ 107 → I2 q = I q := fun q q1 q2 q3 => (u2_ne q1).trans (n1 q q2 q3)
    have i72 : I2 72 = upd (upd (upd (upd (I 72) 47 (Int32.ofNat w)) 48 0) 49 0) 50 0 := u2_same _ _ _
    have i106 : I2 106 = fun k => if 0 ≤ k ∧ k < 192 then -1 else I 106 k := by
      show u2 (u2 (u2 I 106 _) 107 _) 72 _ 106 = _
      rw [u2_ne (by decide), u2_ne (by decide), u2_same]
    have i107 : I2 107 = fun k => if 0 ≤ k ∧ k < 5 then 0 else I 107 k := by
      show u2 (u2 (u2 I 106 _) 107 _) 72 _ 107 = _
      rw [u2_ne (by decide), u2_same]
    have ed : iN (Int32.ofNat d) 12 = some d := iN_oN hd (by omega)
    have hq7 : ∀ J : Nat → Nat → Int32, aQ 7 (lay b F E J L P nx us) (ad b 92) (Int32.ofNat d) = some (some (ad b r)) := fun J => by
      rw [aQ_s (by decide)]
      have : iN (Int32.ofNat d) (ln 92) = some d := ed
      rw [this, Option.map_some, hP]
      rfl
    have h24 : f_X15_paintsOn_24 1 (ad b 72) (Int32.ofNat d) (Int32.ofNat w) 5 (lay b F E I1 L P nx us) = (f_X15_paints 8 (ad b 72) (ad b r) 0 (Int32.ofNat st) (lay b F E I2 L P nx us)).bind fun h16 => f_X15_paintsOn_87 FU (ad b 72) 0 0 h16 := by
      have g39 : ∀ J : Nat → Nat → Int32, gA 15 (lay b F E J L P nx us) (ad b 72) 39 = some (ad b 92) := fun J => gA_cr (kdf_KT (show KT 72 = some (.inr (15, true)) by decide)) (by decide) rfl
      have q0 : ∀ (x : Nat) (A : Option (Int32 × AH)) (B : Nat → Option (Int32 × AH)), tr (some x) A B = B x := fun _ _ _ => rfl
      have e5 : (5 : Int32) ≤ 5 := Int32.le_refl _
      have i1r : I2 r 0 = Int32.ofNat st := by rw [n2 r (by omega) (by omega) (by omega)]; exact h0
      have hI1 : I1 72 = I 72 := n1 72 (by decide) (by decide)
      conv => lhs; unfold f_X15_paintsOn_24
      rw [if_pos e5, pI_s (by decide) (by decide), Option.bind_some, pI_s (by decide) (by decide), Option.bind_some, u2_u2, u2_same, pI_s (by decide) (by decide), Option.bind_some, u2_u2, u2_same, pZ_s (by decide) (by decide) (Or.inl rfl), Option.bind_some, u2_u2, u2_same, hI1]
      show ((gA 15 (lay b F E I2 L P nx us) (ad b 72) 39).bind fun a5 => _) = _
      rw [g39, Option.bind_some, hq7, Option.bind_some, q0, Option.bind_some, hq7, Option.bind_some, q0, gI_lay hK.1 (by decide), Option.bind_some]
      show ((f_X15_paints 8 (ad b 72) (ad b r) 0 (I2 r 0) (lay b F E I2 L P nx us)).bind fun h16 => f_X15_paintsOn_87 FU (ad b 72) 0 0 h16) = _
      rw [i1r]
    have hMA : MA W H w ho A0 I2 L := by
      refine ⟨⟨hW1, hW, hH1, hH, hw, ?_, ?_, ?_, ?_⟩, ?_, ?_, ?_, ?_, ?_, fun k hk => absurd hk (Nat.not_lt_zero _)⟩
      · rw [i72]; simp (decide := true) only [u2_same, u2_ne, u2_u2, upd_same, upd_ne, mE, u2_dyn, dyn_u2, dyn_hi, u2_hi, u2_hj, u2_dynj, u2_dd, u2_d0, u2_0d]
      · rw [n2 73 (by decide) (by decide) (by decide)]; exact h73
      · rw [n2 74 (by decide) (by decide) (by decide)]; exact h74
      · rw [n2 84 (by decide) (by decide) (by decide)]; exact hho
      · rw [i72]; simp (decide := true) only [u2_same, u2_ne, u2_u2, upd_same, upd_ne, mE, u2_dyn, dyn_u2, dyn_hi, u2_hi, u2_hj, u2_dynj, u2_dd, u2_d0, u2_0d]; first | done | rfl
      · rw [i72]; simp (decide := true) only [u2_same, u2_ne, u2_u2, upd_same, upd_ne, mE, u2_dyn, dyn_u2, dyn_hi, u2_hi, u2_hj, u2_dynj, u2_dd, u2_d0, u2_0d]; first | done | rfl
      · rw [i72]; simp (decide := true) only [u2_same, u2_ne, u2_u2, upd_same, upd_ne, mE, u2_dyn, dyn_u2, dyn_hi, u2_hi, u2_hj, u2_dynj, u2_dd, u2_d0, u2_0d]; first | done | rfl
      · rw [i107]; exact fun k hk => if_pos ⟨Nat.zero_le _, hk⟩
      · rw [i106]; exact fun k hk => if_pos ⟨Nat.zero_le _, hk⟩
    have hR2 : RR r R Wd I2 L := ⟨fun j j1 j2 => by rw [n2 _ (by omega) (by omega) (by omega)]; exact hR.1 j j1 j2, hR.2⟩
    obtain ⟨J, M, j1, j2, j3⟩ := bM I2 L 7 FU hMA hR2 (by decide) hst (by unfold FU; omega)
    have hp : f_X15_paints 8 (ad b 72) (ad b r) 0 (Int32.ofNat st) (lay b F E I2 L P nx us) = some (lay b F E J M P nx us) := (pnt_b (s := 0) (e := st) (dp := 7)).trans j1
    refine ⟨J, M, ?_, j2, fun q q1 q2 q3 q4 => by rw [j3.1 q q1 q2 q3 q4, n2 q q1 q2 q3], fun k k1 k2 k3 k4 => by rw [j3.2.1 k k2 k3 k4, i72, upd_ne k4, upd_ne k3, upd_ne k2, upd_ne k1], j3.2.2⟩
    have hp2 := M_p2 (b := b) (F := F) (E := E) (L := L) (P := P) (nx := nx) (us := us) (d := Int32.ofNat d) (w := Int32.ofNat w) 192 0 I FU (by omega) (by unfold FU; omega)
    have hp24 := M_p24 (b := b) (F := F) (E := E) (L := L) (P := P) (nx := nx) (us := us) (d := Int32.ofNat d) (w := Int32.ofNat w) 5 0 (u2 I 106 (fun k => if 0 ≤ k ∧ k < 192 then -1 else I 106 k)) FU (by omega) (by unfold FU; omega)
    rw [u2_ne (show (107 : Nat) ≠ 106 by decide)] at hp24
    have hp2' : f_X15_paintsOn_2 FU (ad b 72) (Int32.ofNat d) (Int32.ofNat w) 0 (lay b F E I L P nx us) = _ := hp2
    have hp24' : f_X15_paintsOn_24 FU (ad b 72) (Int32.ofNat d) (Int32.ofNat w) 0 (lay b F E (u2 I 106 (fun k => if 0 ≤ k ∧ k < 192 then -1 else I 106 k)) L P nx us) = f_X15_paintsOn_24 1 (ad b 72) (Int32.ofNat d) (Int32.ofNat w) 5 (lay b F E I1 L P nx us) := hp24
    unfold f_X15_paintsOn
    rw [if_pos (isO_s (by decide)), hp2', hp24', h24, hp, Option.bind_some, M_p87]
