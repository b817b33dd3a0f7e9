/-! ===== drawing: the class reads sums ===== -/
theorem pS_e {t : RW} {n : Nat} : ∀ (f m i br : Nat) (s : SSt) (i1 : Nat) (s1 : SSt), pS t n f m i br s = .inr (i1, s1) → ((m = 2 ∨ m = 3) → ¬ isC t n i1 42 ∧ ¬ isC t n i1 47) ∧ ((m = 0 ∨ (m = 1 ∧ ¬ isC t n i 42 ∧ ¬ isC t n i 47)) → ¬ isC t n i1 42 ∧ ¬ isC t n i1 47 ∧ ¬ isC t n i1 43 ∧ ¬ isC t n i1 45) := by
  intro f
  induction f with
  | zero => intro m i br s i1 s1 h; cases h
  | succ f ih =>
    intro m i br s i1 s1 h
    match m with
    | 0 =>
      obtain ⟨i2, s2, h1, h2⟩ := and_inr h
      have a1 := (ih 2 i br s i2 s2 h1).1 (Or.inl rfl)
      have a2 := (ih 1 i2 br s2 i1 s1 h2).2 (Or.inr ⟨rfl, a1⟩)
      exact ⟨fun q => by omega, fun _ => a2⟩
    | 1 =>
      simp only [pS] at h
      split at h
      · obtain ⟨i2, s2, h1, h2⟩ := and_inr h
        have a1 := (ih 2 (i + 1) br s i2 s2 h1).1 (Or.inl rfl)
        have a2 := (ih 1 i2 br (sPut s2 (if isC t n i 43 then 4 else 5) 0) i1 s1 h2).2 (Or.inr ⟨rfl, a1⟩)
        exact ⟨fun q => by omega, fun _ => a2⟩
      · rename_i hc
        cases h
        refine ⟨fun q => by omega, fun q => ?_⟩
        rcases q with q | q
        · omega
        · exact ⟨q.2.1, q.2.2, fun e => hc (Or.inl e), fun e => hc (Or.inr e)⟩
    | 2 =>
      obtain ⟨i2, s2, h1, h2⟩ := and_inr h
      exact ⟨fun _ => (ih 3 i2 br s2 i1 s1 h2).1 (Or.inr rfl), fun q => by omega⟩
    | 3 =>
      simp only [pS] at h
      split at h
      · obtain ⟨i2, s2, h1, h2⟩ := and_inr h
        exact ⟨fun _ => (ih 3 i2 br (sPut s2 (if isC t n i 42 then 6 else 7) 0) i1 s1 h2).1 (Or.inr rfl), fun q => by omega⟩
      · rename_i hc
        cases h
        exact ⟨fun _ => ⟨fun e => hc (Or.inl e), fun e => hc (Or.inr e)⟩, fun q => by omega⟩
    | m + 4 => exact ⟨fun q => by omega, fun q => by omega⟩
def p9 (z : ZX) (b deep T : Nat) (h : AH) : Option (Int32 × AH) := f_X2_readSum_9 (FU - T) (ad b 44) (Int32.ofNat deep) (Int32.ofNat T) h
def p71 (z : ZX) (b deep T u : Nat) (h : AH) : Option (Int32 × AH) := f_X2_readSum_71 (f_X2_readSum_9 (FU - T - 1)) u (ad b 44) (Int32.ofNat deep) (Int32.ofNat T) h
/-- the class stands at token i; the items of s are its deeds and the signs xs that it holds -/
def PX (t : RW) (n la o f0 bs : Nat) (xs : List Int32) (i : Nat) (s : SSt) (K : Nat → Nat → Int32) (L : Nat → Nat → Int64) (dl : Nat) : Prop := XSt t n la i s.1 (bs + xs.length) dl K L ∧ o ≤ dl ∧ STK bs xs (K 51) ∧ SD o f0 (dl - o) K s.2.2.1 s.2.2.2 ∧ ITM (f0 + (dl - o)) xs s.2.2.1 ∧ f0 + (dl - o) + xs.length = s.2.1
def S2 (xs : List Int32) : Prop := xs = [] ∨ xs = [6] ∨ xs = [7]
def S0 (xs : List Int32) : Prop := ∃ ms as, S2 ms ∧ (as = [] ∨ as = [4] ∨ as = [5]) ∧ xs = ms ++ as
theorem S2_op {xs : List Int32} (h : S2 xs) : xs.length ≤ 1 ∧ ∀ x, x ∈ xs → (x = 4 ∨ x = 5 ∨ x = 6 ∨ x = 7) ∧ ¬ rkV (itV x 0) < 2 := by
  rcases h with rfl | rfl | rfl
  · exact ⟨by decide, fun x hx => by cases hx⟩
  · refine ⟨by decide, fun x hx => ?_⟩
    rw [List.mem_singleton] at hx
    subst hx
    decide
  · refine ⟨by decide, fun x hx => ?_⟩
    rw [List.mem_singleton] at hx
    subst hx
    decide
theorem S0_op {xs : List Int32} (h : S0 xs) : xs.length ≤ 2 ∧ ∀ x, x ∈ xs → (x = 4 ∨ x = 5 ∨ x = 6 ∨ x = 7) ∧ ¬ rkV (itV x 0) < 1 := by
  obtain ⟨ms, as, h1, h2, rfl⟩ := h
  have a1 := S2_op h1
  refine ⟨?_, ?_⟩
  · rw [List.length_append]
    rcases h2 with rfl | rfl | rfl
    · exact Nat.le_trans a1.1 (by decide)
    · have := a1.1; show ms.length + 1 ≤ 2; omega
    · have := a1.1; show ms.length + 1 ≤ 2; omega
  · intro x hx
    rw [List.mem_append] at hx
    rcases hx with hx | hx
    · obtain ⟨b1, b2⟩ := a1.2 x hx
      exact ⟨b1, fun q => b2 (Int32.lt_trans q (by decide))⟩
    · rcases h2 with rfl | rfl | rfl
      · cases hx
      · rw [List.mem_singleton] at hx; subst hx; decide
      · rw [List.mem_singleton] at hx; subst hx; decide
theorem STK_app {bs : Nat} {x : Int32} {r : RW} : ∀ (ms : List Int32), STK (bs + 1) ms r → r bs = itV x 0 → STK bs (ms ++ [x]) r := by
  intro ms
  induction ms with
  | nil => intro _ h; exact ⟨h, trivial⟩
  | cons y ys ih =>
    intro h hx
    refine ⟨?_, ih h.2 hx⟩
    show r (bs + (ys ++ [x]).length) = itV y 0
    rw [List.length_append, show bs + (ys.length + [x].length) = bs + 1 + ys.length by show bs + (ys.length + 1) = _; omega]
    exact h.1
theorem ITM_app {k it : Nat} {x : Int32} {sg : RW} : ∀ (ms : List Int32) (k : Nat), k + ms.length = it → ITM k ms sg → ITM k (ms ++ [x]) (upd sg it x) := by
  intro ms
  induction ms with
  | nil =>
    intro k h _
    have : k = it := h
    subst this
    exact ⟨upd_same _ _ _, trivial⟩
  | cons y ys ih =>
    intro k h hi
    have hl : (y :: ys).length = ys.length + 1 := rfl
    rw [hl] at h
    exact ⟨by rw [upd_ne (by omega)]; exact hi.1, ih (k + 1) (by omega) hi.2⟩
/-- the sign x is now among the items -/
theorem PX_put {t : RW} {n la o f0 bs i dl : Nat} {ms : List Int32} {s : SSt} {x : Int32} {K : Nat → Nat → Int32} {L : Nat → Nat → Int64} (h : PX t n la o f0 (bs + 1) ms i s K L dl) (hx : K 51 bs = itV x 0) : PX t n la o f0 bs (ms ++ [x]) i (sPut s x 0) K L dl := by
  obtain ⟨h1, h2, h3, h4, h5, h6⟩ := h
  have hl : (ms ++ [x]).length = ms.length + 1 := by rw [List.length_append]; rfl
  refine ⟨?_, h2, STK_app ms h3 hx, ?_, ITM_app (k := f0 + (dl - o)) ms _ h6 h5, ?_⟩
  · rw [hl, show bs + (ms.length + 1) = bs + 1 + ms.length by omega]; exact h1
  · intro j hj
    show K 46 (o + j) = itD (upd s.2.2.1 s.2.1 x (f0 + j)) ∧ K 47 (o + j) = itV (upd s.2.2.1 s.2.1 x (f0 + j)) (upd s.2.2.2 s.2.1 0 (f0 + j))
    rw [upd_ne (by omega), upd_ne (by omega)]
    exact h4 j hj
  · rw [hl]
    show _ = s.2.1 + 1
    omega
theorem sgn_rk {t : RW} {n i : Nat} (h1 : ¬ isC t n i 42) (h2 : ¬ isC t n i 47) (h3 : ¬ isC t n i 43) (h4 : ¬ isC t n i 45) : rkV (sgn t n i) = 0 := by
  have e : ∀ c : Int32, c ≠ 0 → ¬ isC t n i c → ¬ sgn t n i = c := fun c hc hn q => by rw [sgn_c hc] at q; exact hn q
  unfold rkV
  rw [if_neg (by rintro (q | q); exact e 42 (by decide) h1 q; exact e 47 (by decide) h2 q), if_neg (by rintro (q | q); exact e 43 (by decide) h3 q; exact e 45 (by decide) h4 q)]
section SUM7
variable {b : Nat} {F : Nat → Option AE} {D E : Nat → Option KD} {I : Nat → Nat → Int32} {L : Nat → Nat → Int64} {P : Nat → Nat → Option Nat} {nx us : Nat}
/-- a sign between parts: what is held is settled, the sign is held -/
theorem X_op {z : ZX} {t : RW} {n la o f0 bs i dl deep T u : Nat} {xs : List Int32} {s : SSt} (c r : Int32) (hLA : LA t n la) (h : PX t n la o f0 bs xs i s I L dl) (hc : isC t n i c) (hr : rkV c = r) (hr0 : 0 < r) (h41 : c ≠ 41) (hx : ∀ x, x ∈ xs → (x = 4 ∨ x = 5 ∨ x = 6 ∨ x = 7) ∧ ¬ rkV (itV x 0) < r) (hl : xs.length ≤ 2) (hb : bs = 0 ∨ rkV (I 51 (bs - 1)) < r) (hbs : bs ≤ 19) (ho : o ≤ 118 + f0) (hp : s.1 ≤ 120) (hit : s.2.1 ≤ 2 * s.1) (hT : T < 400) (hdu : deep < u) (hd6 : deep ≤ 6) : ∃ K dl2, p71 z b deep T u (lay b F E I L P nx us) = p9 z b deep (T + 1) (lay b F E K L P nx us) ∧ PX t n la o f0 (bs + 1) [] (i + 1) s K L dl2 ∧ dl ≤ dl2 ∧ FXs bs dl I K ∧ K 51 bs = c := by
  obtain ⟨u, rfl⟩ : ∃ e, u = e + 1 := ⟨u - 1, by omega⟩
  obtain ⟨h1, h2, h3, h4, h5, h6⟩ := h
  have hil := isC_lt hLA h1.2.1 hc
  have hsg := X_sign (b := b) (F := F) (E := E) (P := P) (nx := nx) (us := us) h1.1 h1.2.1 h1.2.2.1
  have c0 : c ≠ 0 := by intro q; subst q; have hg := (kd_4 hc.1).2; rw [hc.2] at hg; exact absurd hg (by decide)
  have hsc : sgn t n i = c := by unfold sgn; rw [if_pos hc.1]; exact hc.2
  rw [hsc] at hsg
  obtain ⟨I1, z1, z2, z3, z4⟩ := X_settle (b := b) (F := F) (E := E) (L := L) (P := P) (nx := nx) (us := us) r hr0 xs dl I FU (by unfold FU; omega) h1 (by omega) (by omega) hx hb h3 h2 h4 h5
  have hsg1 := X_sign (b := b) (F := F) (E := E) (P := P) (nx := nx) (us := us) z2.1 z2.2.1 z2.2.2.1
  rw [hsc] at hsg1
  have hho := X_hold (b := b) (F := F) (E := E) (L := L) (P := P) (nx := nx) (us := us) (I := I1) c z2.2.2.2.2.2.1 (by omega)
  have z5 : XSt t n la i s.1 (bs + 1) (dl + xs.length) (xHd bs c I1) L := z2.hd
  have hav := X_advV (b := b) (F := F) (E := E) (P := P) (nx := nx) (us := us) z5.1 hil z5.2.2.1
  have hset : f_X2_settleSigns (ad b 44) r (lay b F E I L P nx us) = some (lay b F E I1 L P nx us) := by
    unfold f_X2_settleSigns
    rw [isO_s (by decide), if_pos rfl]
    exact z1
  have hrr : (r = 0) = False := eq_false (fun q => by rw [q] at hr0; exact absurd hr0 (by decide))
  have h119 : f_X2_readSum_119 (f_X2_readSum_9 (FU - T - 1)) (ad b 44) (Int32.ofNat deep) (Int32.ofNat T) (lay b F E I L P nx us) = p9 z b deep (T + 1) (lay b F E (aVv (xHd bs c I1) (i + 1)) L P nx us) := by
    unfold p9
    rw [show FU - (T + 1) = FU - T - 1 from Nat.sub_sub .. ▸ rfl]
    simp (decide := true) only [f_X2_readSum_119, f_X2_readSum_183, hsg, X_rank, hr, hrr, hset, hsg1, hho, hav, oN_succ, isO_s, gI_s, gA_s, gL_s, pI_s, pZ_s, pL_s, aI_s, aL_s, aN_s, aQ_s, sI_s, sL_s, cr, LNs, Option.map_some, Option.map_none, Option.bind_some, b2, tr, lt, if_true, if_false, ckZ, X_within, M_in, inR_z, X_refuse, X_tell, X_deny, X_grant, M_refused, M_denied, M_done, M_granted, u2_same, u2_ne, u2_u2, upd_same, upd_ne, aW0, ixR_z, ixR_1, M_isWall, M_isPainter, M_isWork, X_has4, X_has10, X_at, or_false, false_or, or_true, true_or, not_true, not_false_iff, Option.isSome_some, isO_d, gI_d, gA_d, pI_d, ne_eq, not_false_eq_true, u2_hi, u2_hj, u2_dyn, u2_dynj, Nat.reduceAdd, mX_r, mX_rD, mX_rDj, mM_r, mX_u, mX_uM, mX_uD, mX_uDj, mM_u, mM_uX, mM_uD, mM_uDj, u2_dd, u2_d0, u2_0d]
  refine ⟨aVv (xHd bs c I1) (i + 1), dl + xs.length, ?_, ?_, by omega, (z3.trans (FXs_H (Nat.le_refl _)) (Nat.le_refl _) (Nat.le_refl _)).trans FXs_V (Nat.le_refl _) (Nat.le_refl _), ?_⟩
  · rw [← h119]
    unfold p71
    by_cases hd : deep = 0
    · have e : (Int32.ofNat deep ≤ 0) = True := by rw [hd]; exact eq_true (Int32.le_refl _)
      simp (decide := true) only [f_X2_readSum_71, e, isO_s, gI_s, gA_s, gL_s, pI_s, pZ_s, pL_s, aI_s, aL_s, aN_s, aQ_s, sI_s, sL_s, cr, LNs, Option.map_some, Option.map_none, Option.bind_some, b2, tr, lt, if_true, if_false, ckZ, X_within, M_in, inR_z, X_refuse, X_tell, X_deny, X_grant, M_refused, M_denied, M_done, M_granted, u2_same, u2_ne, u2_u2, upd_same, upd_ne, aW0, ixR_z, ixR_1, M_isWall, M_isPainter, M_isWork, X_has4, X_has10, X_at, or_false, false_or, or_true, true_or, not_true, not_false_iff, Option.isSome_some, isO_d, gI_d, gA_d, pI_d, ne_eq, not_false_eq_true, u2_hi, u2_hj, u2_dyn, u2_dynj, Nat.reduceAdd, mX_r, mX_rD, mX_rDj, mM_r, mX_u, mX_uM, mX_uD, mX_uDj, mM_u, mM_uX, mM_uD, mM_uDj, u2_dd, u2_d0, u2_0d]
    · have e : (Int32.ofNat deep ≤ 0) = False := eq_false (fun q => by have := (oN_le (c := 0) (by omega) (by omega)).mp q; omega)
      have e41 : (c = 41) = False := eq_false h41
      simp (decide := true) only [f_X2_readSum_71, e, hsg, e41, isO_s, gI_s, gA_s, gL_s, pI_s, pZ_s, pL_s, aI_s, aL_s, aN_s, aQ_s, sI_s, sL_s, cr, LNs, Option.map_some, Option.map_none, Option.bind_some, b2, tr, lt, if_true, if_false, ckZ, X_within, M_in, inR_z, X_refuse, X_tell, X_deny, X_grant, M_refused, M_denied, M_done, M_granted, u2_same, u2_ne, u2_u2, upd_same, upd_ne, aW0, ixR_z, ixR_1, M_isWall, M_isPainter, M_isWork, X_has4, X_has10, X_at, or_false, false_or, or_true, true_or, not_true, not_false_iff, Option.isSome_some, isO_d, gI_d, gA_d, pI_d, ne_eq, not_false_eq_true, u2_hi, u2_hj, u2_dyn, u2_dynj, Nat.reduceAdd, mX_r, mX_rD, mX_rDj, mM_r, mX_u, mX_uM, mX_uD, mX_uDj, mM_u, mM_uX, mM_uD, mM_uDj, u2_dd, u2_d0, u2_0d]
  · refine ⟨z5.adv hil, by omega, trivial, ?_, trivial, ?_⟩
    · rw [show dl + xs.length - o = dl - o + xs.length by omega]
      intro j hj
      have e46 : aVv (xHd bs c I1) (i + 1) 46 = I1 46 := by rw [aVv_ne (by decide)]; unfold xHd; simp (decide := true) only [u2_same, u2_ne, u2_u2, upd_same, upd_ne, mE, u2_dyn, dyn_u2, dyn_hi, u2_hi, u2_hj, u2_dynj, u2_dd, u2_d0, u2_0d]
      have e47 : aVv (xHd bs c I1) (i + 1) 47 = I1 47 := by rw [aVv_ne (by decide)]; unfold xHd; simp (decide := true) only [u2_same, u2_ne, u2_u2, upd_same, upd_ne, mE, u2_dyn, dyn_u2, dyn_hi, u2_hi, u2_hj, u2_dynj, u2_dd, u2_d0, u2_0d]
      rw [e46, e47]
      exact z4 j hj
    · show f0 + (dl + xs.length - o) + 0 = _
      omega
  · rw [aVv_ne (by decide)]; unfold xHd; simp (decide := true) only [u2_same, u2_ne, u2_u2, upd_same, upd_ne, mE, u2_dyn, dyn_u2, dyn_hi, u2_hi, u2_hj, u2_dynj, u2_dd, u2_d0, u2_0d]
end SUM7
