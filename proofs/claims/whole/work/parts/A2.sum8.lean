/-! ===== drawing: the class reads sums, whole ===== -/
def XOut (b : Nat) (F : Nat → Option AE) (E : Nat → Option KD) (L : Nat → Nat → Int64) (P : Nat → Nat → Option Nat) (nx us : Nat) (z : ZX) (t : RW) (n la o f0 deep bs dl0 : Nat) (sh : List Int32 → Prop) (I : Nat → Nat → Int32) (run : Option (Int32 × AH)) (out : SOut) : Prop := match out with
  | .inl (c, j) => ∃ K, run = some (0, lay b F E (aF K c (pl t n j)) L P nx us) ∧ FXs bs dl0 I K
  | .inr (i, s) => ∃ K T u xs dl, run = p71 z b deep T u (lay b F E K L P nx us) ∧ deep < u ∧ T < i ∧ sh xs ∧ PX t n la o f0 bs xs i s K L dl ∧ dl0 ≤ dl ∧ FXs bs dl0 I K
section SUM8
variable {b : Nat} {F : Nat → Option AE} {D E : Nat → Option KD} {I : Nat → Nat → Int32} {L : Nat → Nat → Int64} {P : Nat → Nat → Option Nat} {nx us : Nat}
theorem XOut_tr {z : ZX} {t : RW} {n la o f0 deep bs bs2 dl0 dl2 : Nat} {sh : List Int32 → Prop} {I K : Nat → Nat → Int32} {run : Option (Int32 × AH)} {out : SOut} (h : XOut b F E L P nx us z t n la o f0 deep bs dl2 sh K run out) (hf : FXs bs dl0 I K) (hd : dl0 ≤ dl2) : XOut b F E L P nx us z t n la o f0 deep bs dl0 sh I run out := by
  cases out with
  | inl e =>
    obtain ⟨c, j⟩ := e
    obtain ⟨K2, h1, h2⟩ := h
    exact ⟨K2, h1, hf.trans h2 (Nat.le_refl _) hd⟩
  | inr q =>
    obtain ⟨i, s⟩ := q
    obtain ⟨K2, T, u, xs, dl, h1, h2, h3, h4, h5, h6, h7⟩ := h
    exact ⟨K2, T, u, xs, dl, h1, h2, h3, h4, h5, by omega, hf.trans h7 (Nat.le_refl _) hd⟩
theorem X_sum {z : ZX} {t : RW} {n la o f0 : Nat} (hz : GZ b F z) (hLA : LA t n la) (hla : la ≤ 400) (ho : o ≤ 118 + f0) : ∀ f, f ≤ 5000 → ∀ deep, deep ≤ 6 →
    (∀ (bs i : Nat) (s : SSt) (I : Nat → Nat → Int32) (dl T : Nat), mu la 0 i ≤ f → T ≤ i → PX t n la o f0 bs [] i s I L dl → bs ≤ 3 * deep → (bs = 0 ∨ rkV (I 51 (bs - 1)) < 1) → s.1 ≤ 120 → s.2.1 ≤ 2 * s.1 → XOut b F E L P nx us z t n la o f0 deep bs dl S0 I (p9 z b deep T (lay b F E I L P nx us)) (pS t n f 0 i deep s)) ∧
    (∀ (bs i : Nat) (s : SSt) (I : Nat → Nat → Int32) (dl T u : Nat) (xs : List Int32), mu la 1 i ≤ f → T < i → deep < u → S0 xs → PX t n la o f0 bs xs i s I L dl → bs ≤ 3 * deep → (bs = 0 ∨ rkV (I 51 (bs - 1)) < 1) → s.1 ≤ 120 → s.2.1 ≤ 2 * s.1 → XOut b F E L P nx us z t n la o f0 deep bs dl S0 I (p71 z b deep T u (lay b F E I L P nx us)) (pS t n f 1 i deep s)) ∧
    (∀ (bs i : Nat) (s : SSt) (I : Nat → Nat → Int32) (dl T : Nat), mu la 2 i ≤ f → T ≤ i → PX t n la o f0 bs [] i s I L dl → bs ≤ 3 * deep + 1 → (bs = 0 ∨ rkV (I 51 (bs - 1)) < 2) → s.1 ≤ 120 → s.2.1 ≤ 2 * s.1 → XOut b F E L P nx us z t n la o f0 deep bs dl S2 I (p9 z b deep T (lay b F E I L P nx us)) (pS t n f 2 i deep s)) ∧
    (∀ (bs i : Nat) (s : SSt) (I : Nat → Nat → Int32) (dl T u : Nat) (xs : List Int32), mu la 3 i ≤ f → T < i → deep < u → S2 xs → PX t n la o f0 bs xs i s I L dl → bs ≤ 3 * deep + 1 → (bs = 0 ∨ rkV (I 51 (bs - 1)) < 2) → s.1 ≤ 120 → s.2.1 ≤ 2 * s.1 → XOut b F E L P nx us z t n la o f0 deep bs dl S2 I (p71 z b deep T u (lay b F E I L P nx us)) (pS t n f 3 i deep s)) ∧
    (∀ (bs i : Nat) (s : SSt) (I : Nat → Nat → Int32) (dl T : Nat), mu la 4 i ≤ f → T ≤ i → PX t n la o f0 bs [] i s I L dl → bs ≤ 3 * deep + 2 → s.1 ≤ 120 → s.2.1 ≤ 2 * s.1 → XOut b F E L P nx us z t n la o f0 deep bs dl (fun xs => xs = []) I (p9 z b deep T (lay b F E I L P nx us)) (pS t n f 4 i deep s)) := by
  intro f
  induction f with
  | zero =>
    intro hf deep hd
    refine ⟨?_, ?_, ?_, ?_, ?_⟩
    · intro bs i s I dl T hm; unfold mu at hm; simp at hm
    · intro bs i s I dl T u xs hm; unfold mu at hm; simp at hm
    · intro bs i s I dl T hm; unfold mu at hm; simp at hm
    · intro bs i s I dl T u xs hm; unfold mu at hm; simp at hm
    · intro bs i s I dl T hm; unfold mu at hm; simp at hm
  | succ f ih =>
    intro hf deep hd
    obtain ⟨i0, i1, i2, i3, i4⟩ := ih (by omega) deep hd
    -- first a term or part, then more of them
    refine ⟨?_, ?_, ?_, ?_, ?_⟩
    · intro bs i s I dl T hm hT hP hbs hb hp hit
      have hi := hP.1.2.1
      unfold mu at hm
      simp at hm
      have h2 := i2 bs i s I dl T (by unfold mu; simp; omega) hT hP (by omega) (by rcases hb with q | q; exact Or.inl q; exact Or.inr (Int32.lt_trans q (by decide))) hp hit
      simp only [pS]
      cases hout : pS t n f 2 i deep s with
      | inl e =>
        obtain ⟨c, j⟩ := e
        rw [hout] at h2
        exact h2
      | inr q =>
        obtain ⟨i5, s5⟩ := q
        rw [hout] at h2
        obtain ⟨K, T2, u, xs, dl2, g1, g2, g3, g4, g5, g6, g7⟩ := h2
        have hbb := pS_b hLA f 2 i deep s i5 s5 hi hp hout
        have hgt := (hbb.2.2.2.2.2.2 (by omega)).1
        rw [g1]
        refine XOut_tr (bs2 := bs) (i1 bs i5 s5 K dl2 T2 u xs (by unfold mu; simp; omega) g3 g2 ⟨xs, [], g4, Or.inl rfl, by simp⟩ g5 hbs ?_ hbb.2.2.1 (by omega)) g7 g6
        rcases hb with q | q
        · exact Or.inl q
        · by_cases hb0 : bs = 0
          · exact Or.inl hb0
          · exact Or.inr (by rw [g7.2.2.2.2.2.1 (bs - 1) (by omega)]; exact q)
    · intro bs i s I dl T u xs hm hT hu hS hP hbs hb hp hit
      have hi := hP.1.2.1
      unfold mu at hm
      simp at hm
      simp only [pS]
      have hops := S0_op hS
      have goOn : ∀ (c x : Int32), isC t n i c → rkV c = 1 → c ≠ 41 → itV x 0 = c → (x = 4 ∨ x = 5) → XOut b F E L P nx us z t n la o f0 deep bs dl S0 I (p71 z b deep T u (lay b F E I L P nx us)) (andThen (pS t n f 2 (i + 1) deep s) fun i1 s1 => pS t n f 1 i1 deep (sPut s1 x 0)) := by
        intro c x hc hr h41 hx hx2
        have hil := isC_lt hLA hi hc
        obtain ⟨K, dl2, z1, z2, z3, z4, z5⟩ := X_op (b := b) (F := F) (E := E) (P := P) (nx := nx) (us := us) (z := z) (T := T) (u := u) c 1 hLA hP hc hr (by decide) h41 hops.2 hops.1 hb (by omega) ho hp hit (by omega) hu hd
        rw [z1]
        have h2 := i2 (bs + 1) (i + 1) s K dl2 (T + 1) (by unfold mu; simp; omega) (by omega) z2 (by omega) (Or.inr (by rw [show bs + 1 - 1 = bs by omega, z5, hr]; decide)) hp hit
        cases hout : pS t n f 2 (i + 1) deep s with
        | inl e =>
          obtain ⟨c', j⟩ := e
          rw [hout] at h2
          obtain ⟨K2, g1, g2⟩ := h2
          exact ⟨K2, g1, z4.trans g2 (by omega) z3⟩
        | inr q =>
          obtain ⟨i5, s5⟩ := q
          rw [hout] at h2
          obtain ⟨K2, T2, u2', xs2, dl3, g1, g2, g3, g4, g5, g6, g7⟩ := h2
          have hbb := pS_b hLA f 2 (i + 1) deep s i5 s5 (by omega) hp hout
          have hgt := hbb.2.2.2.2.2.2 (by omega)
          rw [g1]
          have hK51 : K2 51 bs = itV x 0 := by rw [g7.2.2.2.2.2.1 bs (by omega), z5, hx]
          have hfr : FXs bs dl I K2 := z4.trans g7 (by omega) z3
          refine XOut_tr (bs2 := bs) (i1 bs i5 (sPut s5 x 0) K2 dl3 T2 u2' (xs2 ++ [x]) (by unfold mu; simp; omega) g3 g2 ⟨xs2, [x], g4, Or.inr (by rcases hx2 with rfl | rfl; exact Or.inl rfl; exact Or.inr rfl), rfl⟩ (PX_put g5 hK51) hbs ?_ hbb.2.2.1 (show s5.2.1 + 1 ≤ 2 * s5.1 by omega)) hfr (by omega)
          rcases hb with q | q
          · exact Or.inl q
          · by_cases hb0 : bs = 0
            · exact Or.inl hb0
            · exact Or.inr (by rw [hfr.2.2.2.2.2.1 (bs - 1) (by omega)]; exact q)
      by_cases q1 : isC t n i 43
      · rw [if_pos (Or.inl q1), if_pos q1]
        exact goOn 43 4 q1 (by decide) (by decide) (by decide) (Or.inl rfl)
      · by_cases q2 : isC t n i 45
        · rw [if_pos (Or.inr q2), if_neg q1]
          exact goOn 45 5 q2 (by decide) (by decide) (by decide) (Or.inr rfl)
        · rw [if_neg (by rintro (q | q); exact q1 q; exact q2 q)]
          exact ⟨I, T, u, xs, dl, rfl, hu, hT, hS, hP, Nat.le_refl _, FXs.refl⟩
    · intro bs i s I dl T hm hT hP hbs hb hp hit
      have hi := hP.1.2.1
      unfold mu at hm
      simp at hm
      have h2 := i4 bs i s I dl T (by unfold mu; simp; omega) hT hP (by omega) hp hit
      simp only [pS]
      cases hout : pS t n f 4 i deep s with
      | inl e =>
        obtain ⟨c, j⟩ := e
        rw [hout] at h2
        exact h2
      | inr q =>
        obtain ⟨i5, s5⟩ := q
        rw [hout] at h2
        obtain ⟨K, T2, u, xs, dl2, g1, g2, g3, g4, g5, g6, g7⟩ := h2
        have hbb := pS_b hLA f 4 i deep s i5 s5 hi hp hout
        have hgt := (hbb.2.2.2.2.2.2 (by omega)).1
        rw [g1]
        refine XOut_tr (bs2 := bs) (i3 bs i5 s5 K dl2 T2 u xs (by unfold mu; simp; omega) g3 g2 (Or.inl g4) g5 hbs ?_ hbb.2.2.1 (by omega)) g7 g6
        rcases hb with q | q
        · exact Or.inl q
        · by_cases hb0 : bs = 0
          · exact Or.inl hb0
          · exact Or.inr (by rw [g7.2.2.2.2.2.1 (bs - 1) (by omega)]; exact q)
    · intro bs i s I dl T u xs hm hT hu hS hP hbs hb hp hit
      have hi := hP.1.2.1
      unfold mu at hm
      simp at hm
      simp only [pS]
      have hops := S2_op hS
      have goOn : ∀ (c x : Int32), isC t n i c → rkV c = 2 → c ≠ 41 → itV x 0 = c → (x = 6 ∨ x = 7) → XOut b F E L P nx us z t n la o f0 deep bs dl S2 I (p71 z b deep T u (lay b F E I L P nx us)) (andThen (pS t n f 4 (i + 1) deep s) fun i1 s1 => pS t n f 3 i1 deep (sPut s1 x 0)) := by
        intro c x hc hr h41 hx hx2
        have hil := isC_lt hLA hi hc
        obtain ⟨K, dl2, z1, z2, z3, z4, z5⟩ := X_op (b := b) (F := F) (E := E) (P := P) (nx := nx) (us := us) (z := z) (T := T) (u := u) c 2 hLA hP hc hr (by decide) h41 hops.2 (by have := hops.1; omega) hb (by omega) ho hp hit (by omega) hu hd
        rw [z1]
        have h2 := i4 (bs + 1) (i + 1) s K dl2 (T + 1) (by unfold mu; simp; omega) (by omega) z2 (by omega) hp hit
        cases hout : pS t n f 4 (i + 1) deep s with
        | inl e =>
          obtain ⟨c', j⟩ := e
          rw [hout] at h2
          obtain ⟨K2, g1, g2⟩ := h2
          exact ⟨K2, g1, z4.trans g2 (by omega) z3⟩
        | inr q =>
          obtain ⟨i5, s5⟩ := q
          rw [hout] at h2
          obtain ⟨K2, T2, u2', xs2, dl3, g1, g2, g3, g4, g5, g6, g7⟩ := h2
          have hbb := pS_b hLA f 4 (i + 1) deep s i5 s5 (by omega) hp hout
          have hgt := hbb.2.2.2.2.2.2 (by omega)
          rw [g1]
          have hK51 : K2 51 bs = itV x 0 := by rw [g7.2.2.2.2.2.1 bs (by omega), z5, hx]
          have hfr : FXs bs dl I K2 := z4.trans g7 (by omega) z3
          subst g4
          refine XOut_tr (bs2 := bs) (i3 bs i5 (sPut s5 x 0) K2 dl3 T2 u2' ([] ++ [x]) (by unfold mu; simp; omega) g3 g2 (Or.inr (by rcases hx2 with rfl | rfl; exact Or.inl rfl; exact Or.inr rfl)) (PX_put g5 hK51) hbs ?_ hbb.2.2.1 (show s5.2.1 + 1 ≤ 2 * s5.1 by omega)) hfr (by omega)
          rcases hb with q | q
          · exact Or.inl q
          · by_cases hb0 : bs = 0
            · exact Or.inl hb0
            · exact Or.inr (by rw [hfr.2.2.2.2.2.1 (bs - 1) (by omega)]; exact q)
      by_cases q1 : isC t n i 42
      · rw [if_pos (Or.inl q1), if_pos q1]
        exact goOn 42 6 q1 (by decide) (by decide) (by decide) (Or.inl rfl)
      · by_cases q2 : isC t n i 47
        · rw [if_pos (Or.inr q2), if_neg q1]
          exact goOn 47 7 q2 (by decide) (by decide) (by decide) (Or.inr rfl)
        · rw [if_neg (by rintro (q | q); exact q1 q; exact q2 q)]
          exact ⟨I, T, u, xs, dl, rfl, hu, hT, hS, hP, Nat.le_refl _, FXs.refl⟩
    · intro bs i s I dl T hm hT hP hbs hp hit
      obtain ⟨h1, h2, h3, h4, h5, h6⟩ := hP
      have hi := h1.2.1
      have h6' : f0 + (dl - o) = s.2.1 := h6
      have hsg := X_sign (b := b) (F := F) (E := E) (P := P) (nx := nx) (us := us) h1.1 h1.2.1 h1.2.2.1
      have hfl := fun c => X_failF (b := b) (F := F) (E := E) (P := P) (nx := nx) (us := us) c h1.1 h1.2.1 h1.2.2.1
      simp only [pS]
      unfold mu at hm
      simp at hm
      by_cases hT4 : T = 400
      · -- no byte is left
        have hil : i = la := by omega
        have hbad : kd t n (pl t n i) = 0 ∨ kd t n (pl t n i) = 1 := by rw [hil]; exact hLA.2
        have hnc : ¬ isC t n i 40 := fun q => by have := q.1; omega
        have hE : ptE t n i = 1 := by unfold ptE; rw [if_neg (by omega), if_neg (by omega)]
        rw [if_neg hnc, if_pos (by rw [hE]; decide), hE]
        refine ⟨I, ?_, FXs.refl⟩
        unfold p9
        rw [hT4, show FU - 400 = (FU - 401) + 1 from rfl]
        have e4 : ((400 : Int32) ≤ Int32.ofNat 400) = True := by decide
        simp (decide := true) only [f_X2_readSum_9, e4, hfl 1, isO_s, gI_s, gA_s, gL_s, pI_s, pZ_s, pL_s, aI_s, aL_s, aN_s, aQ_s, sI_s, sL_s, cr, LNs, Option.map_some, Option.map_none, Option.bind_some, b2, tr, lt, if_true, if_false, ckZ, X_within, M_in, inR_z, X_refuse, X_tell, X_deny, X_grant, M_refused, M_denied, M_done, M_granted, u2_same, u2_ne, u2_u2, upd_same, upd_ne, aW0, ixR_z, ixR_1, M_isWall, M_isPainter, M_isWork, X_has4, X_has10, X_at, or_false, false_or, or_true, true_or, not_true, not_false_iff, Option.isSome_some, isO_d, gI_d, gA_d, pI_d, ne_eq, not_false_eq_true, u2_hi, u2_hj, u2_dyn, u2_dynj, Nat.reduceAdd, mX_r, mX_rD, mX_rDj, mM_r, mX_u, mX_uM, mX_uD, mX_uDj, mM_u, mM_uX, mM_uD, mM_uDj, u2_dd, u2_d0, u2_0d]
      · have hFU : FU - T = (FU - T - 1) + 1 := by unfold FU; omega
        have e4 : ((400 : Int32) ≤ Int32.ofNat T) = False := oN_leF (c := 400) (by omega) (by omega)
        have hsc : (sgn t n i = 40) = isC t n i 40 := sgn_c (by decide)
        by_cases c40 : isC t n i 40
        · rw [if_pos c40]
          have c40T : isC t n i 40 = True := eq_true c40
          have hil := isC_lt hLA hi c40
          by_cases h66 : deep = 6
          · rw [if_pos h66]
            refine ⟨I, ?_, FXs.refl⟩
            have e6 : (Int32.ofNat deep < 6) = False := by rw [h66]; decide
            unfold p9
            rw [hFU]
            simp (decide := true) only [f_X2_readSum_9, e4, hsg, hsc, c40T, e6, hfl 4, isO_s, gI_s, gA_s, gL_s, pI_s, pZ_s, pL_s, aI_s, aL_s, aN_s, aQ_s, sI_s, sL_s, cr, LNs, Option.map_some, Option.map_none, Option.bind_some, b2, tr, lt, if_true, if_false, ckZ, X_within, M_in, inR_z, X_refuse, X_tell, X_deny, X_grant, M_refused, M_denied, M_done, M_granted, u2_same, u2_ne, u2_u2, upd_same, upd_ne, aW0, ixR_z, ixR_1, M_isWall, M_isPainter, M_isWork, X_has4, X_has10, X_at, or_false, false_or, or_true, true_or, not_true, not_false_iff, Option.isSome_some, isO_d, gI_d, gA_d, pI_d, ne_eq, not_false_eq_true, u2_hi, u2_hj, u2_dyn, u2_dynj, Nat.reduceAdd, mX_r, mX_rD, mX_rDj, mM_r, mX_u, mX_uM, mX_uD, mX_uDj, mM_u, mM_uX, mM_uD, mM_uDj, u2_dd, u2_d0, u2_0d]
          · rw [if_neg h66]
            obtain ⟨j0, -⟩ := ih (by omega) (deep + 1) (by omega)
            have e6 : (Int32.ofNat deep < 6) = True := eq_true ((oN_lt (c := 6) (by omega) (by omega)).mpr (by omega))
            have h7 : I 44 7 = Int32.ofNat bs := h1.2.2.2.2.2.1
            have hho := X_hold (b := b) (F := F) (E := E) (L := L) (P := P) (nx := nx) (us := us) (I := I) 40 h7 (by omega)
            have h1' : XSt t n la i s.1 bs dl I L := h1
            have z5 : XSt t n la i s.1 (bs + 1) dl (xHd bs 40 I) L := h1'.hd
            have hav := X_advV (b := b) (F := F) (E := E) (P := P) (nx := nx) (us := us) z5.1 hil z5.2.2.1
            have hrun : p9 z b deep T (lay b F E I L P nx us) = p9 z b (deep + 1) (T + 1) (lay b F E (aVv (xHd bs 40 I) (i + 1)) L P nx us) := by
              unfold p9
              rw [hFU, show FU - (T + 1) = FU - T - 1 from Nat.sub_sub .. ▸ rfl]
              simp (decide := true) only [f_X2_readSum_9, f_X2_readSum_183, e4, hsg, hsc, c40T, e6, hho, hav, oN_succ, isO_s, gI_s, gA_s, gL_s, pI_s, pZ_s, pL_s, aI_s, aL_s, aN_s, aQ_s, sI_s, sL_s, cr, LNs, Option.map_some, Option.map_none, Option.bind_some, b2, tr, lt, if_true, if_false, ckZ, X_within, M_in, inR_z, X_refuse, X_tell, X_deny, X_grant, M_refused, M_denied, M_done, M_granted, u2_same, u2_ne, u2_u2, upd_same, upd_ne, aW0, ixR_z, ixR_1, M_isWall, M_isPainter, M_isWork, X_has4, X_has10, X_at, or_false, false_or, or_true, true_or, not_true, not_false_iff, Option.isSome_some, isO_d, gI_d, gA_d, pI_d, ne_eq, not_false_eq_true, u2_hi, u2_hj, u2_dyn, u2_dynj, Nat.reduceAdd, mX_r, mX_rD, mX_rDj, mM_r, mX_u, mX_uM, mX_uD, mX_uDj, mM_u, mM_uX, mM_uD, mM_uDj, u2_dd, u2_d0, u2_0d]
            rw [hrun]
            have k51 : aVv (xHd bs 40 I) (i + 1) 51 = upd (I 51) bs 40 := by rw [aVv_ne (by decide)]; unfold xHd; simp (decide := true) only [u2_same, u2_ne, u2_u2, upd_same, upd_ne, mE, u2_dyn, dyn_u2, dyn_hi, u2_hi, u2_hj, u2_dynj, u2_dd, u2_d0, u2_0d]
            have k46 : aVv (xHd bs 40 I) (i + 1) 46 = I 46 := by rw [aVv_ne (by decide)]; unfold xHd; simp (decide := true) only [u2_same, u2_ne, u2_u2, upd_same, upd_ne, mE, u2_dyn, dyn_u2, dyn_hi, u2_hi, u2_hj, u2_dynj, u2_dd, u2_d0, u2_0d]
            have k47 : aVv (xHd bs 40 I) (i + 1) 47 = I 47 := by rw [aVv_ne (by decide)]; unfold xHd; simp (decide := true) only [u2_same, u2_ne, u2_u2, upd_same, upd_ne, mE, u2_dyn, dyn_u2, dyn_hi, u2_hi, u2_hj, u2_dynj, u2_dd, u2_d0, u2_0d]
            have hf0 : FXs bs dl I (aVv (xHd bs 40 I) (i + 1)) := (FXs_H (Nat.le_refl _)).trans FXs_V (Nat.le_refl _) (Nat.le_refl _)
            have g0 := j0 (bs + 1) (i + 1) s (aVv (xHd bs 40 I) (i + 1)) dl (T + 1) (by unfold mu; simp; omega) (by omega) ⟨z5.adv hil, h2, trivial, (by intro j hj; rw [k46, k47]; exact h4 j hj), trivial, h6⟩ (by omega) (Or.inr (by rw [k51, show bs + 1 - 1 = bs by omega, upd_same]; decide)) hp hit
            cases hout : pS t n f 0 (i + 1) (deep + 1) s with
            | inl e =>
              obtain ⟨c', j⟩ := e
              rw [hout] at g0
              obtain ⟨K2, g1, g2⟩ := g0
              exact ⟨K2, g1, hf0.trans g2 (by omega) (Nat.le_refl _)⟩
            | inr q =>
              obtain ⟨i5, s5⟩ := q
              rw [hout] at g0
              obtain ⟨K, T2, u, xs, dl2, g1, g2, g3, g4, g5, g6, g7⟩ := g0
              have hbb := pS_b hLA f 0 (i + 1) (deep + 1) s i5 s5 (by omega) hp hout
              have hgt := hbb.2.2.2.2.2.2 (by omega)
              obtain ⟨w1, w2, w3, w4, w5, w6⟩ := g5
              have hops := S0_op g4
              have hK51 : K 51 bs = 40 := by rw [g7.2.2.2.2.2.1 bs (by omega), k51, upd_same]
              obtain ⟨J, y1, y2, y3, y4⟩ := X_settle (b := b) (F := F) (E := E) (L := L) (P := P) (nx := nx) (us := us) 1 (by decide) xs dl2 K FU (by unfold FU; omega) w1 (by omega) (by omega) hops.2 (Or.inr (by rw [show bs + 1 - 1 = bs by omega, hK51]; decide)) w3 w2 w4 w5
              have hset : f_X2_settleSigns (ad b 44) 1 (lay b F E K L P nx us) = some (lay b F E J L P nx us) := by
                unfold f_X2_settleSigns
                rw [isO_s (by decide), if_pos rfl]
                exact y1
              have hsg5 := X_sign (b := b) (F := F) (E := E) (P := P) (nx := nx) (us := us) w1.1 w1.2.1 w1.2.2.1
              have hsc5 : (sgn t n i5 = 41) = isC t n i5 41 := sgn_c (by decide)
              have hfJ : FXs bs dl I J := (hf0.trans g7 (by omega) (Nat.le_refl _)).trans y3 (by omega) (by omega)
              obtain ⟨u, rfl⟩ : ∃ e, u = e + 1 := ⟨u - 1, by omega⟩
              have ed : (Int32.ofNat (deep + 1) ≤ 0) = False := eq_false (fun q => by have := (oN_le (c := 0) (by omega) (by omega)).mp q; omega)
              have edn : Int32.ofNat (deep + 1) + (-1) = Int32.ofNat deep := by rw [show Int32.ofNat (deep + 1) + (-1) = Int32.ofNat (deep + 1) - 1 by grind, oN_pred]
              show XOut b F E L P nx us z t n la o f0 deep bs dl (fun xs => xs = []) I (p9 z b (deep + 1) (T + 1) (lay b F E (aVv (xHd bs 40 I) (i + 1)) L P nx us)) (if isC t n i5 41 then .inr (i5 + 1, s5) else .inl (1, i5))
              rw [g1]
              by_cases c41 : isC t n i5 41
              · rw [if_pos c41]
                have c41T : isC t n i5 41 = True := eq_true c41
                have hil5 := isC_lt hLA hbb.1 c41
                have y7 : J 44 7 = Int32.ofNat (bs + 1) := y2.2.2.2.2.2.1
                have hmx : mxI 0 (Int32.ofNat (bs + 1) - 1) = Int32.ofNat bs := by
                  rw [oN_pred]
                  unfold mxI
                  by_cases hb0 : bs = 0
                  · subst hb0; rfl
                  · have hlt : (0 : Int32) < Int32.ofNat bs := (oN_lt (a := 0) (c := bs) (by omega) (by omega)).mpr (by omega)
                    rw [if_pos hlt]
                have y8 : XSt t n la i5 s5.1 bs (dl2 + xs.length) (xK J 7 (Int32.ofNat bs)) L := y2.k7
                have hpi : pI 2 (lay b F E J L P nx us) (ad b 44) 7 (Int32.ofNat bs) = some (lay b F E (xK J 7 (Int32.ofNat bs)) L P nx us) := by unfold xK; simp (decide := true) only [isO_s, gI_s, gA_s, gL_s, pI_s, pZ_s, pL_s, aI_s, aL_s, aN_s, aQ_s, sI_s, sL_s, cr, LNs, Option.map_some, Option.map_none, Option.bind_some, b2, tr, lt, if_true, if_false, ckZ, X_within, M_in, inR_z, X_refuse, X_tell, X_deny, X_grant, M_refused, M_denied, M_done, M_granted, u2_same, u2_ne, u2_u2, upd_same, upd_ne, aW0, ixR_z, ixR_1, M_isWall, M_isPainter, M_isWork, X_has4, X_has10, X_at, or_false, false_or, or_true, true_or, not_true, not_false_iff, Option.isSome_some, isO_d, gI_d, gA_d, pI_d, ne_eq, not_false_eq_true, u2_hi, u2_hj, u2_dyn, u2_dynj, Nat.reduceAdd, mX_r, mX_rD, mX_rDj, mM_r, mX_u, mX_uM, mX_uD, mX_uDj, mM_u, mM_uX, mM_uD, mM_uDj, u2_dd, u2_d0, u2_0d]
                have hav5 := X_advV (b := b) (F := F) (E := E) (P := P) (nx := nx) (us := us) y8.1 hil5 y8.2.2.1
                refine ⟨aVv (xK J 7 (Int32.ofNat bs)) (i5 + 1), T2, u, [], dl2 + xs.length, ?_, by omega, by omega, rfl, ⟨y8.adv hil5, by omega, trivial, ?_, trivial, ?_⟩, by omega, (hfJ.trans (FXs_K (Or.inr rfl)) (Nat.le_refl _) (Nat.le_refl _)).trans FXs_V (Nat.le_refl _) (Nat.le_refl _)⟩
                · unfold p71
                  simp (decide := true) only [f_X2_readSum_71, ed, hsg5, hsc5, c41T, hset, y7, hmx, hpi, hav5, edn, isO_s, gI_s, gA_s, gL_s, pZ_s, pL_s, aI_s, aL_s, aN_s, aQ_s, sI_s, sL_s, cr, LNs, Option.map_some, Option.map_none, Option.bind_some, b2, tr, lt, if_true, if_false, ckZ, X_within, M_in, inR_z, X_refuse, X_tell, X_deny, X_grant, M_refused, M_denied, M_done, M_granted, u2_same, u2_ne, u2_u2, upd_same, upd_ne, aW0, ixR_z, ixR_1, M_isWall, M_isPainter, M_isWork, X_has4, X_has10, X_at, or_false, false_or, or_true, true_or, not_true, not_false_iff, Option.isSome_some, isO_d, gI_d, gA_d, pI_d, ne_eq, not_false_eq_true, u2_hi, u2_hj, u2_dyn, u2_dynj, Nat.reduceAdd, mX_r, mX_rD, mX_rDj, mM_r, mX_u, mX_uM, mX_uD, mX_uDj, mM_u, mM_uX, mM_uD, mM_uDj, u2_dd, u2_d0, u2_0d]
                · rw [show dl2 + xs.length - o = dl2 - o + xs.length by omega]
                  intro j hj
                  have e46 : aVv (xK J 7 (Int32.ofNat bs)) (i5 + 1) 46 = J 46 := by rw [aVv_ne (by decide)]; unfold xK; simp (decide := true) only [u2_same, u2_ne, u2_u2, upd_same, upd_ne, mE, u2_dyn, dyn_u2, dyn_hi, u2_hi, u2_hj, u2_dynj, u2_dd, u2_d0, u2_0d]
                  have e47 : aVv (xK J 7 (Int32.ofNat bs)) (i5 + 1) 47 = J 47 := by rw [aVv_ne (by decide)]; unfold xK; simp (decide := true) only [u2_same, u2_ne, u2_u2, upd_same, upd_ne, mE, u2_dyn, dyn_u2, dyn_hi, u2_hi, u2_hj, u2_dynj, u2_dd, u2_d0, u2_0d]
                  rw [e46, e47]
                  exact y4 j hj
                · show f0 + (dl2 + xs.length - o) + 0 = _
                  omega
              · rw [if_neg c41]
                have c41T : isC t n i5 41 = False := eq_false c41
                obtain ⟨e1, e2, e3, e5⟩ := (pS_e f 0 (i + 1) (deep + 1) s i5 s5 hout).2 (Or.inl rfl)
                have hrk := sgn_rk e1 e2 e3 e5
                have hflJ := X_failF (b := b) (F := F) (E := E) (P := P) (nx := nx) (us := us) 1 y2.1 y2.2.1 y2.2.2.1
                have edz : (Int32.ofNat (deep + 1) = 0) = False := oN_ne (c := 0) (by omega) (by omega) (by omega)
                refine ⟨J, ?_, hfJ⟩
                unfold p71
                simp (decide := true) only [f_X2_readSum_71, f_X2_readSum_119, f_X2_readSum_159, ed, hsg5, hsc5, c41T, X_rank, hrk, hset, edz, hflJ, isO_s, gI_s, gA_s, gL_s, pI_s, pZ_s, pL_s, aI_s, aL_s, aN_s, aQ_s, sI_s, sL_s, cr, LNs, Option.map_some, Option.map_none, Option.bind_some, b2, tr, lt, if_true, if_false, ckZ, X_within, M_in, inR_z, X_refuse, X_tell, X_deny, X_grant, M_refused, M_denied, M_done, M_granted, u2_same, u2_ne, u2_u2, upd_same, upd_ne, aW0, ixR_z, ixR_1, M_isWall, M_isPainter, M_isWork, X_has4, X_has10, X_at, or_false, false_or, or_true, true_or, not_true, not_false_iff, Option.isSome_some, isO_d, gI_d, gA_d, pI_d, ne_eq, not_false_eq_true, u2_hi, u2_hj, u2_dyn, u2_dynj, Nat.reduceAdd, mX_r, mX_rD, mX_rDj, mM_r, mX_u, mX_uM, mX_uD, mX_uDj, mM_u, mM_uX, mM_uD, mM_uDj, u2_dd, u2_d0, u2_0d]
        · rw [if_neg c40]
          have c40T : isC t n i 40 = False := eq_false c40
          have h1' : XSt t n la i s.1 bs dl I L := h1
          have hpart := X_part (b := b) (F := F) (E := E) (P := P) (nx := nx) (us := us) hz hLA h1' hp (by intro q; omega)
          by_cases hE : ptE t n i ≠ 0
          · rw [if_pos hE] at hpart ⊢
            refine ⟨I, ?_, FXs.refl⟩
            unfold p9
            rw [hFU]
            simp (decide := true) only [f_X2_readSum_9, e4, hsg, hsc, c40T, hpart, isO_s, gI_s, gA_s, gL_s, pI_s, pZ_s, pL_s, aI_s, aL_s, aN_s, aQ_s, sI_s, sL_s, cr, LNs, Option.map_some, Option.map_none, Option.bind_some, b2, tr, lt, if_true, if_false, ckZ, X_within, M_in, inR_z, X_refuse, X_tell, X_deny, X_grant, M_refused, M_denied, M_done, M_granted, u2_same, u2_ne, u2_u2, upd_same, upd_ne, aW0, ixR_z, ixR_1, M_isWall, M_isPainter, M_isWork, X_has4, X_has10, X_at, or_false, false_or, or_true, true_or, not_true, not_false_iff, Option.isSome_some, isO_d, gI_d, gA_d, pI_d, ne_eq, not_false_eq_true, u2_hi, u2_hj, u2_dyn, u2_dynj, Nat.reduceAdd, mX_r, mX_rD, mX_rDj, mM_r, mX_u, mX_uM, mX_uD, mX_uDj, mM_u, mM_uX, mM_uD, mM_uDj, u2_dd, u2_d0, u2_0d]
          · rw [if_neg hE] at hpart ⊢
            by_cases hp2 : s.1 = 120
            · rw [if_pos hp2] at hpart ⊢
              refine ⟨I, ?_, FXs.refl⟩
              unfold p9
              rw [hFU]
              simp (decide := true) only [f_X2_readSum_9, e4, hsg, hsc, c40T, hpart, isO_s, gI_s, gA_s, gL_s, pI_s, pZ_s, pL_s, aI_s, aL_s, aN_s, aQ_s, sI_s, sL_s, cr, LNs, Option.map_some, Option.map_none, Option.bind_some, b2, tr, lt, if_true, if_false, ckZ, X_within, M_in, inR_z, X_refuse, X_tell, X_deny, X_grant, M_refused, M_denied, M_done, M_granted, u2_same, u2_ne, u2_u2, upd_same, upd_ne, aW0, ixR_z, ixR_1, M_isWall, M_isPainter, M_isWork, X_has4, X_has10, X_at, or_false, false_or, or_true, true_or, not_true, not_false_iff, Option.isSome_some, isO_d, gI_d, gA_d, pI_d, ne_eq, not_false_eq_true, u2_hi, u2_hj, u2_dyn, u2_dynj, Nat.reduceAdd, mX_r, mX_rD, mX_rDj, mM_r, mX_u, mX_uM, mX_uD, mX_uDj, mM_u, mM_uX, mM_uD, mM_uDj, u2_dd, u2_d0, u2_0d]
            · rw [if_neg hp2] at hpart ⊢
              have hE0 : ptE t n i = 0 := Classical.byContradiction hE
              have hil : i < la := LA_lt hLA hi (by rcases ptE_kd hE0 with q | q <;> omega) (by rcases ptE_kd hE0 with q | q <;> omega)
              have e10 : ((1 : Int32) = 0) = False := by decide
              have hX3 : XSt t n la i (s.1 + 1) bs (dl + 1) (xPt dl (ptS t n i + 1) (pxV t n i) (xK I 3 (Int32.ofNat (s.1 + 1)))) L := h1'.k3.put
              have k46 : xPart t n i s.1 dl I 46 = upd (I 46) dl (ptS t n i + 1) := by unfold xPart; rw [aVv_ne (by decide), xPt_r.2.1]; unfold xK; simp (decide := true) only [u2_same, u2_ne, u2_u2, upd_same, upd_ne, mE, u2_dyn, dyn_u2, dyn_hi, u2_hi, u2_hj, u2_dynj, u2_dd, u2_d0, u2_0d]
              have k47 : xPart t n i s.1 dl I 47 = upd (I 47) dl (pxV t n i) := by unfold xPart; rw [aVv_ne (by decide), xPt_r.2.2.1]; unfold xK; simp (decide := true) only [u2_same, u2_ne, u2_u2, upd_same, upd_ne, mE, u2_dyn, dyn_u2, dyn_hi, u2_hi, u2_hj, u2_dynj, u2_dd, u2_d0, u2_0d]
              refine ⟨xPart t n i s.1 dl I, T, FU, [], dl + 1, ?_, by unfold FU; omega, by omega, rfl, ⟨hX3.adv hil, by omega, trivial, ?_, trivial, ?_⟩, by omega, ((FXs_K (Or.inl rfl)).trans (FXs_P (ptS_f (t := t) (n := n) (i := i)) (pxV_VL (t := t) (n := n) (i := i)) (Nat.le_refl _)) (Nat.le_refl _) (Nat.le_refl _)).trans FXs_V (Nat.le_refl _) (Nat.le_refl _)⟩
              · unfold p9 p71
                rw [hFU]
                simp (decide := true) only [f_X2_readSum_9, e4, hsg, hsc, c40T, hpart, e10, isO_s, gI_s, gA_s, gL_s, pI_s, pZ_s, pL_s, aI_s, aL_s, aN_s, aQ_s, sI_s, sL_s, cr, LNs, Option.map_some, Option.map_none, Option.bind_some, b2, tr, lt, if_true, if_false, ckZ, X_within, M_in, inR_z, X_refuse, X_tell, X_deny, X_grant, M_refused, M_denied, M_done, M_granted, u2_same, u2_ne, u2_u2, upd_same, upd_ne, aW0, ixR_z, ixR_1, M_isWall, M_isPainter, M_isWork, X_has4, X_has10, X_at, or_false, false_or, or_true, true_or, not_true, not_false_iff, Option.isSome_some, isO_d, gI_d, gA_d, pI_d, ne_eq, not_false_eq_true, u2_hi, u2_hj, u2_dyn, u2_dynj, Nat.reduceAdd, mX_r, mX_rD, mX_rDj, mM_r, mX_u, mX_uM, mX_uD, mX_uDj, mM_u, mM_uX, mM_uD, mM_uDj, u2_dd, u2_d0, u2_0d]
                rfl
              · rw [show dl + 1 - o = dl - o + 1 by omega]
                intro j hj
                show xPart t n i s.1 dl I 46 (o + j) = itD (upd s.2.2.1 s.2.1 (ptS t n i) (f0 + j)) ∧ xPart t n i s.1 dl I 47 (o + j) = itV (upd s.2.2.1 s.2.1 (ptS t n i) (f0 + j)) (upd s.2.2.2 s.2.1 (ptV t n i) (f0 + j))
                rw [k46, k47]
                by_cases hj2 : j = dl - o
                · subst hj2
                  rw [show o + (dl - o) = dl by omega, h6', upd_same, upd_same, upd_same, upd_same, pt_it]
                  exact ⟨rfl, rfl⟩
                · rw [upd_ne (by omega), upd_ne (by omega), upd_ne (by omega), upd_ne (by omega)]
                  exact h4 j (by omega)
              · show f0 + (dl + 1 - o) + 0 = s.2.1 + 1
                omega
end SUM8
