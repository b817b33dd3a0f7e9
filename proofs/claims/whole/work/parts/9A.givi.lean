/-! ===== give: one step of the searches ===== -/
def UvB (np at0 u : Nat) (t : RW) : Prop := ∀ p, p < np → (u.testBit p = true ↔ ∃ j, j < at0 ∧ t j = Int32.ofNat p)
theorem TRd_cg {np at0 : Nat} {t t' : RW} (h : ∀ j, j < at0 → t' j = t j) (hT : TRd np at0 t) : TRd np at0 t' := fun i hi => by rw [h i hi]; exact hT i hi
theorem UB_cg {np at0 u : Nat} {t t' : RW} (h : ∀ j, j < at0 → t' j = t j) (hU : UvB np at0 u t) : UvB np at0 u t' := by
  intro p hp
  rw [hU p hp]
  constructor
  · rintro ⟨j, h1, h2⟩
    exact ⟨j, h1, (h j h1).trans h2⟩
  · rintro ⟨j, h1, h2⟩
    exact ⟨j, h1, (h j h1).symm.trans h2⟩
theorem TRd_no {np at0 : Nat} {t : RW} (hT : TRd np at0 t) : TRd np (at0 + 1) (upd t at0 (-2)) := by
  intro i hi
  by_cases h : i = at0
  · subst h; exact Or.inl (upd_same _ _ _)
  · rw [upd_ne h]; exact hT i (by omega)
theorem TRd_ch {np at0 p : Nat} {t : RW} (hp : p < np) (hT : TRd np at0 t) : TRd np (at0 + 1) (upd t at0 (Int32.ofNat p)) := by
  intro i hi
  by_cases h : i = at0
  · subst h; exact Or.inr ⟨p, hp, upd_same _ _ _⟩
  · rw [upd_ne h]; exact hT i (by omega)
theorem UB_no {np at0 u : Nat} {t : RW} (hp1 : np ≤ 10) (hU : UvB np at0 u t) : UvB np (at0 + 1) u (upd t at0 (-2)) := by
  intro p hp
  rw [hU p hp]
  constructor
  · rintro ⟨j, h1, h2⟩
    exact ⟨j, by omega, by rw [upd_ne (by omega)]; exact h2⟩
  · rintro ⟨j, h1, h2⟩
    by_cases h : j = at0
    · subst h
      rw [upd_same] at h2
      exact absurd h2.symm (oN_m12 p (by omega)).1
    · rw [upd_ne h] at h2
      exact ⟨j, by omega, h2⟩
theorem UB_ch {np at0 u i : Nat} {t : RW} (hp1 : np ≤ 10) (hi : i < np) (hU : UvB np at0 u t) : UvB np (at0 + 1) (u ||| 2 ^ i) (upd t at0 (Int32.ofNat i)) := by
  intro p hp
  rw [tb_or, Bool.or_eq_true, hU p hp, decide_eq_true_eq]
  constructor
  · rintro (⟨j, h1, h2⟩ | h)
    · exact ⟨j, by omega, by rw [upd_ne (by omega)]; exact h2⟩
    · subst h
      exact ⟨at0, by omega, upd_same _ _ _⟩
  · rintro ⟨j, h1, h2⟩
    by_cases h : j = at0
    · subst h
      rw [upd_same] at h2
      exact Or.inr ((oN_eq (by omega) (by omega)).mp h2)
    · rw [upd_ne h] at h2
      exact Or.inl ⟨j, by omega, h2⟩
def okS (cn : Nat → Nat → Prop) (np : Nat) (t m85 m111 : RW) (ak : Nat → Nat) (at0 i : Nat) : Prop := cn at0 i ∧ ¬ ∃ j, 0 ≤ j ∧ j < at0 ∧ badT np t m85 m111 ak at0 i j
theorem bad_cg {np at0 i j : Nat} {t t' m85 m111 : RW} {ak : Nat → Nat} (h : t' j = t j) : badT np t' m85 m111 ak at0 i j ↔ badT np t m85 m111 ak at0 i j := by
  unfold badT
  rw [h]
theorem okS_cg {cn : Nat → Nat → Prop} {np at0 i : Nat} {t t' m85 m111 : RW} {ak : Nat → Nat} (h : ∀ j, j < at0 → t' j = t j) : okS cn np t' m85 m111 ak at0 i ↔ okS cn np t m85 m111 ak at0 i := by
  unfold okS
  constructor
  · rintro ⟨h1, h2⟩
    exact ⟨h1, fun ⟨j, j0, j1, j2⟩ => h2 ⟨j, j0, j1, (bad_cg (h j j1)).mpr j2⟩⟩
  · rintro ⟨h1, h2⟩
    exact ⟨h1, fun ⟨j, j0, j1, j2⟩ => h2 ⟨j, j0, j1, (bad_cg (h j j1)).mp j2⟩⟩
/-- what is liked and the works as numbers, against the worths -/
def GvW (n np : Nat) (cn : Nat → Nat → Prop) (lN : Nat → Nat → Nat) (wN : Nat → Nat) (W : Nat → Nat → Int32) : Prop := (∀ p, p < np → wN p ≤ 40) ∧ ∀ a p, a < n → p < np → lN a p ≤ 1590 ∧ (cn a p → 1 ≤ lN a p ∧ W a p = Int32.ofNat (64 * lN a p - wN p)) ∧ (¬ cn a p → W a p = 0)
theorem GW_pos {n np a p : Nat} {cn : Nat → Nat → Prop} {lN : Nat → Nat → Nat} {wN : Nat → Nat} {W : Nat → Nat → Int32} (h : GvW n np cn lN wN W) (ha : a < n) (hp : p < np) : (W a p ≤ 0) ↔ ¬ cn a p := by
  obtain ⟨h1, h2, h3⟩ := h.2 a p ha hp
  have h4 := h.1 p hp
  by_cases hc : cn a p
  · obtain ⟨h5, h6⟩ := h2 hc
    rw [h6, show (0 : Int32) = Int32.ofNat 0 from rfl, oN_le (by omega) (by omega)]
    constructor
    · intro q; omega
    · exact fun q => absurd hc q
  · rw [h3 hc]
    exact ⟨fun _ => hc, fun _ => Int32.le_refl _⟩
theorem GW_rng {n np : Nat} {cn : Nat → Nat → Prop} {lN : Nat → Nat → Nat} {wN : Nat → Nat} {W : Nat → Nat → Int32} (h : GvW n np cn lN wN W) {a p : Nat} (ha : a < n) (hp : p < np) : ∃ w, w ≤ 101760 ∧ W a p = Int32.ofNat w := by
  obtain ⟨h1, h2, h3⟩ := h.2 a p ha hp
  by_cases hc : cn a p
  · exact ⟨_, by omega, (h2 hc).2⟩
  · exact ⟨0, by omega, h3 hc⟩
/-- the class before its search -/
def GvX (E : Nat → Option KD) (P : Nat → Nat → Option Nat) (s nw np n hc len : Nat) (q wd hg ow ak : Nat → Nat) (m85 m111 : RW) (W : Nat → Nat → Int32) (I : Nat → Nat → Int32) : Prop := I 1 1 = Int32.ofNat nw ∧ nw ≤ 16 ∧ WA nw q wd hg ow E (P 2) ∧ GBes (I 3) m85 ∧ I 5 0 = Int32.ofNat np ∧ np ≤ 10 ∧ (∀ p, p < np → I 6 p = m111 p) ∧ n ≤ 6 ∧ AK s nw n ak ∧ (∀ k, k < n → I 27 k = Int32.ofNat (ak k)) ∧ I 26 5 = Int32.ofNat n ∧ P 26 7 = some hc ∧ kdf E hc = some (.inl (0, len)) ∧ (n + 1) * 2 ^ np ≤ len ∧ len ≤ 100000 ∧ 149 ≤ hc ∧ (∀ a p, a < n → p < np → I 28 (10 * a + p) = W a p) ∧ HBd W np n 0 (I hc)
/-- the reference before its search -/
def GvM (s nw nk np nv n : Nat) (ak : Nat → Nat) (m85 m111 : RW) (cn : Nat → Nat → Prop) (lN : Nat → Nat → Nat) (wN : Nat → Nat) (J : Nat → Nat → Int32) : Prop := J 72 4 = Int32.ofNat nw ∧ nw ≤ 16 ∧ nk ≤ 40 ∧ np ≤ 10 ∧ J 72 59 = Int32.ofNat nv ∧ nv ≤ 300 ∧ n ≤ 6 ∧ J 72 72 = Int32.ofNat n ∧ J 72 58 = Int32.ofNat np ∧ AK s nw n ak ∧ (∀ k, k < n → J 118 k = Int32.ofNat (ak k)) ∧ LWm nw nk np (J 82) (J 124) ∧ (∀ p, p < np → J 122 p = Int32.ofNat (wN p)) ∧ J 85 = m85 ∧ J 111 = m111 ∧ ∀ a p, a < n → p < np → lkS nv (J 113) (J 115) (J 116) (J 117) p (ak a) = Int32.ofNat (lN a p) ∧ (cn a p ↔ ¬ lkS nv (J 113) (J 115) (J 116) (J 117) p (ak a) ≤ 0 ∧ ¬ ∃ j, 0 ≤ j ∧ j < nw ∧ likeAt s nk np (J 82) m85 m111 (J 124) (ak a) (m111 p) j)
def FvX (at0 : Nat) (I J : Nat → Nat → Int32) : Prop := (∀ c, c ≠ 30 → c ≠ 31 → c ≠ 26 → J c = I c) ∧ (∀ k, k ≠ 10 → J 26 k = I 26 k) ∧ ∀ k, k < at0 → J 30 k = I 30 k
def FvM (at0 : Nat) (I J : Nat → Nat → Int32) : Prop := (∀ c, c ≠ 119 → c ≠ 120 → c ≠ 72 → J c = I c) ∧ (∀ k, k ≠ 73 → k ≠ 74 → J 72 k = I 72 k) ∧ ∀ k, k < at0 → J 119 k = I 119 k
theorem FvX.refl (at0 : Nat) (I : Nat → Nat → Int32) : FvX at0 I I := ⟨fun _ _ _ _ => rfl, fun _ _ => rfl, fun _ _ => rfl⟩
theorem FvM.refl (at0 : Nat) (I : Nat → Nat → Int32) : FvM at0 I I := ⟨fun _ _ _ _ => rfl, fun _ _ _ => rfl, fun _ _ => rfl⟩
theorem FvX.trans {a c : Nat} {I J K : Nat → Nat → Int32} (h1 : FvX a I J) (h2 : FvX c J K) (h : a ≤ c) : FvX a I K := ⟨fun x h3 h4 h5 => (h2.1 x h3 h4 h5).trans (h1.1 x h3 h4 h5), fun k hk => (h2.2.1 k hk).trans (h1.2.1 k hk), fun k hk => (h2.2.2 k (by omega)).trans (h1.2.2 k hk)⟩
theorem FvM.trans {a c : Nat} {I J K : Nat → Nat → Int32} (h1 : FvM a I J) (h2 : FvM c J K) (h : a ≤ c) : FvM a I K := ⟨fun x h3 h4 h5 => (h2.1 x h3 h4 h5).trans (h1.1 x h3 h4 h5), fun k hk hk' => (h2.2.1 k hk hk').trans (h1.2.1 k hk hk'), fun k hk => (h2.2.2 k (by omega)).trans (h1.2.2 k hk)⟩
theorem FvX.row {at0 : Nat} {I : Nat → Nat → Int32} {x : Int32} : FvX at0 I (u2 I 30 (upd (I 30) at0 x)) := ⟨fun c h _ _ => u2_ne h, fun k _ => by simp (decide := true) only [u2_same, u2_ne, u2_u2, upd_same, upd_ne, mE, u2_dyn, dyn_u2, dyn_hi, u2_hi, u2_hj, u2_dynj, u2_dd, u2_d0, u2_0d], fun k hk => by simp (decide := true) only [u2_same, u2_ne, u2_u2, upd_same, upd_ne, mE, u2_dyn, dyn_u2, dyn_hi, u2_hi, u2_hj, u2_dynj, u2_dd, u2_d0, u2_0d]; exact upd_ne (by omega)⟩
theorem FvM.row {at0 : Nat} {I : Nat → Nat → Int32} {x : Int32} : FvM at0 I (u2 I 119 (upd (I 119) at0 x)) := ⟨fun c h _ _ => u2_ne h, fun k _ _ => by simp (decide := true) only [u2_same, u2_ne, u2_u2, upd_same, upd_ne, mE, u2_dyn, dyn_u2, dyn_hi, u2_hi, u2_hj, u2_dynj, u2_dd, u2_d0, u2_0d], fun k hk => by simp (decide := true) only [u2_same, u2_ne, u2_u2, upd_same, upd_ne, mE, u2_dyn, dyn_u2, dyn_hi, u2_hi, u2_hj, u2_dynj, u2_dd, u2_d0, u2_0d]; exact upd_ne (by omega)⟩
theorem GvX.fr {E : Nat → Option KD} {P : Nat → Nat → Option Nat} {s nw np n hc len at0 : Nat} {q wd hg ow ak : Nat → Nat} {m85 m111 : RW} {W : Nat → Nat → Int32} {I J : Nat → Nat → Int32} (h : GvX E P s nw np n hc len q wd hg ow ak m85 m111 W I) (hf : FvX at0 I J) : GvX E P s nw np n hc len q wd hg ow ak m85 m111 W J := by
  obtain ⟨g1, g2, g3, g4, g5, g6, g7, g8, g9, ga, gb, gc, gd, ge, gf, gg, gh, gi⟩ := h
  obtain ⟨f1, f2, -⟩ := hf
  refine ⟨?_, g2, g3, ?_, ?_, g6, ?_, g8, g9, ?_, ?_, gc, gd, ge, gf, gg, ?_, ?_⟩
  · rw [f1 1 (by decide) (by decide) (by decide)]; exact g1
  · rw [f1 3 (by decide) (by decide) (by decide)]; exact g4
  · rw [f1 5 (by decide) (by decide) (by decide)]; exact g5
  · rw [f1 6 (by decide) (by decide) (by decide)]; exact g7
  · rw [f1 27 (by decide) (by decide) (by decide)]; exact ga
  · rw [f2 5 (by decide)]; exact gb
  · rw [f1 28 (by decide) (by decide) (by decide)]; exact gh
  · rw [f1 hc (by omega) (by omega) (by omega)]; exact gi
theorem GvM.fr {s nw nk np nv n at0 : Nat} {ak : Nat → Nat} {m85 m111 : RW} {cn : Nat → Nat → Prop} {lN : Nat → Nat → Nat} {wN : Nat → Nat} {I J : Nat → Nat → Int32} (h : GvM s nw nk np nv n ak m85 m111 cn lN wN I) (hf : FvM at0 I J) : GvM s nw nk np nv n ak m85 m111 cn lN wN J := by
  obtain ⟨g1, g2, g3, g4, g5, g6, g7, g8, g9, ga, gb, gc, gd, ge, gf, gg⟩ := h
  obtain ⟨f1, f2, -⟩ := hf
  refine ⟨?_, g2, g3, g4, ?_, g6, g7, ?_, ?_, ga, ?_, ?_, ?_, ?_, ?_, ?_⟩
  · rw [f2 4 (by decide) (by decide)]; exact g1
  · rw [f2 59 (by decide) (by decide)]; exact g5
  · rw [f2 72 (by decide) (by decide)]; exact g8
  · rw [f2 58 (by decide) (by decide)]; exact g9
  · rw [f1 118 (by decide) (by decide) (by decide)]; exact gb
  · rw [f1 82 (by decide) (by decide) (by decide), f1 124 (by decide) (by decide) (by decide)]; exact gc
  · rw [f1 122 (by decide) (by decide) (by decide)]; exact gd
  · rw [f1 85 (by decide) (by decide) (by decide)]; exact ge
  · rw [f1 111 (by decide) (by decide) (by decide)]; exact gf
  · rw [f1 113 (by decide) (by decide) (by decide), f1 115 (by decide) (by decide) (by decide), f1 116 (by decide) (by decide) (by decide), f1 117 (by decide) (by decide) (by decide), f1 82 (by decide) (by decide) (by decide), f1 124 (by decide) (by decide) (by decide)]; exact gg
section GIVI
variable {b : Nat} {F : Nat → Option AE} {D E : Nat → Option KD} {I : Nat → Nat → Int32} {L : Nat → Nat → Int64} {P : Nat → Nat → Option Nat} {nx us : Nat}
theorem X_sN {s nw np n hc len at0 u : Nat} {q wd hg ow ak : Nat → Nat} {m85 m111 : RW} {W : Nat → Nat → Int32} {kX : Nat → Int32 → Int32 → Int32 → AH → Option AH} {x : Int32} (h : GvX E P s nw np n hc len q wd hg ow ak m85 m111 W I) (hat : at0 < n) (fu : Nat) : f_X3_tryFrom_60 kX (fu + 1) (ad b 26) (Int32.ofNat at0) x (Int32.ofNat u) (Int32.ofNat np) (lay b F E I L P nx us) = kX (ad b 26) (Int32.ofNat (at0 + 1)) x (Int32.ofNat u) (lay b F E (u2 I 30 (upd (I 30) at0 (-2))) L P nx us) := by
  obtain ⟨g1, g2, g3, g4, g5, g6, g7, g8, g9, ga, gb, gc, gd, ge, gf, gg, gh, gi⟩ := h
  have e6 : iN (Int32.ofNat at0) 6 = some at0 := iN_oN (by omega) (by omega)
  simp (decide := true) only [f_X3_tryFrom_60, g5, Int32.le_refl, e6, oN_succ, Option.bind_fun_some, isO_s, gI_s, gA_s, gL_s, pI_s, pZ_s, pL_s, aI_s, aL_s, aN_s, aQ_s, sI_s, sL_s, cr, LNs, Option.map_some, Option.map_none, Option.bind_some, b2, tr, lt, if_true, if_false, ckZ, X_within, M_in, inR_z, X_refuse, X_tell, X_deny, X_grant, M_refused, M_denied, M_done, M_granted, u2_same, u2_ne, u2_u2, upd_same, upd_ne, aW0, ixR_z, ixR_1, M_isWall, M_isPainter, M_isWork, X_has4, X_has10, X_at, or_false, false_or, or_true, true_or, not_true, not_false_iff, Option.isSome_some, isO_d, gI_d, gA_d, pI_d, ne_eq, not_false_eq_true, u2_hi, u2_hj, u2_dyn, u2_dynj, Nat.reduceAdd, mX_r, mX_rD, mX_rDj, mM_r, mX_u, mX_uM, mX_uD, mX_uDj, mM_u, mM_uX, mM_uD, mM_uDj, u2_dd, u2_d0, u2_0d]
theorem X_sC {s nw np n hc len at0 u i : Nat} {q wd hg ow ak : Nat → Nat} {m85 m111 : RW} {W : Nat → Nat → Int32} {cn : Nat → Nat → Prop} {lN : Nat → Nat → Nat} {wN : Nat → Nat} {kX : Nat → Int32 → Int32 → Int32 → AH → Option AH} {x : Int32} (h : GvX E P s nw np n hc len q wd hg ow ak m85 m111 W I) (hSy : GSym m85) (hGW : GvW n np cn lN wN W) (hat : at0 < n) (hi : i < np) (hu : u < 2 ^ np) (hT : TRd np at0 (I 30)) (hU : UvB np at0 u (I 30)) (fu : Nat) :
    (okS cn np (I 30) m85 m111 ak at0 i → f_X3_tryFrom_60 kX (fu + 1) (ad b 26) (Int32.ofNat at0) x (Int32.ofNat u) (Int32.ofNat i) (lay b F E I L P nx us) = (kX (ad b 26) (Int32.ofNat (at0 + 1)) (x + W at0 i) (Int32.ofNat (u ||| 2 ^ i)) (lay b F E (u2 I 30 (upd (I 30) at0 (Int32.ofNat i))) L P nx us)).bind fun h => f_X3_tryFrom_60 kX fu (ad b 26) (Int32.ofNat at0) x (Int32.ofNat u) (Int32.ofNat (i + 1)) h) ∧
    (¬ okS cn np (I 30) m85 m111 ak at0 i → f_X3_tryFrom_60 kX (fu + 1) (ad b 26) (Int32.ofNat at0) x (Int32.ofNat u) (Int32.ofNat i) (lay b F E I L P nx us) = f_X3_tryFrom_60 kX fu (ad b 26) (Int32.ofNat at0) x (Int32.ofNat u) (Int32.ofNat (i + 1)) (lay b F E I L P nx us)) := by
  obtain ⟨g1, g2, g3, g4, g5, g6, g7, g8, g9, ga, gb, gc, gd, ge, gf, gg, gh, gi⟩ := h
  have e6 : iN (Int32.ofNat at0) 6 = some at0 := iN_oN (by omega) (by omega)
  have e2 := oN_leF hi (by omega)
  have e3 : iN (Int32.ofNat i) 10 = some i := iN_oN (by omega) (by omega)
  have a4 := oN_neg (w := i) (by omega)
  have e4 : iN (Int32.ofNat (10 * at0 + i)) 60 = some (10 * at0 + i) := iN_oN (by omega) (by omega)
  have p10 : 2 ^ np ≤ 1024 := (shl_at np (by omega) 0 (by omega)).2
  have t0 := tb0 (s := u) (k := i) (by omega) (by omega)
  have hor : Int32.ofNat u ||| (1 : Int32) <<< (Int32.ofNat i &&& 31) = Int32.ofNat (u ||| 2 ^ i) := by rw [(sh_16 i (by omega)).1, oN_or]
  have h10 : I 5 0 ≤ 10 := by rw [g5]; exact oN_leL g6 (by decide)
  have hx4 := fun p => X_has4 (b := b) (F := F) (E := E) (L := L) (P := P) (nx := nx) (us := us) (p := p) h10
  rw [g5] at hx4
  obtain ⟨t1, t2⟩ := X_tri (b := b) (F := F) (L := L) (nx := nx) (us := us) (I := I) (sty := m111 i) g1 g2 g3 g4 g5 g6 g7 g8 g9 ga hat hT at0 0 (by omega) FU (by unfold FU; omega)
  have z0 : Int32.ofNat 0 = 0 := rfl
  rw [z0] at t1 t2
  have hpos := GW_pos hGW hat hi
  have hw := gh at0 i hat hi
  have hsy : ∀ j, j < at0 → m85 (16 * ak j + ak at0) = m85 (16 * ak at0 + ak j) := fun j hj => hSy _ _ (by have := (g9.1 j (by omega)).1; omega) (by have := (g9.1 at0 hat).1; omega)
  by_cases hb : u.testBit i = false
  · have nb : ∀ j, j < at0 → ¬ I 30 j = Int32.ofNat i := fun j hj q => by
      have := (hU i hi).mpr ⟨j, hj, q⟩
      rw [hb] at this
      cases this
    by_cases hc : cn at0 i
    · have hw0 : ¬ W at0 i ≤ 0 := fun q => (hpos.mp q) hc
      by_cases hl : ∃ j, 0 ≤ j ∧ j < at0 ∧ likT np (I 30) m85 m111 ak at0 (m111 i) j
      · have t1 := t1 hl
        refine ⟨fun ok => ?_, fun _ => ?_⟩
        · obtain ⟨j, j0, j1, p, p1, p2, p3, p4⟩ := hl
          exact absurd ⟨j, j0, j1, Or.inr ⟨p, p1, p2, by rw [← hsy j j1]; exact p4, p3⟩⟩ ok.2
        · simp (decide := true) only [f_X3_tryFrom_60, f_X3_tryFrom_142, f_X3_isLikeTried, f_X4_styleOf_18, f_X4_styleOf, hx4, a4, e3, g7 i hi, t1, g5, e2, ix10, e4, hw, hw0, t0, hb, oN_succ, isO_s, gI_s, gA_s, gL_s, pI_s, pZ_s, pL_s, aI_s, aL_s, aN_s, aQ_s, sI_s, sL_s, cr, LNs, Option.map_some, Option.map_none, Option.bind_some, b2, tr, lt, if_true, if_false, ckZ, X_within, M_in, inR_z, X_refuse, X_tell, X_deny, X_grant, M_refused, M_denied, M_done, M_granted, u2_same, u2_ne, u2_u2, upd_same, upd_ne, aW0, ixR_z, ixR_1, M_isWall, M_isPainter, M_isWork, X_has4, X_has10, X_at, or_false, false_or, or_true, true_or, not_true, not_false_iff, Option.isSome_some, isO_d, gI_d, gA_d, pI_d, ne_eq, not_false_eq_true, u2_hi, u2_hj, u2_dyn, u2_dynj, Nat.reduceAdd, mX_r, mX_rD, mX_rDj, mM_r, mX_u, mX_uM, mX_uD, mX_uDj, mM_u, mM_uX, mM_uD, mM_uDj, u2_dd, u2_d0, u2_0d]
      · have t2 := t2 hl
        refine ⟨fun ok => ?_, fun nok => ?_⟩
        · simp (decide := true) only [f_X3_tryFrom_60, f_X3_tryFrom_142, f_X3_isLikeTried, f_X4_styleOf_18, f_X4_styleOf, hx4, a4, e3, g7 i hi, t2, g5, e2, e6, ix10, e4, hw, hw0, t0, hb, hor, oN_succ, isO_s, gI_s, gA_s, gL_s, pI_s, pZ_s, pL_s, aI_s, aL_s, aN_s, aQ_s, sI_s, sL_s, cr, LNs, Option.map_some, Option.map_none, Option.bind_some, b2, tr, lt, if_true, if_false, ckZ, X_within, M_in, inR_z, X_refuse, X_tell, X_deny, X_grant, M_refused, M_denied, M_done, M_granted, u2_same, u2_ne, u2_u2, upd_same, upd_ne, aW0, ixR_z, ixR_1, M_isWall, M_isPainter, M_isWork, X_has4, X_has10, X_at, or_false, false_or, or_true, true_or, not_true, not_false_iff, Option.isSome_some, isO_d, gI_d, gA_d, pI_d, ne_eq, not_false_eq_true, u2_hi, u2_hj, u2_dyn, u2_dynj, Nat.reduceAdd, mX_r, mX_rD, mX_rDj, mM_r, mX_u, mX_uM, mX_uD, mX_uDj, mM_u, mM_uX, mM_uD, mM_uDj, u2_dd, u2_d0, u2_0d]
        · refine absurd ⟨hc, ?_⟩ nok
          rintro ⟨j, j0, j1, h | ⟨p, p1, p2, p3, p4⟩⟩
          · exact nb j j1 h
          · exact hl ⟨j, j0, j1, p, p1, p2, p4, by rw [hsy j j1]; exact p3⟩
    · have hw0 : W at0 i ≤ 0 := hpos.mpr hc
      refine ⟨fun ok => absurd ok.1 hc, fun _ => ?_⟩
      simp (decide := true) only [f_X3_tryFrom_60, f_X3_tryFrom_142, g5, e2, ix10, e4, hw, hw0, t0, hb, oN_succ, isO_s, gI_s, gA_s, gL_s, pI_s, pZ_s, pL_s, aI_s, aL_s, aN_s, aQ_s, sI_s, sL_s, cr, LNs, Option.map_some, Option.map_none, Option.bind_some, b2, tr, lt, if_true, if_false, ckZ, X_within, M_in, inR_z, X_refuse, X_tell, X_deny, X_grant, M_refused, M_denied, M_done, M_granted, u2_same, u2_ne, u2_u2, upd_same, upd_ne, aW0, ixR_z, ixR_1, M_isWall, M_isPainter, M_isWork, X_has4, X_has10, X_at, or_false, false_or, or_true, true_or, not_true, not_false_iff, Option.isSome_some, isO_d, gI_d, gA_d, pI_d, ne_eq, not_false_eq_true, u2_hi, u2_hj, u2_dyn, u2_dynj, Nat.reduceAdd, mX_r, mX_rD, mX_rDj, mM_r, mX_u, mX_uM, mX_uD, mX_uDj, mM_u, mM_uX, mM_uD, mM_uDj, u2_dd, u2_d0, u2_0d]
  · refine ⟨fun ok => ?_, fun _ => ?_⟩
    · have hb' : u.testBit i = true := by revert hb; cases u.testBit i <;> decide
      obtain ⟨j, j1, j2⟩ := (hU i hi).mp hb'
      exact absurd ⟨j, Nat.zero_le _, j1, Or.inl j2⟩ ok.2
    · simp (decide := true) only [f_X3_tryFrom_60, f_X3_tryFrom_142, g5, e2, ix10, e4, hw, t0, hb, oN_succ, isO_s, gI_s, gA_s, gL_s, pI_s, pZ_s, pL_s, aI_s, aL_s, aN_s, aQ_s, sI_s, sL_s, cr, LNs, Option.map_some, Option.map_none, Option.bind_some, b2, tr, lt, if_true, if_false, ckZ, X_within, M_in, inR_z, X_refuse, X_tell, X_deny, X_grant, M_refused, M_denied, M_done, M_granted, u2_same, u2_ne, u2_u2, upd_same, upd_ne, aW0, ixR_z, ixR_1, M_isWall, M_isPainter, M_isWork, X_has4, X_has10, X_at, or_false, false_or, or_true, true_or, not_true, not_false_iff, Option.isSome_some, isO_d, gI_d, gA_d, pI_d, ne_eq, not_false_eq_true, u2_hi, u2_hj, u2_dyn, u2_dynj, Nat.reduceAdd, mX_r, mX_rD, mX_rDj, mM_r, mX_u, mX_uM, mX_uD, mX_uDj, mM_u, mM_uX, mM_uD, mM_uDj, u2_dd, u2_d0, u2_0d]
theorem M_sN {s nw nk np nv n at0 : Nat} {ak : Nat → Nat} {m85 m111 : RW} {cn : Nat → Nat → Prop} {lN : Nat → Nat → Nat} {wN : Nat → Nat} {kX : Nat → Int32 → Int32 → Int32 → AH → Option AH} {x y : Int32} (h : GvM s nw nk np nv n ak m85 m111 cn lN wN I) (hat : at0 < n) (fu : Nat) : f_X15_gives_79 kX (fu + 1) (ad b 72) (Int32.ofNat at0) x y (Int32.ofNat np) (lay b F E I L P nx us) = kX (ad b 72) (Int32.ofNat (at0 + 1)) x y (lay b F E (u2 I 119 (upd (I 119) at0 (-2))) L P nx us) := by
  obtain ⟨g1, g2, g3, g4, g5, g6, g7, g8, g9, ga, gb, gc, gd, ge, gf, gg⟩ := h
  have e6 : iN (Int32.ofNat at0) 6 = some at0 := iN_oN (by omega) (by omega)
  simp (decide := true) only [f_X15_gives_79, g9, Int32.le_refl, e6, oN_succ, Option.bind_fun_some, isO_s, gI_s, gA_s, gL_s, pI_s, pZ_s, pL_s, aI_s, aL_s, aN_s, aQ_s, sI_s, sL_s, cr, LNs, Option.map_some, Option.map_none, Option.bind_some, b2, tr, lt, if_true, if_false, ckZ, X_within, M_in, inR_z, X_refuse, X_tell, X_deny, X_grant, M_refused, M_denied, M_done, M_granted, u2_same, u2_ne, u2_u2, upd_same, upd_ne, aW0, ixR_z, ixR_1, M_isWall, M_isPainter, M_isWork, X_has4, X_has10, X_at, or_false, false_or, or_true, true_or, not_true, not_false_iff, Option.isSome_some, isO_d, gI_d, gA_d, pI_d, ne_eq, not_false_eq_true, u2_hi, u2_hj, u2_dyn, u2_dynj, Nat.reduceAdd, mX_r, mX_rD, mX_rDj, mM_r, mX_u, mX_uM, mX_uD, mX_uDj, mM_u, mM_uX, mM_uD, mM_uDj, u2_dd, u2_d0, u2_0d]
theorem M_sC {s nw nk np nv n at0 i : Nat} {ak : Nat → Nat} {m85 m111 : RW} {cn : Nat → Nat → Prop} {lN : Nat → Nat → Nat} {wN : Nat → Nat} {kX : Nat → Int32 → Int32 → Int32 → AH → Option AH} {x y : Int32} (h : GvM s nw nk np nv n ak m85 m111 cn lN wN I) (hat : at0 < n) (hi : i < np) (hT : TRd np at0 (I 119)) (fu : Nat) :
    (okS cn np (I 119) m85 m111 ak at0 i → f_X15_gives_79 kX (fu + 1) (ad b 72) (Int32.ofNat at0) x y (Int32.ofNat i) (lay b F E I L P nx us) = (kX (ad b 72) (Int32.ofNat (at0 + 1)) (x + Int32.ofNat (lN at0 i)) (y + Int32.ofNat (wN i)) (lay b F E (u2 I 119 (upd (I 119) at0 (Int32.ofNat i))) L P nx us)).bind fun h => f_X15_gives_79 kX fu (ad b 72) (Int32.ofNat at0) x y (Int32.ofNat (i + 1)) h) ∧
    (¬ okS cn np (I 119) m85 m111 ak at0 i → f_X15_gives_79 kX (fu + 1) (ad b 72) (Int32.ofNat at0) x y (Int32.ofNat i) (lay b F E I L P nx us) = f_X15_gives_79 kX fu (ad b 72) (Int32.ofNat at0) x y (Int32.ofNat (i + 1)) (lay b F E I L P nx us)) := by
  obtain ⟨g1, g2, g3, g4, g5, g6, g7, g8, g9, ga, gb, gc, gd, ge, gf, gg⟩ := h
  have e6 : iN (Int32.ofNat at0) 6 = some at0 := iN_oN (by omega) (by omega)
  have e2 := oN_leF hi (by omega)
  have e3 : iN (Int32.ofNat i) 10 = some i := iN_oN (by omega) (by omega)
  obtain ⟨m1, m2⟩ := M_may (b := b) (F := F) (E := E) (L := L) (P := P) (nx := nx) (us := us) (I := I) (p0 := i) (at0 := at0) g1 g2 g3 g4 g5 g6 g7 g8 ga gb gc hi hat hT
  obtain ⟨k1, k2⟩ := gg at0 i hat hi
  have hw := (ga.1 at0 hat).1
  have hlk := M_likedOf (b := b) (F := F) (E := E) (L := L) (P := P) (nx := nx) (us := us) (I := u2 I 119 (upd (I 119) at0 (Int32.ofNat i))) (p := i) (w := ak at0) (by simp (decide := true) only [g5, isO_s, gI_s, gA_s, gL_s, pI_s, pZ_s, pL_s, aI_s, aL_s, aN_s, aQ_s, sI_s, sL_s, cr, LNs, Option.map_some, Option.map_none, Option.bind_some, b2, tr, lt, if_true, if_false, ckZ, X_within, M_in, inR_z, X_refuse, X_tell, X_deny, X_grant, M_refused, M_denied, M_done, M_granted, u2_same, u2_ne, u2_u2, upd_same, upd_ne, aW0, ixR_z, ixR_1, M_isWall, M_isPainter, M_isWork, X_has4, X_has10, X_at, or_false, false_or, or_true, true_or, not_true, not_false_iff, Option.isSome_some, isO_d, gI_d, gA_d, pI_d, ne_eq, not_false_eq_true, u2_hi, u2_hj, u2_dyn, u2_dynj, Nat.reduceAdd, mX_r, mX_rD, mX_rDj, mM_r, mX_u, mX_uM, mX_uD, mX_uDj, mM_u, mM_uX, mM_uD, mM_uDj, u2_dd, u2_d0, u2_0d]) g6 (by omega) (by omega)
  have hlk' : f_X15_likedOf (ad b 72) (Int32.ofNat i) (Int32.ofNat (ak at0)) (lay b F E (u2 I 119 (upd (I 119) at0 (Int32.ofNat i))) L P nx us) = some (Int32.ofNat (lN at0 i), lay b F E (u2 I 119 (upd (I 119) at0 (Int32.ofNat i))) L P nx us) := by
    rw [← k1]
    refine hlk.trans ?_
    simp (decide := true) only [u2_same, u2_ne, u2_u2, upd_same, upd_ne, mE, u2_dyn, dyn_u2, dyn_hi, u2_hi, u2_hj, u2_dynj, u2_dd, u2_d0, u2_0d]
  have hmay : mayP s nw nk np (lkS nv (I 113) (I 115) (I 116) (I 117) i (ak at0)) (I 119) (I 82) (I 85) (I 111) (I 124) ak at0 i ↔ okS cn np (I 119) m85 m111 ak at0 i := by
    unfold mayP okS
    rw [k2, ge, gf, and_assoc]
  refine ⟨fun ok => ?_, fun nok => ?_⟩
  · have m1 := m1 (hmay.mpr ok)
    simp (decide := true) only [f_X15_gives_79, f_X15_gives_139, g9, e2, m1, e6, gb at0 hat, hlk', e3, gd i hi, oN_succ, isO_s, gI_s, gA_s, gL_s, pI_s, pZ_s, pL_s, aI_s, aL_s, aN_s, aQ_s, sI_s, sL_s, cr, LNs, Option.map_some, Option.map_none, Option.bind_some, b2, tr, lt, if_true, if_false, ckZ, X_within, M_in, inR_z, X_refuse, X_tell, X_deny, X_grant, M_refused, M_denied, M_done, M_granted, u2_same, u2_ne, u2_u2, upd_same, upd_ne, aW0, ixR_z, ixR_1, M_isWall, M_isPainter, M_isWork, X_has4, X_has10, X_at, or_false, false_or, or_true, true_or, not_true, not_false_iff, Option.isSome_some, isO_d, gI_d, gA_d, pI_d, ne_eq, not_false_eq_true, u2_hi, u2_hj, u2_dyn, u2_dynj, Nat.reduceAdd, mX_r, mX_rD, mX_rDj, mM_r, mX_u, mX_uM, mX_uD, mX_uDj, mM_u, mM_uX, mM_uD, mM_uDj, u2_dd, u2_d0, u2_0d]
  · have m2 := m2 (fun q => nok (hmay.mp q))
    simp (decide := true) only [f_X15_gives_79, f_X15_gives_139, g9, e2, m2, oN_succ, isO_s, gI_s, gA_s, gL_s, pI_s, pZ_s, pL_s, aI_s, aL_s, aN_s, aQ_s, sI_s, sL_s, cr, LNs, Option.map_some, Option.map_none, Option.bind_some, b2, tr, lt, if_true, if_false, ckZ, X_within, M_in, inR_z, X_refuse, X_tell, X_deny, X_grant, M_refused, M_denied, M_done, M_granted, u2_same, u2_ne, u2_u2, upd_same, upd_ne, aW0, ixR_z, ixR_1, M_isWall, M_isPainter, M_isWork, X_has4, X_has10, X_at, or_false, false_or, or_true, true_or, not_true, not_false_iff, Option.isSome_some, isO_d, gI_d, gA_d, pI_d, ne_eq, not_false_eq_true, u2_hi, u2_hj, u2_dyn, u2_dynj, Nat.reduceAdd, mX_r, mX_rD, mX_rDj, mM_r, mX_u, mX_uM, mX_uD, mX_uDj, mM_u, mM_uX, mM_uD, mM_uDj, u2_dd, u2_d0, u2_0d]
theorem GvM.mm {s nw nk np nv n : Nat} {ak : Nat → Nat} {m85 m111 : RW} {cn : Nat → Nat → Prop} {lN : Nat → Nat → Nat} {wN : Nat → Nat} {I : Nat → Nat → Int32} (h : GvM s nw nk np nv n ak m85 m111 cn lN wN I) (K : Nat → Nat → Int32) : GvM s nw nk np nv n ak m85 m111 cn lN wN (mM K I) := by
  unfold GvM at h ⊢
  simp (decide := true) only [mM_r]
  exact h
theorem M_sNK {s nw nk np nv n at0 : Nat} {ak : Nat → Nat} {m85 m111 : RW} {cn : Nat → Nat → Prop} {lN : Nat → Nat → Nat} {wN : Nat → Nat} {kX : Nat → Int32 → Int32 → Int32 → AH → Option AH} {x y : Int32} (h : GvM s nw nk np nv n ak m85 m111 cn lN wN I) (hat : at0 < n) (fu : Nat) (K : Nat → Nat → Int32) : f_X15_gives_79 kX (fu + 1) (ad b 72) (Int32.ofNat at0) x y (Int32.ofNat np) (lay b F E (mM K I) L P nx us) = kX (ad b 72) (Int32.ofNat (at0 + 1)) x y (lay b F E (mM K (u2 I 119 (upd (I 119) at0 (-2)))) L P nx us) := by
  have h1 := M_sN (b := b) (F := F) (E := E) (L := L) (P := P) (nx := nx) (us := us) (kX := kX) (x := x) (y := y) (h.mm K) hat fu
  rw [mM_u (by decide), h1, mM_r (by decide)]
theorem M_sCK {s nw nk np nv n at0 i : Nat} {ak : Nat → Nat} {m85 m111 : RW} {cn : Nat → Nat → Prop} {lN : Nat → Nat → Nat} {wN : Nat → Nat} {kX : Nat → Int32 → Int32 → Int32 → AH → Option AH} {x y : Int32} (h : GvM s nw nk np nv n ak m85 m111 cn lN wN I) (hat : at0 < n) (hi : i < np) (hT : TRd np at0 (I 119)) (fu : Nat) (K : Nat → Nat → Int32) :
    (okS cn np (I 119) m85 m111 ak at0 i → f_X15_gives_79 kX (fu + 1) (ad b 72) (Int32.ofNat at0) x y (Int32.ofNat i) (lay b F E (mM K I) L P nx us) = (kX (ad b 72) (Int32.ofNat (at0 + 1)) (x + Int32.ofNat (lN at0 i)) (y + Int32.ofNat (wN i)) (lay b F E (mM K (u2 I 119 (upd (I 119) at0 (Int32.ofNat i)))) L P nx us)).bind fun h => f_X15_gives_79 kX fu (ad b 72) (Int32.ofNat at0) x y (Int32.ofNat (i + 1)) h) ∧
    (¬ okS cn np (I 119) m85 m111 ak at0 i → f_X15_gives_79 kX (fu + 1) (ad b 72) (Int32.ofNat at0) x y (Int32.ofNat i) (lay b F E (mM K I) L P nx us) = f_X15_gives_79 kX fu (ad b 72) (Int32.ofNat at0) x y (Int32.ofNat (i + 1)) (lay b F E (mM K I) L P nx us)) := by
  have h119 : mM K I 119 = I 119 := mM_r (by decide)
  have h1 := M_sC (b := b) (F := F) (E := E) (L := L) (P := P) (nx := nx) (us := us) (kX := kX) (x := x) (y := y) (h.mm K) hat hi (by rw [h119]; exact hT) fu
  rw [h119] at h1
  rw [mM_u (by decide)]
  exact h1
end GIVI
