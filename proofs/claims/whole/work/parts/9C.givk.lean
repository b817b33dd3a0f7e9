/-! ===== give: both searches at once ===== -/
def BvR0 (I J : Nat → Nat → Int32) : Prop := I 26 10 = -1 ∧ J 72 73 = -1 ∧ J 72 74 = 0
def BvR (np n : Nat) (I J : Nat → Nat → Int32) : Prop := ∃ L K V : Nat, L ≤ 10000 ∧ K ≤ 40 ∧ V + K = 64 * L ∧ I 26 10 = Int32.ofNat V ∧ J 72 73 = Int32.ofNat L ∧ J 72 74 = Int32.ofNat K ∧ (∀ i, i < n → I 31 i = J 120 i) ∧ TRd np n (I 31)
theorem BR_row {np n : Nat} {I J : Nat → Nat → Int32} {t t' : RW} (h : BvR0 I J ∨ BvR np n I J) : BvR0 (u2 I 30 t) (u2 J 119 t') ∨ BvR np n (u2 I 30 t) (u2 J 119 t') := by
  unfold BvR0 BvR at h ⊢
  simp (decide := true) only [u2_same, u2_ne, u2_u2, upd_same, upd_ne, mE, u2_dyn, dyn_u2, dyn_hi, u2_hi, u2_hj, u2_dynj, u2_dd, u2_d0, u2_0d]
  exact h
section GIVK
variable {b : Nat} {F : Nat → Option AE} {D E : Nat → Option KD} {I : Nat → Nat → Int32} {L : Nat → Nat → Int64} {P : Nat → Nat → Option Nat} {nx us : Nat}
theorem cpI_6 : cpI 0 (lay b F E I L P nx us) (ad b 30) 0 (ad b 31) 0 6 = some (lay b F E (u2 I 31 (va_cpy (I 30) (I 31) 0 0 6)) L P nx us) := by
  have h1 : hM (lay b F E I L P nx us) (ad b 30) = some (.inl (0, 6, .inl (I 30))) := by
    rw [hM_lay]; unfold cA; rw [kdf_KT (KT_arr (show tk 30 = 0 by decide) (by decide))]; rfl
  have h2 : hM (lay b F E I L P nx us) (ad b 31) = some (.inl (0, 6, .inl (I 31))) := by
    rw [hM_lay]; unfold cA; rw [kdf_KT (KT_arr (show tk 31 = 0 by decide) (by decide))]; rfl
  have h3 : (List.range (6 : Int32).toNatClampNeg).all (fun z => fits (aT 0) (.int (I 30 ((0 : Int32).toNatClampNeg + z)))) = true := by
    rw [List.all_eq_true]; intro z _; rfl
  have h4 : (lay b F E I L P nx us).1 ≤ ad b 31 := by show b ≤ ad b 31; unfold ad; omega
  unfold cpI
  rw [h1, h2]
  simp only [h3, h4]
  rw [if_pos ⟨trivial, trivial, trivial, by decide, by decide, by decide, by decide, by decide, trivial⟩]
  congr 1
  refine hS_lay ?_ (fun q hq => ⟨u2_ne hq, rfl, rfl⟩)
  unfold cA
  rw [kdf_KT (KT_arr (show tk 31 = 0 by decide) (by decide)), u2_same]
  rfl
theorem cpy_6 {f g : RW} {j : Nat} (h : j < 6) : va_cpy f g 0 0 6 j = f j := by
  unfold va_cpy
  rw [if_pos ⟨by omega, by omega⟩]
  congr 1
  omega
theorem M_46 {n : Nat} {kX : Nat → Int32 → Int32 → Int32 → AH → Option AH} (hn6 : n ≤ 6) : ∀ (m i : Nat), i + m = n → ∀ (fu : Nat) (I : Nat → Nat → Int32), m < fu → I 72 72 = Int32.ofNat n → f_X15_gives_46 kX fu (ad b 72) (Int32.ofNat i) (lay b F E I L P nx us) = some (lay b F E (u2 I 120 (cpF i n (I 119) (I 120))) L P nx us) := by
  intro m
  induction m with
  | zero =>
    intro i hi fu I hf hn
    obtain ⟨fu, rfl⟩ : ∃ f, fu = f + 1 := ⟨fu - 1, by omega⟩
    have : i = n := by omega
    subst this
    have e : cpF i i (I 119) (I 120) = I 120 := by funext k; unfold cpF; rw [if_neg (by omega)]
    rw [e, u2_idr]
    simp (decide := true) only [f_X15_gives_46, hn, Int32.le_refl, isO_s, gI_s, gA_s, gL_s, pI_s, pZ_s, pL_s, aI_s, aL_s, aN_s, aQ_s, sI_s, sL_s, cr, LNs, Option.map_some, Option.map_none, Option.bind_some, b2, tr, lt, if_true, if_false, ckZ, X_within, M_in, inR_z, X_refuse, X_tell, X_deny, X_grant, M_refused, M_denied, M_done, M_granted, u2_same, u2_ne, u2_u2, upd_same, upd_ne, aW0, ixR_z, ixR_1, M_isWall, M_isPainter, M_isWork, X_has4, X_has10, X_at, or_false, false_or, or_true, true_or, not_true, not_false_iff, Option.isSome_some, isO_d, gI_d, gA_d, pI_d, ne_eq, not_false_eq_true, u2_hi, u2_hj, u2_dyn, u2_dynj, Nat.reduceAdd, mX_r, mX_rD, mX_rDj, mM_r, mX_u, mX_uM, mX_uD, mX_uDj, mM_u, mM_uX, mM_uD, mM_uDj, u2_dd, u2_d0, u2_0d]
  | succ m ih =>
    intro i hi fu I hf hn
    obtain ⟨fu, rfl⟩ : ∃ f, fu = f + 1 := ⟨fu - 1, by omega⟩
    have e2 := oN_leF (show i < n by omega) (by omega)
    have e3 : iN (Int32.ofNat i) 6 = some i := iN_oN (by omega) (by omega)
    have ih' := ih (i + 1) (by omega) fu (u2 I 120 (upd (I 120) i (I 119 i))) (by omega) (by simp (decide := true) only [u2_same, u2_ne, u2_u2, upd_same, upd_ne, mE, u2_dyn, dyn_u2, dyn_hi, u2_hi, u2_hj, u2_dynj, u2_dd, u2_d0, u2_0d]; exact hn)
    have e5 : cpF (i + 1) n (I 119) (upd (I 120) i (I 119 i)) = cpF i n (I 119) (I 120) := by
      funext k
      unfold cpF
      by_cases h1 : k = i
      · subst h1; rw [if_neg (by omega), if_pos (by omega), upd_same]
      · rw [upd_ne h1]
        by_cases h2 : i + 1 ≤ k ∧ k < n
        · rw [if_pos h2, if_pos (by omega)]
        · rw [if_neg h2, if_neg (by omega)]
    simp (decide := true) only [e5, u2_same, u2_ne, u2_u2, upd_same, upd_ne, mE, u2_dyn, dyn_u2, dyn_hi, u2_hi, u2_hj, u2_dynj, u2_dd, u2_d0, u2_0d] at ih'
    simp (decide := true) only [f_X15_gives_46, hn, e2, e3, oN_succ, isO_s, gI_s, gA_s, gL_s, pI_s, pZ_s, pL_s, aI_s, aL_s, aN_s, aQ_s, sI_s, sL_s, cr, LNs, Option.map_some, Option.map_none, Option.bind_some, b2, tr, lt, if_true, if_false, ckZ, X_within, M_in, inR_z, X_refuse, X_tell, X_deny, X_grant, M_refused, M_denied, M_done, M_granted, u2_same, u2_ne, u2_u2, upd_same, upd_ne, aW0, ixR_z, ixR_1, M_isWall, M_isPainter, M_isWork, X_has4, X_has10, X_at, or_false, false_or, or_true, true_or, not_true, not_false_iff, Option.isSome_some, isO_d, gI_d, gA_d, pI_d, ne_eq, not_false_eq_true, u2_hi, u2_hj, u2_dyn, u2_dynj, Nat.reduceAdd, mX_r, mX_rD, mX_rDj, mM_r, mX_u, mX_uM, mX_uD, mX_uDj, mM_u, mM_uX, mM_uD, mM_uDj, u2_dd, u2_d0, u2_0d]
    exact ih'
theorem both {s nw nk np nv n hc len : Nat} {q wd hg ow ak : Nat → Nat} {m85 m111 r : RW} {cn : Nat → Nat → Prop} {lN : Nat → Nat → Nat} {wN : Nat → Nat} {W : Nat → Nat → Int32} (hSy : GSym m85) (hGW : GvW n np cn lN wN W) (hH : HBd W np n 0 r) : ∀ (d at0 u l k v : Nat) (I J : Nat → Nat → Int32) (fu fv : Nat), at0 + d = n → d < fu → d < fv → I hc = r → GvX E P s nw np n hc len q wd hg ow ak m85 m111 W I → GvM s nw nk np nv n ak m85 m111 cn lN wN J → (∀ j, j < at0 → I 30 j = J 119 j) → TRd np at0 (I 30) → UvB np at0 u (I 30) → u < 2 ^ np → v + k = 64 * l → k + rmN wN np u ≤ 40 → l ≤ 1590 * at0 → (BvR0 I J ∨ BvR np n I J) → ∃ I' J', f_X3_tryFrom fu (ad b 26) (Int32.ofNat at0) (Int32.ofNat v) (Int32.ofNat u) (lay b F E I L P nx us) = some (lay b F E I' L P nx us) ∧ (∀ Z, f_X15_gives fv (ad b 72) (Int32.ofNat at0) (Int32.ofNat l) (Int32.ofNat k) (lay b F E (mM Z J) L P nx us) = some (lay b F E (mM Z J') L P nx us)) ∧ FvX at0 I I' ∧ FvM at0 J J' ∧ BvR np n I' J' := by
  intro d
  induction d with
  | zero =>
    intro at0 u l k v I J fu fv hd hf hf' hIr hGX hGM hIJ hT hU hu hv hr hl hB
    obtain ⟨fu, rfl⟩ : ∃ f, fu = f + 1 := ⟨fu - 1, by omega⟩
    obtain ⟨fv, rfl⟩ : ∃ f, fv = f + 1 := ⟨fv - 1, by omega⟩
    have : at0 = n := by omega
    subst this
    have hGM' := hGM
    have hGX' := hGX
    obtain ⟨g1, g2, g3, g4, g5, g6, g7, g8, g9, ga, gb, gc, gd, ge, gf, gg, gh, gi⟩ := hGX
    obtain ⟨-, -, -, -, -, -, -, m8, -⟩ := hGM
    have hhope := X_hope (b := b) (F := F) (E := E) (L := L) (P := P) (nx := nx) (us := us) (I := I) (at0 := at0) (u := u) g5 g6 g8 gc gd ge gf (Nat.le_refl _) hu
    rw [hIr, hH.1 u hu] at hhope
    have e1 := oN_neg (w := at0) (by omega)
    have e2 : (Int32.ofNat at0 < Int32.ofNat at0) = False := eq_false (fun q => Int32.lt_irrefl q)
    show ∃ I' J', f_X3_tryFrom_b (f_X3_tryFrom fu) (ad b 26) (Int32.ofNat at0) (Int32.ofNat v) (Int32.ofNat u) (lay b F E I L P nx us) = some (lay b F E I' L P nx us) ∧ (∀ Z, f_X15_gives_b (f_X15_gives fv) (ad b 72) (Int32.ofNat at0) (Int32.ofNat l) (Int32.ofNat k) (lay b F E (mM Z J) L P nx us) = some (lay b F E (mM Z J') L P nx us)) ∧ FvX at0 I I' ∧ FvM at0 J J' ∧ BvR np at0 I' J'
    have up : (I 26 10 < Int32.ofNat v + 0) → (∀ Z, f_X15_gives_b (f_X15_gives fv) (ad b 72) (Int32.ofNat at0) (Int32.ofNat l) (Int32.ofNat k) (lay b F E (mM Z J) L P nx us) = f_X15_gives_33 (f_X15_gives fv) (ad b 72) (Int32.ofNat l) (Int32.ofNat k) (lay b F E (mM Z J) L P nx us)) → ∃ I' J', f_X3_tryFrom_b (f_X3_tryFrom fu) (ad b 26) (Int32.ofNat at0) (Int32.ofNat v) (Int32.ofNat u) (lay b F E I L P nx us) = some (lay b F E I' L P nx us) ∧ (∀ Z, f_X15_gives_b (f_X15_gives fv) (ad b 72) (Int32.ofNat at0) (Int32.ofNat l) (Int32.ofNat k) (lay b F E (mM Z J) L P nx us) = some (lay b F E (mM Z J') L P nx us)) ∧ FvX at0 I I' ∧ FvM at0 J J' ∧ BvR np at0 I' J' := by
      intro c1 c2
      have h46 := M_46 (b := b) (F := F) (E := E) (L := L) (P := P) (nx := nx) (us := us) (kX := f_X15_gives fv) g8 at0 0 (by omega) FU
      refine ⟨u2 (u2 I 26 (upd (I 26) 10 (Int32.ofNat v))) 31 (va_cpy (I 30) (I 31) 0 0 6), u2 (u2 J 72 (upd (upd (J 72) 73 (Int32.ofNat l)) 74 (Int32.ofNat k))) 120 (cpF 0 at0 (J 119) (J 120)), ?_, ?_, ?_, ?_, ?_⟩
      · simp (decide := true) only [f_X3_tryFrom_b, e1, e2, gb, hhope, c1, cpI_6, isO_s, gI_s, gA_s, gL_s, pI_s, pZ_s, pL_s, aI_s, aL_s, aN_s, aQ_s, sI_s, sL_s, cr, LNs, Option.map_some, Option.map_none, Option.bind_some, b2, tr, lt, if_true, if_false, ckZ, X_within, M_in, inR_z, X_refuse, X_tell, X_deny, X_grant, M_refused, M_denied, M_done, M_granted, u2_same, u2_ne, u2_u2, upd_same, upd_ne, aW0, ixR_z, ixR_1, M_isWall, M_isPainter, M_isWork, X_has4, X_has10, X_at, or_false, false_or, or_true, true_or, not_true, not_false_iff, Option.isSome_some, isO_d, gI_d, gA_d, pI_d, ne_eq, not_false_eq_true, u2_hi, u2_hj, u2_dyn, u2_dynj, Nat.reduceAdd, mX_r, mX_rD, mX_rDj, mM_r, mX_u, mX_uM, mX_uD, mX_uDj, mM_u, mM_uX, mM_uD, mM_uDj, u2_dd, u2_d0, u2_0d]
      · intro Z
        have h46 := h46 (u2 (mM Z J) 72 (upd (upd (J 72) 73 (Int32.ofNat l)) 74 (Int32.ofNat k))) (by unfold FU; omega) (by simp (decide := true) only [u2_same, u2_ne, u2_u2, upd_same, upd_ne, mE, u2_dyn, dyn_u2, dyn_hi, u2_hi, u2_hj, u2_dynj, u2_dd, u2_d0, u2_0d]; exact m8)
        rw [show Int32.ofNat 0 = 0 from rfl] at h46
        simp (decide := true) only [mM_r, u2_same, u2_ne, u2_u2, upd_same, upd_ne, mE, u2_dyn, dyn_u2, dyn_hi, u2_hi, u2_hj, u2_dynj, u2_dd, u2_d0, u2_0d] at h46
        rw [c2 Z]
        simp (decide := true) only [f_X15_gives_33, isO_s, gI_s, gA_s, gL_s, pI_s, pZ_s, pL_s, aI_s, aL_s, aN_s, aQ_s, sI_s, sL_s, cr, LNs, Option.map_some, Option.map_none, Option.bind_some, b2, tr, lt, if_true, if_false, ckZ, X_within, M_in, inR_z, X_refuse, X_tell, X_deny, X_grant, M_refused, M_denied, M_done, M_granted, u2_same, u2_ne, u2_u2, upd_same, upd_ne, aW0, ixR_z, ixR_1, M_isWall, M_isPainter, M_isWork, X_has4, X_has10, X_at, or_false, false_or, or_true, true_or, not_true, not_false_iff, Option.isSome_some, isO_d, gI_d, gA_d, pI_d, ne_eq, not_false_eq_true, u2_hi, u2_hj, u2_dyn, u2_dynj, Nat.reduceAdd, mX_r, mX_rD, mX_rDj, mM_r, mX_u, mX_uM, mX_uD, mX_uDj, mM_u, mM_uX, mM_uD, mM_uDj, u2_dd, u2_d0, u2_0d]
        exact h46
      · exact ⟨fun c h1 h2 h3 => by rw [u2_ne h2, u2_ne h3], fun k hk => by simp (decide := true) only [u2_same, u2_ne, u2_u2, upd_same, upd_ne, mE, u2_dyn, dyn_u2, dyn_hi, u2_hi, u2_hj, u2_dynj, u2_dd, u2_d0, u2_0d]; exact upd_ne hk, fun k hk => by simp (decide := true) only [u2_same, u2_ne, u2_u2, upd_same, upd_ne, mE, u2_dyn, dyn_u2, dyn_hi, u2_hi, u2_hj, u2_dynj, u2_dd, u2_d0, u2_0d]⟩
      · exact ⟨fun c h1 h2 h3 => by rw [u2_ne h2, u2_ne h3], fun k hk hk' => by simp (decide := true) only [u2_same, u2_ne, u2_u2, upd_same, upd_ne, mE, u2_dyn, dyn_u2, dyn_hi, u2_hi, u2_hj, u2_dynj, u2_dd, u2_d0, u2_0d]; rw [upd_ne hk', upd_ne hk], fun k hk => by simp (decide := true) only [u2_same, u2_ne, u2_u2, upd_same, upd_ne, mE, u2_dyn, dyn_u2, dyn_hi, u2_hi, u2_hj, u2_dynj, u2_dd, u2_d0, u2_0d]⟩
      · refine ⟨l, k, v, by omega, by omega, hv, by simp (decide := true) only [u2_same, u2_ne, u2_u2, upd_same, upd_ne, mE, u2_dyn, dyn_u2, dyn_hi, u2_hi, u2_hj, u2_dynj, u2_dd, u2_d0, u2_0d], by simp (decide := true) only [u2_same, u2_ne, u2_u2, upd_same, upd_ne, mE, u2_dyn, dyn_u2, dyn_hi, u2_hi, u2_hj, u2_dynj, u2_dd, u2_d0, u2_0d], by simp (decide := true) only [u2_same, u2_ne, u2_u2, upd_same, upd_ne, mE, u2_dyn, dyn_u2, dyn_hi, u2_hi, u2_hj, u2_dynj, u2_dd, u2_d0, u2_0d], ?_, ?_⟩
        · intro i hi
          simp (decide := true) only [u2_same, u2_ne, u2_u2, upd_same, upd_ne, mE, u2_dyn, dyn_u2, dyn_hi, u2_hi, u2_hj, u2_dynj, u2_dd, u2_d0, u2_0d]
          rw [cpy_6 (by omega), cpF_in (by omega) hi]
          exact hIJ i hi
        · simp (decide := true) only [u2_same, u2_ne, u2_u2, upd_same, upd_ne, mE, u2_dyn, dyn_u2, dyn_hi, u2_hi, u2_hj, u2_dynj, u2_dd, u2_d0, u2_0d]
          exact TRd_cg (fun j hj => cpy_6 (by omega)) hT
    rcases hB with ⟨b1, b2', b3⟩ | ⟨L', K, V, k1, k2, k3, k4, k5, k6, k7, k8⟩
    · refine up ?_ ?_
      · rw [b1, Int32.add_zero]
        have : ¬ Int32.ofNat v ≤ -1 := fun q => by
          have h1 := oN_neg (w := v) (by omega)
          exact h1 ▸ (Int32.lt_of_le_of_lt q (by decide))
        exact Int32.not_le.mp this
      · have c1 : (Int32.ofNat l < -1) = False := eq_false fun q => by
          have h1 := oN_neg (w := l) (by omega)
          exact h1 ▸ (Int32.lt_trans q (by decide))
        have c2 : ¬ (Int32.ofNat l = -1) := fun q => by
          have h1 := oN_neg (w := l) (by omega)
          rw [q] at h1
          exact h1 ▸ (by decide)
        intro Z
        simp (decide := true) only [f_X15_gives_b, m8, b2', b3, c1, c2, isO_s, gI_s, gA_s, gL_s, pI_s, pZ_s, pL_s, aI_s, aL_s, aN_s, aQ_s, sI_s, sL_s, cr, LNs, Option.map_some, Option.map_none, Option.bind_some, b2, tr, lt, if_true, if_false, ckZ, X_within, M_in, inR_z, X_refuse, X_tell, X_deny, X_grant, M_refused, M_denied, M_done, M_granted, u2_same, u2_ne, u2_u2, upd_same, upd_ne, aW0, ixR_z, ixR_1, M_isWall, M_isPainter, M_isWork, X_has4, X_has10, X_at, or_false, false_or, or_true, true_or, not_true, not_false_iff, Option.isSome_some, isO_d, gI_d, gA_d, pI_d, ne_eq, not_false_eq_true, u2_hi, u2_hj, u2_dyn, u2_dynj, Nat.reduceAdd, mX_r, mX_rD, mX_rDj, mM_r, mX_u, mX_uM, mX_uD, mX_uDj, mM_u, mM_uX, mM_uD, mM_uDj, u2_dd, u2_d0, u2_0d]
    · have hlf := M_leafK (b := b) (F := F) (E := E) (L := L) (P := P) (nx := nx) (us := us) (kX := f_X15_gives fv) (l := l) (k := k) hGM' k5 k6 (by omega) k1 (by omega) k2
      by_cases hc : V < v
      · refine up ?_ ?_
        · rw [k4, Int32.add_zero]
          exact (oN_lt (by omega) (by omega)).mpr hc
        · intro Z
          rw [hlf Z, if_neg (by omega)]
      · refine ⟨I, J, ?_, ?_, FvX.refl _ _, FvM.refl _ _, ⟨L', K, V, k1, k2, k3, k4, k5, k6, k7, k8⟩⟩
        · have c1 : (Int32.ofNat V < Int32.ofNat v + 0) = False := eq_false fun q => by
            rw [Int32.add_zero] at q
            exact hc ((oN_lt (by omega) (by omega)).mp q)
          simp (decide := true) only [f_X3_tryFrom_b, f_X3_tryFrom_27, e1, e2, gb, hhope, k4, c1, isO_s, gI_s, gA_s, gL_s, pI_s, pZ_s, pL_s, aI_s, aL_s, aN_s, aQ_s, sI_s, sL_s, cr, LNs, Option.map_some, Option.map_none, Option.bind_some, b2, tr, lt, if_true, if_false, ckZ, X_within, M_in, inR_z, X_refuse, X_tell, X_deny, X_grant, M_refused, M_denied, M_done, M_granted, u2_same, u2_ne, u2_u2, upd_same, upd_ne, aW0, ixR_z, ixR_1, M_isWall, M_isPainter, M_isWork, X_has4, X_has10, X_at, or_false, false_or, or_true, true_or, not_true, not_false_iff, Option.isSome_some, isO_d, gI_d, gA_d, pI_d, ne_eq, not_false_eq_true, u2_hi, u2_hj, u2_dyn, u2_dynj, Nat.reduceAdd, mX_r, mX_rD, mX_rDj, mM_r, mX_u, mX_uM, mX_uD, mX_uDj, mM_u, mM_uX, mM_uD, mM_uDj, u2_dd, u2_d0, u2_0d]
        · intro Z
          rw [hlf Z, if_pos (by omega)]
  | succ d ih =>
    intro at0 u l k v I J fu fv hd hf hf' hIr hGX hGM hIJ hT hU hu hv hr hl hB
    obtain ⟨fu, rfl⟩ : ∃ f, fu = f + 1 := ⟨fu - 1, by omega⟩
    obtain ⟨fv, rfl⟩ : ∃ f, fv = f + 1 := ⟨fv - 1, by omega⟩
    have hat : at0 < n := by omega
    have hGM' := hGM
    have hGX' := hGX
    obtain ⟨g1, g2, g3, g4, g5, g6, g7, g8, g9, ga, gb, gc, gd, ge, gf, gg, gh, gi⟩ := hGX
    obtain ⟨-, -, -, -, -, -, -, m8, -⟩ := hGM
    have hhope := X_hope (b := b) (F := F) (E := E) (L := L) (P := P) (nx := nx) (us := us) (I := I) (at0 := at0) (u := u) g5 g6 g8 gc gd ge gf (by omega) hu
    obtain ⟨h, hh, eh⟩ := hH.2.1 at0 (Nat.zero_le _) (by omega) u hu
    have hh6 : h ≤ 610560 := by
      have : (n - at0) * 101760 ≤ 6 * 101760 := Nat.mul_le_mul_right _ (by omega)
      omega
    rw [hIr, eh] at hhope
    have e1 := oN_neg (w := at0) (by omega)
    have e2 : (Int32.ofNat n < Int32.ofNat at0) = False := eq_false fun q => by
      have := (oN_lt (by omega) (by omega)).mp q
      omega
    have ne : ¬ Int32.ofNat at0 = Int32.ofNat n := fun q => by
      have := (oN_eq (by omega) (by omega)).mp q
      omega
    have lp : ∀ (m i : Nat), i + m = np → ∀ (f f' : Nat) (I J : Nat → Nat → Int32), m < f → m < f' → I hc = r → GvX E P s nw np n hc len q wd hg ow ak m85 m111 W I → GvM s nw nk np nv n ak m85 m111 cn lN wN J → (∀ j, j < at0 → I 30 j = J 119 j) → TRd np at0 (I 30) → UvB np at0 u (I 30) → (BvR0 I J ∨ BvR np n I J) → ∃ I' J', f_X3_tryFrom_60 (f_X3_tryFrom fu) f (ad b 26) (Int32.ofNat at0) (Int32.ofNat v) (Int32.ofNat u) (Int32.ofNat i) (lay b F E I L P nx us) = some (lay b F E I' L P nx us) ∧ (∀ Z, f_X15_gives_79 (f_X15_gives fv) f' (ad b 72) (Int32.ofNat at0) (Int32.ofNat l) (Int32.ofNat k) (Int32.ofNat i) (lay b F E (mM Z J) L P nx us) = some (lay b F E (mM Z J') L P nx us)) ∧ FvX at0 I I' ∧ FvM at0 J J' ∧ BvR np n I' J' := by
      intro m
      induction m with
      | zero =>
        intro i hi f f' I J hf1 hf2 hIr hGX hGM hIJ hT hU hB
        obtain ⟨f, rfl⟩ : ∃ z, f = z + 1 := ⟨f - 1, by omega⟩
        obtain ⟨f', rfl⟩ : ∃ z, f' = z + 1 := ⟨f' - 1, by omega⟩
        have : i = np := by omega
        subst this
        rw [X_sN hGX hat f]
        obtain ⟨I', J', z1, z2, z3, z4, z5⟩ := ih (at0 + 1) u l k v (u2 I 30 (upd (I 30) at0 (-2))) (u2 J 119 (upd (J 119) at0 (-2))) fu fv (by omega) (by omega) (by omega) (by rw [u2_ne (by omega)]; exact hIr) (hGX.fr (FvX.row (at0 := at0))) (hGM.fr (FvM.row (at0 := at0))) (fun j hj => by
          simp (decide := true) only [u2_same, u2_ne, u2_u2, upd_same, upd_ne, mE, u2_dyn, dyn_u2, dyn_hi, u2_hi, u2_hj, u2_dynj, u2_dd, u2_d0, u2_0d]
          by_cases hj' : j = at0
          · subst hj'; rw [upd_same, upd_same]
          · rw [upd_ne hj', upd_ne hj']; exact hIJ j (by omega)) (by simp (decide := true) only [u2_same, u2_ne, u2_u2, upd_same, upd_ne, mE, u2_dyn, dyn_u2, dyn_hi, u2_hi, u2_hj, u2_dynj, u2_dd, u2_d0, u2_0d]; exact TRd_no hT) (by simp (decide := true) only [u2_same, u2_ne, u2_u2, upd_same, upd_ne, mE, u2_dyn, dyn_u2, dyn_hi, u2_hi, u2_hj, u2_dynj, u2_dd, u2_d0, u2_0d]; exact UB_no g6 hU) hu hv hr (by omega) (BR_row hB)
        exact ⟨I', J', z1, fun Z => by rw [M_sNK hGM hat f' Z]; exact z2 Z, FvX.row.trans z3 (by omega), FvM.row.trans z4 (by omega), z5⟩
      | succ m ihm =>
        intro i hi f f' I J hf1 hf2 hIr hGX hGM hIJ hT hU hB
        obtain ⟨f, rfl⟩ : ∃ z, f = z + 1 := ⟨f - 1, by omega⟩
        obtain ⟨f', rfl⟩ : ∃ z, f' = z + 1 := ⟨f' - 1, by omega⟩
        have hin : i < np := by omega
        have hTm : TRd np at0 (J 119) := TRd_cg (fun j hj => (hIJ j hj).symm) hT
        have ss := M_sCK (b := b) (F := F) (E := E) (L := L) (P := P) (nx := nx) (us := us) (kX := f_X15_gives fv) (x := Int32.ofNat l) (y := Int32.ofNat k) hGM hat hin hTm f'
        obtain ⟨t1, t2⟩ := X_sC (b := b) (F := F) (E := E) (L := L) (P := P) (nx := nx) (us := us) (kX := f_X3_tryFrom fu) (x := Int32.ofNat v) hGX hSy hGW hat hin hu hT hU f
        by_cases ok : okS cn np (I 30) m85 m111 ak at0 i
        · rw [t1 ok]
          have ok' := (okS_cg (cn := cn) (np := np) (m85 := m85) (m111 := m111) (ak := ak) (i := i) (fun j hj => (hIJ j hj).symm)).mpr ok
          have hb := ok_bit hin hU ok
          obtain ⟨w1, w2⟩ := ((hGW.2 at0 i hat hin).2.1 ok.1)
          have w3 := (hGW.2 at0 i hat hin).1
          have w4 := hGW.1 i hin
          have hrm := rm_s (wN := wN) hin hb
          have hu2 : u ||| 2 ^ i < 2 ^ np := Nat.or_lt_two_pow hu (Nat.pow_lt_pow_right (by omega) hin)
          obtain ⟨I1, J1, z1, z2, z3, z4, z5⟩ := ih (at0 + 1) (u ||| 2 ^ i) (l + lN at0 i) (k + wN i) (v + (64 * lN at0 i - wN i)) (u2 I 30 (upd (I 30) at0 (Int32.ofNat i))) (u2 J 119 (upd (J 119) at0 (Int32.ofNat i))) fu fv (by omega) (by omega) (by omega) (by rw [u2_ne (by omega)]; exact hIr) (hGX.fr (FvX.row (at0 := at0))) (hGM.fr (FvM.row (at0 := at0))) (fun j hj => by
            simp (decide := true) only [u2_same, u2_ne, u2_u2, upd_same, upd_ne, mE, u2_dyn, dyn_u2, dyn_hi, u2_hi, u2_hj, u2_dynj, u2_dd, u2_d0, u2_0d]
            by_cases hj' : j = at0
            · subst hj'; rw [upd_same, upd_same]
            · rw [upd_ne hj', upd_ne hj']; exact hIJ j (by omega)) (by simp (decide := true) only [u2_same, u2_ne, u2_u2, upd_same, upd_ne, mE, u2_dyn, dyn_u2, dyn_hi, u2_hi, u2_hj, u2_dynj, u2_dd, u2_d0, u2_0d]; exact TRd_ch hin hT) (by simp (decide := true) only [u2_same, u2_ne, u2_u2, upd_same, upd_ne, mE, u2_dyn, dyn_u2, dyn_hi, u2_hi, u2_hj, u2_dynj, u2_dd, u2_d0, u2_0d]; exact UB_ch g6 hin hU) hu2 (by omega) (by omega) (by omega) (BR_row hB)
          rw [w2, oN_add, z1]
          have y1 : FvX at0 I I1 := FvX.row.trans z3 (by omega)
          have y2 : FvM at0 J J1 := FvM.row.trans z4 (by omega)
          obtain ⟨I', J', u1, u2', u3, u4, u5⟩ := ihm (i + 1) (by omega) f f' I1 J1 (by omega) (by omega) (by rw [y1.1 hc (by omega) (by omega) (by omega)]; exact hIr) (hGX.fr y1) (hGM.fr y2) (fun j hj => by rw [y1.2.2 j hj, y2.2.2 j hj]; exact hIJ j hj) (TRd_cg y1.2.2 hT) (UB_cg y1.2.2 hU) (Or.inr z5)
          refine ⟨I', J', u1, fun Z => by rw [(ss Z).1 ok', oN_add, oN_add, z2 Z]; exact u2' Z, y1.trans u3 (Nat.le_refl _), y2.trans u4 (Nat.le_refl _), u5⟩
        · rw [t2 ok]
          obtain ⟨I', J', u1, u2', u3⟩ := ihm (i + 1) (by omega) f f' I J (by omega) (by omega) hIr hGX hGM hIJ hT hU hB
          exact ⟨I', J', u1, fun Z => by rw [(ss Z).2 (fun q => ok ((okS_cg (fun j hj => (hIJ j hj).symm)).mp q))]; exact u2' Z, u3⟩
    show ∃ I' J', f_X3_tryFrom_b (f_X3_tryFrom fu) (ad b 26) (Int32.ofNat at0) (Int32.ofNat v) (Int32.ofNat u) (lay b F E I L P nx us) = some (lay b F E I' L P nx us) ∧ (∀ Z, f_X15_gives_b (f_X15_gives fv) (ad b 72) (Int32.ofNat at0) (Int32.ofNat l) (Int32.ofNat k) (lay b F E (mM Z J) L P nx us) = some (lay b F E (mM Z J') L P nx us)) ∧ FvX at0 I I' ∧ FvM at0 J J' ∧ BvR np n I' J'
    have go : I 26 10 < Int32.ofNat (v + h) → ∃ I' J', f_X3_tryFrom_b (f_X3_tryFrom fu) (ad b 26) (Int32.ofNat at0) (Int32.ofNat v) (Int32.ofNat u) (lay b F E I L P nx us) = some (lay b F E I' L P nx us) ∧ (∀ Z, f_X15_gives_b (f_X15_gives fv) (ad b 72) (Int32.ofNat at0) (Int32.ofNat l) (Int32.ofNat k) (lay b F E (mM Z J) L P nx us) = some (lay b F E (mM Z J') L P nx us)) ∧ FvX at0 I I' ∧ FvM at0 J J' ∧ BvR np n I' J' := by
      intro c1
      obtain ⟨I', J', z1, z2, z3⟩ := lp np 0 (by omega) FU FU I J (by unfold FU; omega) (by unfold FU; omega) hIr hGX' hGM' hIJ hT hU hB
      rw [show Int32.ofNat 0 = 0 from rfl] at z1
      refine ⟨I', J', ?_, ?_, z3⟩
      · simp (decide := true) only [f_X3_tryFrom_b, e1, e2, gb, hhope, oN_add, c1, ne, isO_s, gI_s, gA_s, gL_s, pI_s, pZ_s, pL_s, aI_s, aL_s, aN_s, aQ_s, sI_s, sL_s, cr, LNs, Option.map_some, Option.map_none, Option.bind_some, b2, tr, lt, if_true, if_false, ckZ, X_within, M_in, inR_z, X_refuse, X_tell, X_deny, X_grant, M_refused, M_denied, M_done, M_granted, u2_same, u2_ne, u2_u2, upd_same, upd_ne, aW0, ixR_z, ixR_1, M_isWall, M_isPainter, M_isWork, X_has4, X_has10, X_at, or_false, false_or, or_true, true_or, not_true, not_false_iff, Option.isSome_some, isO_d, gI_d, gA_d, pI_d, ne_eq, not_false_eq_true, u2_hi, u2_hj, u2_dyn, u2_dynj, Nat.reduceAdd, mX_r, mX_rD, mX_rDj, mM_r, mX_u, mX_uM, mX_uD, mX_uDj, mM_u, mM_uX, mM_uD, mM_uDj, u2_dd, u2_d0, u2_0d]
        exact z1
      · intro Z
        have z2 := z2 Z
        rw [show Int32.ofNat 0 = 0 from rfl] at z2
        simp (decide := true) only [f_X15_gives_b, m8, ne, isO_s, gI_s, gA_s, gL_s, pI_s, pZ_s, pL_s, aI_s, aL_s, aN_s, aQ_s, sI_s, sL_s, cr, LNs, Option.map_some, Option.map_none, Option.bind_some, b2, tr, lt, if_true, if_false, ckZ, X_within, M_in, inR_z, X_refuse, X_tell, X_deny, X_grant, M_refused, M_denied, M_done, M_granted, u2_same, u2_ne, u2_u2, upd_same, upd_ne, aW0, ixR_z, ixR_1, M_isWall, M_isPainter, M_isWork, X_has4, X_has10, X_at, or_false, false_or, or_true, true_or, not_true, not_false_iff, Option.isSome_some, isO_d, gI_d, gA_d, pI_d, ne_eq, not_false_eq_true, u2_hi, u2_hj, u2_dyn, u2_dynj, Nat.reduceAdd, mX_r, mX_rD, mX_rDj, mM_r, mX_u, mX_uM, mX_uD, mX_uDj, mM_u, mM_uX, mM_uD, mM_uDj, u2_dd, u2_d0, u2_0d]
        exact z2
    rcases hB with hB | hB
    · refine go ?_
      rw [hB.1]
      have : ¬ Int32.ofNat (v + h) ≤ -1 := fun q => by
        have h1 := oN_neg (w := v + h) (by omega)
        exact h1 ▸ (Int32.lt_of_le_of_lt q (by decide))
      exact Int32.not_le.mp this
    · obtain ⟨L', K, V, k1, k2, k3, k4, k5, k6, k7, k8⟩ := hB
      by_cases hc2 : V < v + h
      · refine go ?_
        rw [k4]
        exact (oN_lt (by omega) (by omega)).mpr hc2
      · have hTm : TRd np at0 (J 119) := TRd_cg (fun j hj => (hIJ j hj).symm) hT
        have hUm : UvB np at0 u (J 119) := UB_cg (fun j hj => (hIJ j hj).symm) hU
        obtain ⟨J', z1, z2, z3, z4⟩ := M_pr (b := b) (F := F) (E := E) (L := L) (P := P) (nx := nx) (us := us) hGW hH k3 k1 k2 (d + 1) at0 u l k v J (fv + 1) hd hf' hGM' hTm hUm hu hv hr hl k5 k6 ⟨h, eh, by omega⟩
        refine ⟨I, J', ?_, z1, FvX.refl _ _, z2, ⟨L', K, V, k1, k2, k3, k4, by rw [z3]; exact k5, by rw [z3]; exact k6, by rw [z4]; exact k7, k8⟩⟩
        have c1 : (Int32.ofNat V < Int32.ofNat (v + h)) = False := eq_false fun q => hc2 ((oN_lt (by omega) (by omega)).mp q)
        simp (decide := true) only [f_X3_tryFrom_b, f_X3_tryFrom_27, e1, e2, gb, hhope, oN_add, k4, c1, isO_s, gI_s, gA_s, gL_s, pI_s, pZ_s, pL_s, aI_s, aL_s, aN_s, aQ_s, sI_s, sL_s, cr, LNs, Option.map_some, Option.map_none, Option.bind_some, b2, tr, lt, if_true, if_false, ckZ, X_within, M_in, inR_z, X_refuse, X_tell, X_deny, X_grant, M_refused, M_denied, M_done, M_granted, u2_same, u2_ne, u2_u2, upd_same, upd_ne, aW0, ixR_z, ixR_1, M_isWall, M_isPainter, M_isWork, X_has4, X_has10, X_at, or_false, false_or, or_true, true_or, not_true, not_false_iff, Option.isSome_some, isO_d, gI_d, gA_d, pI_d, ne_eq, not_false_eq_true, u2_hi, u2_hj, u2_dyn, u2_dynj, Nat.reduceAdd, mX_r, mX_rD, mX_rDj, mM_r, mX_u, mX_uM, mX_uD, mX_uDj, mM_u, mM_uX, mM_uD, mM_uDj, u2_dd, u2_d0, u2_0d]
end GIVK
