/-! ===== give: where the class does not look, the reference finds nothing better ===== -/
section GIVJ
variable {b : Nat} {F : Nat → Option AE} {D E : Nat → Option KD} {I : Nat → Nat → Int32} {L : Nat → Nat → Int64} {P : Nat → Nat → Option Nat} {nx us : Nat}
theorem ok_bit {cn : Nat → Nat → Prop} {np at0 i u : Nat} {t m85 m111 : RW} {ak : Nat → Nat} (hi : i < np) (hU : UvB np at0 u t) (ok : okS cn np t m85 m111 ak at0 i) : u.testBit i = false := by
  by_cases hb : u.testBit i = false
  · exact hb
  · have hb' : u.testBit i = true := by revert hb; cases u.testBit i <;> decide
    obtain ⟨j, j1, j2⟩ := (hU i hi).mp hb'
    exact absurd ⟨j, Nat.zero_le _, j1, Or.inl j2⟩ ok.2
theorem M_leaf {s nw nk np nv n l k L' K : Nat} {ak : Nat → Nat} {m85 m111 : RW} {cn : Nat → Nat → Prop} {lN : Nat → Nat → Nat} {wN : Nat → Nat} {kX : Nat → Int32 → Int32 → Int32 → AH → Option AH} (h : GvM s nw nk np nv n ak m85 m111 cn lN wN I) (h1 : I 72 73 = Int32.ofNat L') (h2 : I 72 74 = Int32.ofNat K) (hl : l ≤ 10000) (hL : L' ≤ 10000) (hk : k ≤ 40) (hK : K ≤ 40) : f_X15_gives_b kX (ad b 72) (Int32.ofNat n) (Int32.ofNat l) (Int32.ofNat k) (lay b F E I L P nx us) = if l < L' ∨ (l = L' ∧ K ≤ k) then some (lay b F E I L P nx us) else f_X15_gives_33 kX (ad b 72) (Int32.ofNat l) (Int32.ofNat k) (lay b F E I L P nx us) := by
  obtain ⟨g1, g2, g3, g4, g5, g6, g7, g8, g9, ga, gb, gc, gd, ge, gf, gg⟩ := h
  have q1 : (Int32.ofNat l < Int32.ofNat L') = (l < L') := propext (oN_lt (by omega) (by omega))
  have q2 : (Int32.ofNat l = Int32.ofNat L') = (l = L') := propext (oN_eq (by omega) (by omega))
  have q3 : (Int32.ofNat k < Int32.ofNat K) = (k < K) := propext (oN_lt (by omega) (by omega))
  by_cases c1 : l < L'
  · rw [if_pos (Or.inl c1)]
    simp (decide := true) only [f_X15_gives_b, f_X15_gives_32, g8, h1, h2, q1, c1, isO_s, gI_s, gA_s, gL_s, pI_s, pZ_s, pL_s, aI_s, aL_s, aN_s, aQ_s, sI_s, sL_s, cr, LNs, Option.map_some, Option.map_none, Option.bind_some, b2, tr, lt, if_true, if_false, ckZ, X_within, M_in, inR_z, X_refuse, X_tell, X_deny, X_grant, M_refused, M_denied, M_done, M_granted, u2_same, u2_ne, u2_u2, upd_same, upd_ne, aW0, ixR_z, ixR_1, M_isWall, M_isPainter, M_isWork, X_has4, X_has10, X_at, or_false, false_or, or_true, true_or, not_true, not_false_iff, Option.isSome_some, isO_d, gI_d, gA_d, pI_d, ne_eq, not_false_eq_true, u2_hi, u2_hj, u2_dyn, u2_dynj, Nat.reduceAdd, mX_r, mX_rD, mX_rDj, mM_r, mX_u, mX_uM, mX_uD, mX_uDj, mM_u, mM_uX, mM_uD, mM_uDj, u2_dd, u2_d0, u2_0d]
  · by_cases c2 : l = L'
    · subst c2
      by_cases c3 : k < K
      · rw [if_neg (by omega)]
        simp (decide := true) only [f_X15_gives_b, f_X15_gives_32, g8, h1, h2, q1, c1, q3, c3, isO_s, gI_s, gA_s, gL_s, pI_s, pZ_s, pL_s, aI_s, aL_s, aN_s, aQ_s, sI_s, sL_s, cr, LNs, Option.map_some, Option.map_none, Option.bind_some, b2, tr, lt, if_true, if_false, ckZ, X_within, M_in, inR_z, X_refuse, X_tell, X_deny, X_grant, M_refused, M_denied, M_done, M_granted, u2_same, u2_ne, u2_u2, upd_same, upd_ne, aW0, ixR_z, ixR_1, M_isWall, M_isPainter, M_isWork, X_has4, X_has10, X_at, or_false, false_or, or_true, true_or, not_true, not_false_iff, Option.isSome_some, isO_d, gI_d, gA_d, pI_d, ne_eq, not_false_eq_true, u2_hi, u2_hj, u2_dyn, u2_dynj, Nat.reduceAdd, mX_r, mX_rD, mX_rDj, mM_r, mX_u, mX_uM, mX_uD, mX_uDj, mM_u, mM_uX, mM_uD, mM_uDj, u2_dd, u2_d0, u2_0d]
      · rw [if_pos (by omega)]
        simp (decide := true) only [f_X15_gives_b, f_X15_gives_32, g8, h1, h2, q1, c1, q3, c3, isO_s, gI_s, gA_s, gL_s, pI_s, pZ_s, pL_s, aI_s, aL_s, aN_s, aQ_s, sI_s, sL_s, cr, LNs, Option.map_some, Option.map_none, Option.bind_some, b2, tr, lt, if_true, if_false, ckZ, X_within, M_in, inR_z, X_refuse, X_tell, X_deny, X_grant, M_refused, M_denied, M_done, M_granted, u2_same, u2_ne, u2_u2, upd_same, upd_ne, aW0, ixR_z, ixR_1, M_isWall, M_isPainter, M_isWork, X_has4, X_has10, X_at, or_false, false_or, or_true, true_or, not_true, not_false_iff, Option.isSome_some, isO_d, gI_d, gA_d, pI_d, ne_eq, not_false_eq_true, u2_hi, u2_hj, u2_dyn, u2_dynj, Nat.reduceAdd, mX_r, mX_rD, mX_rDj, mM_r, mX_u, mX_uM, mX_uD, mX_uDj, mM_u, mM_uX, mM_uD, mM_uDj, u2_dd, u2_d0, u2_0d]
    · rw [if_neg (by omega)]
      simp (decide := true) only [f_X15_gives_b, f_X15_gives_32, g8, h1, h2, q1, c1, q2, c2, isO_s, gI_s, gA_s, gL_s, pI_s, pZ_s, pL_s, aI_s, aL_s, aN_s, aQ_s, sI_s, sL_s, cr, LNs, Option.map_some, Option.map_none, Option.bind_some, b2, tr, lt, if_true, if_false, ckZ, X_within, M_in, inR_z, X_refuse, X_tell, X_deny, X_grant, M_refused, M_denied, M_done, M_granted, u2_same, u2_ne, u2_u2, upd_same, upd_ne, aW0, ixR_z, ixR_1, M_isWall, M_isPainter, M_isWork, X_has4, X_has10, X_at, or_false, false_or, or_true, true_or, not_true, not_false_iff, Option.isSome_some, isO_d, gI_d, gA_d, pI_d, ne_eq, not_false_eq_true, u2_hi, u2_hj, u2_dyn, u2_dynj, Nat.reduceAdd, mX_r, mX_rD, mX_rDj, mM_r, mX_u, mX_uM, mX_uD, mX_uDj, mM_u, mM_uX, mM_uD, mM_uDj, u2_dd, u2_d0, u2_0d]
theorem M_leafK {s nw nk np nv n l k L' K : Nat} {ak : Nat → Nat} {m85 m111 : RW} {cn : Nat → Nat → Prop} {lN : Nat → Nat → Nat} {wN : Nat → Nat} {kX : Nat → Int32 → Int32 → Int32 → AH → Option AH} (h : GvM s nw nk np nv n ak m85 m111 cn lN wN I) (h1 : I 72 73 = Int32.ofNat L') (h2 : I 72 74 = Int32.ofNat K) (hl : l ≤ 10000) (hL : L' ≤ 10000) (hk : k ≤ 40) (hK : K ≤ 40) (Z : Nat → Nat → Int32) : f_X15_gives_b kX (ad b 72) (Int32.ofNat n) (Int32.ofNat l) (Int32.ofNat k) (lay b F E (mM Z I) L P nx us) = if l < L' ∨ (l = L' ∧ K ≤ k) then some (lay b F E (mM Z I) L P nx us) else f_X15_gives_33 kX (ad b 72) (Int32.ofNat l) (Int32.ofNat k) (lay b F E (mM Z I) L P nx us) := M_leaf (h.mm Z) (by rw [mM_r (by decide)]; exact h1) (by rw [mM_r (by decide)]; exact h2) hl hL hk hK
theorem M_pr {s nw nk np nv n L' K V : Nat} {ak : Nat → Nat} {m85 m111 r : RW} {cn : Nat → Nat → Prop} {lN : Nat → Nat → Nat} {wN : Nat → Nat} {W : Nat → Nat → Int32} (hGW : GvW n np cn lN wN W) (hH : HBd W np n 0 r) (hV : V + K = 64 * L') (hL : L' ≤ 10000) (hK : K ≤ 40) : ∀ (d at0 u l k v : Nat) (J : Nat → Nat → Int32) (fu : Nat), at0 + d = n → d < fu → GvM s nw nk np nv n ak m85 m111 cn lN wN J → TRd np at0 (J 119) → UvB np at0 u (J 119) → u < 2 ^ np → v + k = 64 * l → k + rmN wN np u ≤ 40 → l ≤ 1590 * at0 → J 72 73 = Int32.ofNat L' → J 72 74 = Int32.ofNat K → (∃ h, r (at0 * 2 ^ np + u) = Int32.ofNat h ∧ v + h ≤ V) → ∃ J', (∀ Z, f_X15_gives fu (ad b 72) (Int32.ofNat at0) (Int32.ofNat l) (Int32.ofNat k) (lay b F E (mM Z J) L P nx us) = some (lay b F E (mM Z J') L P nx us)) ∧ FvM at0 J J' ∧ J' 72 = J 72 ∧ J' 120 = J 120 := by
  intro d
  induction d with
  | zero =>
    intro at0 u l k v J fu hd hf hG hT hU hu hv hr hl h73 h74 hh
    obtain ⟨fu, rfl⟩ : ∃ f, fu = f + 1 := ⟨fu - 1, by omega⟩
    have : at0 = n := by omega
    subst this
    obtain ⟨h, -, hh⟩ := hh
    have hn6 := hG.2.2.2.2.2.2.1
    refine ⟨J, fun Z => ?_, FvM.refl _ _, rfl, rfl⟩
    show f_X15_gives_b (f_X15_gives fu) (ad b 72) (Int32.ofNat at0) (Int32.ofNat l) (Int32.ofNat k) (lay b F E (mM Z J) L P nx us) = some (lay b F E (mM Z J) L P nx us)
    rw [M_leafK hG h73 h74 (by omega) hL (by omega) hK Z, if_pos (by omega)]
  | succ d ih =>
    intro at0 u l k v J fu hd hf hG hT hU hu hv hr hl h73 h74 hh
    obtain ⟨fu, rfl⟩ : ∃ f, fu = f + 1 := ⟨fu - 1, by omega⟩
    have hat : at0 < n := by omega
    have hn6 := hG.2.2.2.2.2.2.1
    have hp1 := hG.2.2.2.1
    obtain ⟨h, e, hle⟩ := hh
    obtain ⟨b1, b2'⟩ := hH.2.2 at0 (Nat.zero_le _) hat u hu
    obtain ⟨h0, hh0, eh0⟩ := hH.2.1 at0 (Nat.zero_le _) (by omega) u hu
    have mb : ∀ a, (n - a) * 101760 ≤ 610560 := fun a => by
      have : (n - a) * 101760 ≤ 6 * 101760 := Nat.mul_le_mul_right _ (by omega)
      omega
    have lp : ∀ (m i : Nat), i + m = np → ∀ (f : Nat) (J : Nat → Nat → Int32), m < f → GvM s nw nk np nv n ak m85 m111 cn lN wN J → TRd np at0 (J 119) → UvB np at0 u (J 119) → J 72 73 = Int32.ofNat L' → J 72 74 = Int32.ofNat K → ∃ J', (∀ Z, f_X15_gives_79 (f_X15_gives fu) f (ad b 72) (Int32.ofNat at0) (Int32.ofNat l) (Int32.ofNat k) (Int32.ofNat i) (lay b F E (mM Z J) L P nx us) = some (lay b F E (mM Z J') L P nx us)) ∧ FvM at0 J J' ∧ J' 72 = J 72 ∧ J' 120 = J 120 := by
      intro m
      induction m with
      | zero =>
        intro i hi f J hf2 hG hT hU h73 h74
        obtain ⟨f, rfl⟩ : ∃ z, f = z + 1 := ⟨f - 1, by omega⟩
        have : i = np := by omega
        subst this
        obtain ⟨x1, hx1, ex1⟩ := hH.2.1 (at0 + 1) (Nat.zero_le _) (by omega) u hu
        have mb1 := mb (at0 + 1)
        have mb0 := mb at0
        have hx : x1 ≤ h := by
          have eh : h = h0 ∨ ¬ h = h0 := Classical.em _
          rw [ex1, eh0] at b1
          have q := (oN_le (by omega) (by omega)).mp b1
          rw [eh0] at e
          have hb : h < 2147483648 := by omega
          have := (oN_eq (by omega) hb).mp e
          omega
        obtain ⟨J', z1, z2, z3, z4⟩ := ih (at0 + 1) u l k v (u2 J 119 (upd (J 119) at0 (-2))) fu (by omega) (by omega) (hG.fr FvM.row) (by simp (decide := true) only [u2_same, u2_ne, u2_u2, upd_same, upd_ne, mE, u2_dyn, dyn_u2, dyn_hi, u2_hi, u2_hj, u2_dynj, u2_dd, u2_d0, u2_0d]; exact TRd_no hT) (by simp (decide := true) only [u2_same, u2_ne, u2_u2, upd_same, upd_ne, mE, u2_dyn, dyn_u2, dyn_hi, u2_hi, u2_hj, u2_dynj, u2_dd, u2_d0, u2_0d]; exact UB_no hp1 hU) hu hv hr (by omega) (by simp (decide := true) only [u2_same, u2_ne, u2_u2, upd_same, upd_ne, mE, u2_dyn, dyn_u2, dyn_hi, u2_hi, u2_hj, u2_dynj, u2_dd, u2_d0, u2_0d]; exact h73) (by simp (decide := true) only [u2_same, u2_ne, u2_u2, upd_same, upd_ne, mE, u2_dyn, dyn_u2, dyn_hi, u2_hi, u2_hj, u2_dynj, u2_dd, u2_d0, u2_0d]; exact h74) ⟨x1, ex1, by omega⟩
        refine ⟨J', fun Z => by rw [M_sNK hG hat f Z]; exact z1 Z, FvM.row.trans z2 (by omega), ?_, ?_⟩
        · rw [z3]; simp (decide := true) only [u2_same, u2_ne, u2_u2, upd_same, upd_ne, mE, u2_dyn, dyn_u2, dyn_hi, u2_hi, u2_hj, u2_dynj, u2_dd, u2_d0, u2_0d]
        · rw [z4]; simp (decide := true) only [u2_same, u2_ne, u2_u2, upd_same, upd_ne, mE, u2_dyn, dyn_u2, dyn_hi, u2_hi, u2_hj, u2_dynj, u2_dd, u2_d0, u2_0d]
      | succ m ihm =>
        intro i hi f J hf2 hG hT hU h73 h74
        obtain ⟨f, rfl⟩ : ∃ z, f = z + 1 := ⟨f - 1, by omega⟩
        have hin : i < np := by omega
        have ss := M_sCK (b := b) (F := F) (E := E) (L := L) (P := P) (nx := nx) (us := us) (kX := f_X15_gives fu) (x := Int32.ofNat l) (y := Int32.ofNat k) hG hat hin hT f
        by_cases ok : okS cn np (J 119) m85 m111 ak at0 i
        · have hb := ok_bit hin hU ok
          obtain ⟨w1, w2⟩ := ((hGW.2 at0 i hat hin).2.1 ok.1)
          have w3 := (hGW.2 at0 i hat hin).1
          have w4 := hGW.1 i hin
          have hrm := rm_s (wN := wN) hin hb
          have hu2 : u ||| 2 ^ i < 2 ^ np := Nat.or_lt_two_pow hu (Nat.pow_lt_pow_right (by omega) hin)
          obtain ⟨x1, hx1, ex1⟩ := hH.2.1 (at0 + 1) (Nat.zero_le _) (by omega) (u ||| 2 ^ i) hu2
          have mb1 := mb (at0 + 1)
          have mb0 := mb at0
          have hx : 64 * lN at0 i - wN i + x1 ≤ h := by
            have q0 := b2' i hin hb (fun q => (GW_pos hGW hat hin).mp q ok.1)
            rw [w2, ex1, eh0, oN_add] at q0
            have q := (oN_le (by omega) (by omega)).mp q0
            rw [eh0] at e
            have hb : h < 2147483648 := by omega
            have := (oN_eq (by omega) hb).mp e
            omega
          obtain ⟨J1, z1, z2, z3, z4⟩ := ih (at0 + 1) (u ||| 2 ^ i) (l + lN at0 i) (k + wN i) (v + (64 * lN at0 i - wN i)) (u2 J 119 (upd (J 119) at0 (Int32.ofNat i))) fu (by omega) (by omega) (hG.fr FvM.row) (by simp (decide := true) only [u2_same, u2_ne, u2_u2, upd_same, upd_ne, mE, u2_dyn, dyn_u2, dyn_hi, u2_hi, u2_hj, u2_dynj, u2_dd, u2_d0, u2_0d]; exact TRd_ch hin hT) (by simp (decide := true) only [u2_same, u2_ne, u2_u2, upd_same, upd_ne, mE, u2_dyn, dyn_u2, dyn_hi, u2_hi, u2_hj, u2_dynj, u2_dd, u2_d0, u2_0d]; exact UB_ch hp1 hin hU) hu2 (by omega) (by omega) (by omega) (by simp (decide := true) only [u2_same, u2_ne, u2_u2, upd_same, upd_ne, mE, u2_dyn, dyn_u2, dyn_hi, u2_hi, u2_hj, u2_dynj, u2_dd, u2_d0, u2_0d]; exact h73) (by simp (decide := true) only [u2_same, u2_ne, u2_u2, upd_same, upd_ne, mE, u2_dyn, dyn_u2, dyn_hi, u2_hi, u2_hj, u2_dynj, u2_dd, u2_d0, u2_0d]; exact h74) ⟨x1, ex1, by omega⟩
          have y1 : FvM at0 J J1 := FvM.row.trans z2 (by omega)
          have y2 : J1 72 = J 72 := by rw [z3]; simp (decide := true) only [u2_same, u2_ne, u2_u2, upd_same, upd_ne, mE, u2_dyn, dyn_u2, dyn_hi, u2_hi, u2_hj, u2_dynj, u2_dd, u2_d0, u2_0d]
          have y3 : J1 120 = J 120 := by rw [z4]; simp (decide := true) only [u2_same, u2_ne, u2_u2, upd_same, upd_ne, mE, u2_dyn, dyn_u2, dyn_hi, u2_hi, u2_hj, u2_dynj, u2_dd, u2_d0, u2_0d]
          obtain ⟨J', u1, u2', u3, u4⟩ := ihm (i + 1) (by omega) f J1 (by omega) (hG.fr y1) (TRd_cg y1.2.2 hT) (UB_cg y1.2.2 hU) (by rw [y2]; exact h73) (by rw [y2]; exact h74)
          refine ⟨J', fun Z => ?_, y1.trans u2' (Nat.le_refl _), u3.trans y2, u4.trans y3⟩
          rw [(ss Z).1 ok, oN_add, oN_add, z1 Z]
          exact u1 Z
        · obtain ⟨J', u1, u2'⟩ := ihm (i + 1) (by omega) f J (by omega) hG hT hU h73 h74
          exact ⟨J', fun Z => by rw [(ss Z).2 ok]; exact u1 Z, u2'⟩
    obtain ⟨J', z1, z2⟩ := lp np 0 (by omega) FU J (by unfold FU; omega) hG hT hU h73 h74
    refine ⟨J', fun Z => ?_, z2⟩
    have g8 := (hG.mm Z).2.2.2.2.2.2.2.1
    have ne : ¬ Int32.ofNat at0 = Int32.ofNat n := fun q => by
      have := (oN_eq (by omega) (by omega)).mp q
      omega
    have z1 := z1 Z
    rw [show Int32.ofNat 0 = 0 from rfl] at z1
    show f_X15_gives_b (f_X15_gives fu) (ad b 72) (Int32.ofNat at0) (Int32.ofNat l) (Int32.ofNat k) (lay b F E (mM Z J) L P nx us) = some (lay b F E (mM Z J') L P nx us)
    simp (decide := true) only [f_X15_gives_b, g8, ne, isO_s, gI_s, gA_s, gL_s, pI_s, pZ_s, pL_s, aI_s, aL_s, aN_s, aQ_s, sI_s, sL_s, cr, LNs, Option.map_some, Option.map_none, Option.bind_some, b2, tr, lt, if_true, if_false, ckZ, X_within, M_in, inR_z, X_refuse, X_tell, X_deny, X_grant, M_refused, M_denied, M_done, M_granted, u2_same, u2_ne, u2_u2, upd_same, upd_ne, aW0, ixR_z, ixR_1, M_isWall, M_isPainter, M_isWork, X_has4, X_has10, X_at, or_false, false_or, or_true, true_or, not_true, not_false_iff, Option.isSome_some, isO_d, gI_d, gA_d, pI_d, ne_eq, not_false_eq_true, u2_hi, u2_hj, u2_dyn, u2_dynj, Nat.reduceAdd, mX_r, mX_rD, mX_rDj, mX_u, mX_uM, mX_uD, mX_uDj, mM_u, mM_uX, mM_uD, mM_uDj, u2_dd, u2_d0, u2_0d]
    exact z1
end GIVJ
