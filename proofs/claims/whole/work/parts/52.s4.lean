/-! ===== sold, weather ===== -/
theorem inR_1 (p a c : Int32) : (inR p a c = 1) = (a ≤ p ∧ p ≤ c) := by
  unfold inR
  apply propext
  by_cases h1 : p < a
  · simp [h1, Int32.not_le.mpr h1]
  · by_cases h2 : c < p
    · simp [h1, h2, Int32.not_le.mpr h2]
    · simp [h1, h2, Int32.not_lt.mp h1, Int32.not_lt.mp h2]
theorem inR_eq {p a c a' c' : Int32} (h : (a ≤ p ∧ p ≤ c) ↔ (a' ≤ p ∧ p ≤ c')) : inR p a c = inR p a' c' := by
  by_cases h1 : a ≤ p ∧ p ≤ c
  · have e1 := (inR_1 p a c).symm ▸ h1
    have e2 := (inR_1 p a' c').symm ▸ (h.mp h1)
    rw [e1, e2]
  · have e1 : inR p a c = 0 := by
      rw [inR_z]
      by_cases h2 : p < a
      · exact Or.inl h2
      · exact Or.inr (Int32.not_le.mp fun q => h1 ⟨Int32.not_lt.mp h2, q⟩)
    have e2 : inR p a' c' = 0 := by
      rw [inR_z]
      by_cases h2 : p < a'
      · exact Or.inl h2
      · exact Or.inr (Int32.not_le.mp fun q => h1 (h.mpr ⟨Int32.not_lt.mp h2, q⟩))
    rw [e1, e2]
theorem oN_div {a c : Nat} (ha : a < 2147483648) (hc : c < 2147483648) : Int32.ofNat a / Int32.ofNat c = Int32.ofNat (a / c) := by
  apply Int32.toInt_inj.mp
  have h1 : a / c ≤ a := Nat.div_le_self a c
  rw [Int32.toInt_div, oN_toInt ha, oN_toInt hc, oN_toInt (by omega)]
  rw [← Int.ofNat_tdiv]
  generalize a / c = e at h1 ⊢
  rw [Int.bmod_eq_of_le (by omega) (by omega)]
section S4
variable {b : Nat} {F : Nat → Option AE} {D E : Nat → Option KD} {I : Nat → Nat → Int32} {L : Nat → Nat → Int64} {P : Nat → Nat → Option Nat} {nx us : Nat}
theorem call_sold (p x : Int32) {nw nk nt td : Nat} {q wd hg ow : Nat → Nat} (hT : GTI I) (hnw : Cn nw 16 (I 1 1) (I 72 4)) (hA : WA nw q wd hg ow E (P 2)) (ht : Cn td 3649 (I 13 14) (I 72 5)) (hW : WALL nw nk nt q wd hg I) : RunS b F E L P nx us (f_X11_sold (ad b 0) p x) (f_X15_sold (ad b 72) p x) I (fun I2 => WALL nw nk nt q wd hg I2 ∧ FrW ow I I2 [(0, 16), (72, 0), (72, 1), (72, 2)] [76, 78]) := by
  rcases wallCase hnw hA p with ⟨h1, h2⟩ | ⟨w, hw, rfl, h1, h2⟩
  · exact Or.inl ⟨1, by decide, 0, u2 I 0 (upd (I 0) 16 1), by (simp (decide := true) only [f_X11_sold, h1, isO_s, gI_s, gA_s, gL_s, pI_s, pZ_s, pL_s, aI_s, aL_s, aN_s, aQ_s, sI_s, sL_s, cr, LNs, Option.map_some, Option.map_none, Option.bind_some, b2, tr, lt, if_true, if_false, ckZ, X_within, M_in, inR_z, X_refuse, X_tell, X_deny, X_grant, M_refused, M_denied, M_done, M_granted, u2_same, u2_ne, u2_u2, upd_same, upd_ne, aW0, ixR_z, ixR_1, M_isWall, M_isPainter, M_isWork, X_has4, X_has10, X_at, or_false, false_or, or_true, true_or, not_true, not_false_iff, Option.isSome_some, isO_d, gI_d, gA_d, pI_d, ne_eq, not_false_eq_true, u2_hi, u2_hj, u2_dyn, u2_dynj]; try exact rfl), by (simp (decide := true) only [f_X15_sold_72, f_X15_sold, h2, isO_s, gI_s, gA_s, gL_s, pI_s, pZ_s, pL_s, aI_s, aL_s, aN_s, aQ_s, sI_s, sL_s, cr, LNs, Option.map_some, Option.map_none, Option.bind_some, b2, tr, lt, if_true, if_false, ckZ, X_within, M_in, inR_z, X_refuse, X_tell, X_deny, X_grant, M_refused, M_denied, M_done, M_granted, u2_same, u2_ne, u2_u2, upd_same, upd_ne, aW0, ixR_1, M_isWall, M_isPainter, M_isWork, X_has4, X_has10, X_at, or_false, false_or, or_true, true_or, not_true, not_false_iff, Option.isSome_some, isO_d, gI_d, gA_d, pI_d, ne_eq, not_false_eq_true, u2_hi, u2_hj, u2_dyn, u2_dynj]; try exact rfl)⟩
  by_cases hx : (x < 0 ∨ 99 < x)
  · exact Or.inl ⟨2, by decide, 0, u2 I 0 (upd (I 0) 16 2), by (simp (decide := true) only [f_X11_sold, h1, hx, isO_s, gI_s, gA_s, gL_s, pI_s, pZ_s, pL_s, aI_s, aL_s, aN_s, aQ_s, sI_s, sL_s, cr, LNs, Option.map_some, Option.map_none, Option.bind_some, b2, tr, lt, if_true, if_false, ckZ, X_within, M_in, inR_z, X_refuse, X_tell, X_deny, X_grant, M_refused, M_denied, M_done, M_granted, u2_same, u2_ne, u2_u2, upd_same, upd_ne, aW0, ixR_z, ixR_1, M_isWall, M_isPainter, M_isWork, X_has4, X_has10, X_at, or_false, false_or, or_true, true_or, not_true, not_false_iff, Option.isSome_some, isO_d, gI_d, gA_d, pI_d, ne_eq, not_false_eq_true, u2_hi, u2_hj, u2_dyn, u2_dynj]; try exact rfl), by (simp (decide := true) only [f_X15_sold_72, f_X15_sold, h2, hx, isO_s, gI_s, gA_s, gL_s, pI_s, pZ_s, pL_s, aI_s, aL_s, aN_s, aQ_s, sI_s, sL_s, cr, LNs, Option.map_some, Option.map_none, Option.bind_some, b2, tr, lt, if_true, if_false, ckZ, X_within, M_in, inR_z, X_refuse, X_tell, X_deny, X_grant, M_refused, M_denied, M_done, M_granted, u2_same, u2_ne, u2_u2, upd_same, upd_ne, aW0, ixR_1, M_isWall, M_isPainter, M_isWork, X_has4, X_has10, X_at, or_false, false_or, or_true, true_or, not_true, not_false_iff, Option.isSome_some, isO_d, gI_d, gA_d, pI_d, ne_eq, not_false_eq_true, u2_hi, u2_hj, u2_dyn, u2_dynj]; try exact rfl)⟩
  obtain ⟨-, hK, -⟩ := hA w hw
  obtain ⟨k0, -⟩ := WKk hK
  have hw16 : w < 16 := by have := hnw.1; omega
  have e3 : iN (Int32.ofNat w) 16 = some w := iN_oN hw16 (by omega)
  obtain ⟨hB, hC, hD, hE, hF, hG, hH, hI, hU⟩ := hW
  obtain ⟨c1, c2, c3, c4⟩ := hC w hw
  obtain ⟨d1, d2, d3⟩ := hD w hw
  have d1' : I (149 + q w) 6 = I 83 w := d1
  refine Or.inr ?_
  by_cases hc : I 83 w = 0
  · apply Exists.intro
    refine ⟨?_, ?_, ?_, ?_⟩
    · apply Exists.intro; apply Exists.intro
      refine ⟨?_, ?_⟩
      · simp (decide := true) only [f_X11_sold, f_X8_sellTo_22, f_X8_sellTo, h1, hx, k0, d1', hc, isO_s, gI_s, gA_s, gL_s, pI_s, pZ_s, pL_s, aI_s, aL_s, aN_s, aQ_s, sI_s, sL_s, cr, LNs, Option.map_some, Option.map_none, Option.bind_some, b2, tr, lt, if_true, if_false, ckZ, X_within, M_in, inR_z, X_refuse, X_tell, X_deny, X_grant, M_refused, M_denied, M_done, M_granted, u2_same, u2_ne, u2_u2, upd_same, upd_ne, aW0, ixR_z, ixR_1, M_isWall, M_isPainter, M_isWork, X_has4, X_has10, X_at, or_false, false_or, or_true, true_or, not_true, not_false_iff, Option.isSome_some, isO_d, gI_d, gA_d, pI_d, ne_eq, not_false_eq_true, u2_hi, u2_hj, u2_dyn, u2_dynj]
        exact rfl
      · simp (decide := true) only [f_X15_sold_72, f_X15_sold, f_X15_year, h2, hx, e3, hc, isO_s, gI_s, gA_s, gL_s, pI_s, pZ_s, pL_s, aI_s, aL_s, aN_s, aQ_s, sI_s, sL_s, cr, LNs, Option.map_some, Option.map_none, Option.bind_some, b2, tr, lt, if_true, if_false, ckZ, X_within, M_in, inR_z, X_refuse, X_tell, X_deny, X_grant, M_refused, M_denied, M_done, M_granted, u2_same, u2_ne, u2_u2, upd_same, upd_ne, aW0, ixR_1, M_isWall, M_isPainter, M_isWork, X_has4, X_has10, X_at, or_false, false_or, or_true, true_or, not_true, not_false_iff, Option.isSome_some, isO_d, gI_d, gA_d, pI_d, ne_eq, not_false_eq_true, u2_hi, u2_hj, u2_dyn, u2_dynj]
        exact rfl
    · simp (decide := true) only [GTI, u2_dyn, u2_same, u2_ne, u2_u2, upd_same, upd_ne, mE, u2_dyn, dyn_u2, dyn_hi, u2_hi, u2_hj, u2_dynj]
      exact GT_end hT (by decide)
    · simp (decide := true) only [WALL, u2_same, u2_ne, u2_u2, upd_same, upd_ne, mE, u2_dyn, dyn_u2, dyn_hi, u2_hi, u2_hj, u2_dynj]
      refine ⟨hB.sl hA hw rfl rfl, ?_, ?_, hE.sl hA hw rfl rfl rfl, hF.sl hA hw, hG.sl hA hw, hH.sl hA hw, hI.sl hA hw, hU⟩
      · intro w' hw'
        by_cases hz : w' = w
        · subst hz
          simp (decide := true) only [u2_same, upd_same, upd_ne, ne_eq]
          exact ⟨c1, c2, trivial, c4⟩
        · rw [sl0 hA hw hw' hz, upd_ne hz]
          exact hC w' hw'
      · intro w' hw'
        by_cases hz : w' = w
        · subst hz
          simp (decide := true) only [u2_same, upd_same, upd_ne, ne_eq]
          refine ⟨d1, d2, ?_⟩
          intro y hy
          refine inR_eq ?_
          have hq : (I 72 5) / 365 = Int32.ofNat (td / 365) := by
            rw [ht.2.2]; exact oN_div (c := 365) (by have := ht.1; omega) (by omega)
          rw [hq] at hy ⊢
          have hl : td / 365 < 100 := by have := ht.1; omega
          have hy0 : Int32.ofNat (td / 365) - 1 < y := by
            rw [Int32.le_iff_toInt_le, oN_toInt (by omega)] at hy
            rw [Int32.lt_iff_toInt_lt]
            have : (Int32.ofNat (td / 365) - 1).toInt = (td / 365 : Nat) - 1 := by
              rw [Int32.toInt_sub, oN_toInt (by omega), show (1 : Int32).toInt = 1 from rfl, Int.bmod_eq_of_le (by omega) (by omega)]
            omega
          have hy1 : ¬ y ≤ -1 := by
            rw [Int32.le_iff_toInt_le, oN_toInt (by omega)] at hy
            rw [Int32.le_iff_toInt_le]
            have : (-1 : Int32).toInt = -1 := by decide
            omega
          constructor
          · intro h; exact absurd h.2 hy1
          · intro h
            exfalso
            have h5 := h.2
            unfold mnI at h5
            split at h5
            · exact Int32.not_le.mpr hy0 h5
            · rename_i h6
              exact Int32.not_le.mpr hy0 (Int32.le_trans h5 (Int32.not_lt.mp h6))
        · rw [sl0 hA hw hw' hz, upd_ne hz]
          exact hD w' hw'
    · exact (by refine ⟨?_, ?_⟩; (intro c k h0 h1 h2; simp at h1 h2; simp only [mE, u2, upd]; (repeat' split) <;> first | rfl | omega | (subst_vars; simp_all [upd])); (intro c hc; simp (decide := true) only [dyn_u2, dyn_hi]; exact u2_ne (fun e => hc (e ▸ (hA w hw).2.2.2.2.2.2.2 0 (by omega)))))
  · apply Exists.intro
    refine ⟨?_, ?_, ?_, ?_⟩
    · apply Exists.intro; apply Exists.intro
      refine ⟨?_, ?_⟩
      · simp (decide := true) only [f_X11_sold, f_X8_sellTo_22, f_X8_sellTo, h1, hx, k0, d1', hc, isO_s, gI_s, gA_s, gL_s, pI_s, pZ_s, pL_s, aI_s, aL_s, aN_s, aQ_s, sI_s, sL_s, cr, LNs, Option.map_some, Option.map_none, Option.bind_some, b2, tr, lt, if_true, if_false, ckZ, X_within, M_in, inR_z, X_refuse, X_tell, X_deny, X_grant, M_refused, M_denied, M_done, M_granted, u2_same, u2_ne, u2_u2, upd_same, upd_ne, aW0, ixR_z, ixR_1, M_isWall, M_isPainter, M_isWork, X_has4, X_has10, X_at, or_false, false_or, or_true, true_or, not_true, not_false_iff, Option.isSome_some, isO_d, gI_d, gA_d, pI_d, ne_eq, not_false_eq_true, u2_hi, u2_hj, u2_dyn, u2_dynj]
        exact rfl
      · simp (decide := true) only [f_X15_sold_72, f_X15_sold, f_X15_year, h2, hx, e3, hc, isO_s, gI_s, gA_s, gL_s, pI_s, pZ_s, pL_s, aI_s, aL_s, aN_s, aQ_s, sI_s, sL_s, cr, LNs, Option.map_some, Option.map_none, Option.bind_some, b2, tr, lt, if_true, if_false, ckZ, X_within, M_in, inR_z, X_refuse, X_tell, X_deny, X_grant, M_refused, M_denied, M_done, M_granted, u2_same, u2_ne, u2_u2, upd_same, upd_ne, aW0, ixR_1, M_isWall, M_isPainter, M_isWork, X_has4, X_has10, X_at, or_false, false_or, or_true, true_or, not_true, not_false_iff, Option.isSome_some, isO_d, gI_d, gA_d, pI_d, ne_eq, not_false_eq_true, u2_hi, u2_hj, u2_dyn, u2_dynj]
        exact rfl
    · simp (decide := true) only [GTI, u2_dyn, u2_same, u2_ne, u2_u2, upd_same, upd_ne, mE, u2_dyn, dyn_u2, dyn_hi, u2_hi, u2_hj, u2_dynj]
      exact GT_end hT (by decide)
    · simp (decide := true) only [WALL, u2_same, u2_ne, u2_u2, upd_same, upd_ne, mE, u2_dyn, dyn_u2, dyn_hi, u2_hi, u2_hj, u2_dynj]
      refine ⟨hB.sl hA hw rfl rfl, ?_, hD.sl hA hw rfl rfl rfl, hE.sl hA hw rfl rfl rfl, hF.sl hA hw, hG.sl hA hw, hH.sl hA hw, hI.sl hA hw, hU⟩
      intro w' hw'
      by_cases hz : w' = w
      · subst hz
        simp (decide := true) only [u2_same, upd_same, upd_ne, ne_eq]
        exact ⟨c1, c2, trivial, c4⟩
      · rw [sl0 hA hw hw' hz, upd_ne hz]
        exact hC w' hw'
    · unfold FrW
      exact (by refine ⟨?_, ?_⟩; (intro c k h0 h1 h2; simp at h1 h2; simp only [mE, u2, upd]; (repeat' split) <;> first | rfl | omega | (subst_vars; simp_all [upd])); (intro c hc; simp (decide := true) only [dyn_u2, dyn_hi]; exact u2_ne (fun e => hc (e ▸ (hA w hw).2.2.2.2.2.2.2 0 (by omega)))))
theorem call_weather (p x y : Int32) {td : Nat} (hT : GTI I) (ht : Cn td 3649 (I 13 14) (I 72 5)) (hG : GWea (I 23) (I 13 12) (I 133) (I 134)) : RunS b F E L P nx us (f_X11_weather (ad b 0) p x y) (f_X15_weather (ad b 72) p x y) I (fun I2 => GWea (I2 23) (I2 13 12) (I2 133) (I2 134) ∧ Fr I I2 [(0, 16), (13, 12), (72, 0), (72, 1), (72, 2)] [23, 133, 134]) := by
  obtain ⟨ht1, ht2, ht3⟩ := ht
  by_cases hp : (p < Int32.ofNat td ∨ 3649 < p)
  · exact Or.inl ⟨2, by decide, 0, u2 I 0 (upd (I 0) 16 2), by (simp (decide := true) only [f_X11_weather_65, f_X11_weather_64, f_X11_weather_39, f_X11_weather, ht2, hp, isO_s, gI_s, gA_s, gL_s, pI_s, pZ_s, pL_s, aI_s, aL_s, aN_s, aQ_s, sI_s, sL_s, cr, LNs, Option.map_some, Option.map_none, Option.bind_some, b2, tr, lt, if_true, if_false, ckZ, X_within, M_in, inR_z, X_refuse, X_tell, X_deny, X_grant, M_refused, M_denied, M_done, M_granted, u2_same, u2_ne, u2_u2, upd_same, upd_ne, aW0, ixR_z, ixR_1, M_isWall, M_isPainter, M_isWork, X_has4, X_has10, X_at, or_false, false_or, or_true, true_or, not_true, not_false_iff, Option.isSome_some, isO_d, gI_d, gA_d, pI_d, ne_eq, not_false_eq_true, u2_hi, u2_hj, u2_dyn, u2_dynj]; try exact rfl), by (simp (decide := true) only [f_X15_weather_41, f_X15_weather, ht3, hp, isO_s, gI_s, gA_s, gL_s, pI_s, pZ_s, pL_s, aI_s, aL_s, aN_s, aQ_s, sI_s, sL_s, cr, LNs, Option.map_some, Option.map_none, Option.bind_some, b2, tr, lt, if_true, if_false, ckZ, X_within, M_in, inR_z, X_refuse, X_tell, X_deny, X_grant, M_refused, M_denied, M_done, M_granted, u2_same, u2_ne, u2_u2, upd_same, upd_ne, aW0, ixR_z, ixR_1, M_isWall, M_isPainter, M_isWork, X_has4, X_has10, X_at, or_false, false_or, or_true, true_or, not_true, not_false_iff, Option.isSome_some, isO_d, gI_d, gA_d, pI_d, ne_eq, not_false_eq_true, u2_hi, u2_hj, u2_dyn, u2_dynj]; try exact rfl)⟩
  by_cases hx : (x < -40 ∨ 50 < x)
  · exact Or.inl ⟨2, by decide, 0, u2 I 0 (upd (I 0) 16 2), by (simp (decide := true) only [f_X11_weather_65, f_X11_weather_64, f_X11_weather_39, f_X11_weather, ht2, hp, hx, isO_s, gI_s, gA_s, gL_s, pI_s, pZ_s, pL_s, aI_s, aL_s, aN_s, aQ_s, sI_s, sL_s, cr, LNs, Option.map_some, Option.map_none, Option.bind_some, b2, tr, lt, if_true, if_false, ckZ, X_within, M_in, inR_z, X_refuse, X_tell, X_deny, X_grant, M_refused, M_denied, M_done, M_granted, u2_same, u2_ne, u2_u2, upd_same, upd_ne, aW0, ixR_z, ixR_1, M_isWall, M_isPainter, M_isWork, X_has4, X_has10, X_at, or_false, false_or, or_true, true_or, not_true, not_false_iff, Option.isSome_some, isO_d, gI_d, gA_d, pI_d, ne_eq, not_false_eq_true, u2_hi, u2_hj, u2_dyn, u2_dynj]; try exact rfl), by (simp (decide := true) only [f_X15_weather_41, f_X15_weather, ht3, hp, hx, isO_s, gI_s, gA_s, gL_s, pI_s, pZ_s, pL_s, aI_s, aL_s, aN_s, aQ_s, sI_s, sL_s, cr, LNs, Option.map_some, Option.map_none, Option.bind_some, b2, tr, lt, if_true, if_false, ckZ, X_within, M_in, inR_z, X_refuse, X_tell, X_deny, X_grant, M_refused, M_denied, M_done, M_granted, u2_same, u2_ne, u2_u2, upd_same, upd_ne, aW0, ixR_z, ixR_1, M_isWall, M_isPainter, M_isWork, X_has4, X_has10, X_at, or_false, false_or, or_true, true_or, not_true, not_false_iff, Option.isSome_some, isO_d, gI_d, gA_d, pI_d, ne_eq, not_false_eq_true, u2_hi, u2_hj, u2_dyn, u2_dynj]; try exact rfl)⟩
  by_cases hy : (y < 0 ∨ 200 < y)
  · exact Or.inl ⟨2, by decide, 0, u2 I 0 (upd (I 0) 16 2), by (simp (decide := true) only [f_X11_weather_65, f_X11_weather_64, f_X11_weather_39, f_X11_weather, ht2, hp, hx, hy, isO_s, gI_s, gA_s, gL_s, pI_s, pZ_s, pL_s, aI_s, aL_s, aN_s, aQ_s, sI_s, sL_s, cr, LNs, Option.map_some, Option.map_none, Option.bind_some, b2, tr, lt, if_true, if_false, ckZ, X_within, M_in, inR_z, X_refuse, X_tell, X_deny, X_grant, M_refused, M_denied, M_done, M_granted, u2_same, u2_ne, u2_u2, upd_same, upd_ne, aW0, ixR_z, ixR_1, M_isWall, M_isPainter, M_isWork, X_has4, X_has10, X_at, or_false, false_or, or_true, true_or, not_true, not_false_iff, Option.isSome_some, isO_d, gI_d, gA_d, pI_d, ne_eq, not_false_eq_true, u2_hi, u2_hj, u2_dyn, u2_dynj]; try exact rfl), by (simp (decide := true) only [f_X15_weather_41, f_X15_weather, ht3, hp, hx, hy, isO_s, gI_s, gA_s, gL_s, pI_s, pZ_s, pL_s, aI_s, aL_s, aN_s, aQ_s, sI_s, sL_s, cr, LNs, Option.map_some, Option.map_none, Option.bind_some, b2, tr, lt, if_true, if_false, ckZ, X_within, M_in, inR_z, X_refuse, X_tell, X_deny, X_grant, M_refused, M_denied, M_done, M_granted, u2_same, u2_ne, u2_u2, upd_same, upd_ne, aW0, ixR_z, ixR_1, M_isWall, M_isPainter, M_isWork, X_has4, X_has10, X_at, or_false, false_or, or_true, true_or, not_true, not_false_iff, Option.isSome_some, isO_d, gI_d, gA_d, pI_d, ne_eq, not_false_eq_true, u2_hi, u2_hj, u2_dyn, u2_dynj]; try exact rfl)⟩
  have hp0 : ¬ (p < 0 ∨ Int32.ofNat 3649 < p) := by
    rintro (h | h)
    · have : Int32.ofNat td ≤ p := Int32.not_lt.mp fun q => hp (Or.inl q)
      have h0 : (0 : Int32) ≤ Int32.ofNat td := (oN_le (a := 0) (by decide) (by omega)).mpr (by omega)
      exact Int32.not_le.mpr h (Int32.le_trans h0 this)
    · exact hp (Or.inr h)
  obtain ⟨d, hd, rfl⟩ := lo_of hp0 (by decide)
  have e1 := oN_neg (w := d) (by omega)
  have e2 : (Int32.ofNat d ≤ 3649) = True := eq_true (oN_leL hd (by decide))
  have e3 : Int32.ofNat d / 32 = Int32.ofNat (d / 32) := oN_div (c := 32) (by omega) (by omega)
  have e4 : Int32.ofNat d - Int32.ofNat (d / 32) * 32 = Int32.ofNat (d % 32) := by
    rw [show (32 : Int32) = Int32.ofNat 32 from rfl, oN_mul, oN_sub (by omega)]
    congr 1; omega
  have e5 : iN (Int32.ofNat (d / 32)) 115 = some (d / 32) := iN_oN (by omega) (by omega)
  have e6 : iN (Int32.ofNat d) 3650 = some d := iN_oN (by omega) (by omega)
  have hd32 : d % 32 < 32 := Nat.mod_lt _ (by decide)
  have hx2 : x ≠ 1000000 := by
    rintro rfl
    exact hx (Or.inr (by decide))
  obtain ⟨g1, g2, g3⟩ := hG
  refine Or.inr ?_
  by_cases hg : ¬ x < 10 ∧ y = 0
  · obtain ⟨hg1, rfl⟩ := hg
    apply Exists.intro
    refine ⟨?_, ?_, ?_, ?_⟩
    · apply Exists.intro; apply Exists.intro
      refine ⟨?_, ?_⟩
      · simp (decide := true) only [f_X11_weather_65, f_X11_weather_64, f_X11_weather_39, f_X11_weather, f_X10_setDay_69, f_X10_setDay_11, f_X10_setDay, ht2, hp, hx, hy, hg1, e1, e2, e3, e4, e5, isO_s, gI_s, gA_s, gL_s, pI_s, pZ_s, pL_s, aI_s, aL_s, aN_s, aQ_s, sI_s, sL_s, cr, LNs, Option.map_some, Option.map_none, Option.bind_some, b2, tr, lt, if_true, if_false, ckZ, X_within, M_in, inR_z, X_refuse, X_tell, X_deny, X_grant, M_refused, M_denied, M_done, M_granted, u2_same, u2_ne, u2_u2, upd_same, upd_ne, aW0, ixR_z, ixR_1, M_isWall, M_isPainter, M_isWork, X_has4, X_has10, X_at, or_false, false_or, or_true, true_or, not_true, not_false_iff, Option.isSome_some, isO_d, gI_d, gA_d, pI_d, ne_eq, not_false_eq_true, u2_hi, u2_hj, u2_dyn, u2_dynj]
        exact rfl
      · simp (decide := true) only [f_X15_weather_41, f_X15_weather, ht3, hp, hx, hy, e6, isO_s, gI_s, gA_s, gL_s, pI_s, pZ_s, pL_s, aI_s, aL_s, aN_s, aQ_s, sI_s, sL_s, cr, LNs, Option.map_some, Option.map_none, Option.bind_some, b2, tr, lt, if_true, if_false, ckZ, X_within, M_in, inR_z, X_refuse, X_tell, X_deny, X_grant, M_refused, M_denied, M_done, M_granted, u2_same, u2_ne, u2_u2, upd_same, upd_ne, aW0, ixR_z, ixR_1, M_isWall, M_isPainter, M_isWork, X_has4, X_has10, X_at, or_false, false_or, or_true, true_or, not_true, not_false_iff, Option.isSome_some, isO_d, gI_d, gA_d, pI_d, ne_eq, not_false_eq_true, u2_hi, u2_hj, u2_dyn, u2_dynj]
        exact rfl
    · simp (decide := true) only [GTI, u2_same, u2_ne, u2_u2, upd_same, upd_ne, mE, u2_dyn, dyn_u2, dyn_hi, u2_hi, u2_hj, u2_dynj]
      exact GT_end hT (by decide)
    · simp (decide := true) only [u2_same, u2_ne, u2_u2, upd_same, upd_ne, mE, u2_dyn, dyn_u2, dyn_hi, u2_hi, u2_hj, u2_dynj]
      have hmx : I 13 12 ≤ mxI (I 13 12) (Int32.ofNat d) ∧ Int32.ofNat d ≤ mxI (I 13 12) (Int32.ofNat d) ∧ mxI (I 13 12) (Int32.ofNat d) ≤ 3649 := by
        have h9 : Int32.ofNat d ≤ 3649 := oN_leL hd (by decide)
        unfold mxI
        split
        · rename_i h
          exact ⟨Int32.le_of_lt h, Int32.le_refl _, h9⟩
        · rename_i h
          exact ⟨Int32.le_refl _, Int32.not_lt.mp h, g2⟩
      refine ⟨Int32.le_trans g1 hmx.1, hmx.2.2, ?_⟩
      intro d' hd'
      obtain ⟨g4, g5⟩ := g3 d' hd'
      by_cases hz : d' = d
      · subst hz
        simp only [upd_same]
        rw [btI_bt hd32, b_set hd32 hd32]
        refine ⟨?_, fun _ => hmx.2.1⟩
        have : gdD x 0 := ⟨hx2, Int32.not_lt.mp hg1, rfl⟩
        simp [this]
      · rw [upd_ne hz, upd_ne hz]
        refine ⟨?_, fun h => Int32.le_trans (g5 h) hmx.1⟩
        have h32 : d' % 32 < 32 := Nat.mod_lt _ (by decide)
        rw [btI_bt h32] at g4 ⊢
        by_cases hq : d' / 32 = d / 32
        · rw [hq] at g4 ⊢
          rw [upd_same, b_set hd32 h32]
          have : ¬ d' % 32 = d % 32 := by omega
          simp [this, g4]
        · rw [upd_ne hq]; exact g4
    · exact (by intro c k h1 h2; simp at h1 h2; simp only [mE, u2, upd]; (repeat' split) <;> first | rfl | (subst_vars; simp_all [upd]))
  · have hng : ¬ gdD x y := fun h => hg ⟨fun q => Int32.not_le.mpr q h.2.1, h.2.2⟩
    apply Exists.intro
    refine ⟨?_, ?_, ?_, ?_⟩
    · refine ⟨1, u2 (u2 I 23 (upd (I 23) (d / 32) (I 23 (d / 32) &&& ((1 <<< (Int32.ofNat (d % 32) &&& 31)) ^^^ (-1))))) 0 (upd (I 0) 16 0), ?_, ?_⟩
      · by_cases hg1 : x < 10
        · (simp (decide := true) only [f_X11_weather_65, f_X11_weather_64, f_X11_weather_39, f_X11_weather, f_X10_setDay_69, f_X10_setDay_11, f_X10_setDay, ht2, hp, hx, hy, hg1, e1, e2, e3, e4, e5, isO_s, gI_s, gA_s, gL_s, pI_s, pZ_s, pL_s, aI_s, aL_s, aN_s, aQ_s, sI_s, sL_s, cr, LNs, Option.map_some, Option.map_none, Option.bind_some, b2, tr, lt, if_true, if_false, ckZ, X_within, M_in, inR_z, X_refuse, X_tell, X_deny, X_grant, M_refused, M_denied, M_done, M_granted, u2_same, u2_ne, u2_u2, upd_same, upd_ne, aW0, ixR_z, ixR_1, M_isWall, M_isPainter, M_isWork, X_has4, X_has10, X_at, or_false, false_or, or_true, true_or, not_true, not_false_iff, Option.isSome_some, isO_d, gI_d, gA_d, pI_d, ne_eq, not_false_eq_true, u2_hi, u2_hj, u2_dyn, u2_dynj]; try exact rfl)
        · have hy0 : ¬ y = 0 := fun q => hg ⟨hg1, q⟩
          (simp (decide := true) only [f_X11_weather_65, f_X11_weather_64, f_X11_weather_39, f_X11_weather, f_X10_setDay_69, f_X10_setDay_11, f_X10_setDay, ht2, hp, hx, hy, hg1, hy0, e1, e2, e3, e4, e5, isO_s, gI_s, gA_s, gL_s, pI_s, pZ_s, pL_s, aI_s, aL_s, aN_s, aQ_s, sI_s, sL_s, cr, LNs, Option.map_some, Option.map_none, Option.bind_some, b2, tr, lt, if_true, if_false, ckZ, X_within, M_in, inR_z, X_refuse, X_tell, X_deny, X_grant, M_refused, M_denied, M_done, M_granted, u2_same, u2_ne, u2_u2, upd_same, upd_ne, aW0, ixR_z, ixR_1, M_isWall, M_isPainter, M_isWork, X_has4, X_has10, X_at, or_false, false_or, or_true, true_or, not_true, not_false_iff, Option.isSome_some, isO_d, gI_d, gA_d, pI_d, ne_eq, not_false_eq_true, u2_hi, u2_hj, u2_dyn, u2_dynj]; try exact rfl)
      · simp (decide := true) only [f_X15_weather_41, f_X15_weather, ht3, hp, hx, hy, e6, isO_s, gI_s, gA_s, gL_s, pI_s, pZ_s, pL_s, aI_s, aL_s, aN_s, aQ_s, sI_s, sL_s, cr, LNs, Option.map_some, Option.map_none, Option.bind_some, b2, tr, lt, if_true, if_false, ckZ, X_within, M_in, inR_z, X_refuse, X_tell, X_deny, X_grant, M_refused, M_denied, M_done, M_granted, u2_same, u2_ne, u2_u2, upd_same, upd_ne, aW0, ixR_z, ixR_1, M_isWall, M_isPainter, M_isWork, X_has4, X_has10, X_at, or_false, false_or, or_true, true_or, not_true, not_false_iff, Option.isSome_some, isO_d, gI_d, gA_d, pI_d, ne_eq, not_false_eq_true, u2_hi, u2_hj, u2_dyn, u2_dynj]
        exact rfl
    · simp (decide := true) only [GTI, u2_same, u2_ne, u2_u2, upd_same, upd_ne, mE, u2_dyn, dyn_u2, dyn_hi, u2_hi, u2_hj, u2_dynj]
      exact GT_end hT (by decide)
    · simp (decide := true) only [u2_same, u2_ne, u2_u2, upd_same, upd_ne, mE, u2_dyn, dyn_u2, dyn_hi, u2_hi, u2_hj, u2_dynj]
      refine ⟨g1, g2, ?_⟩
      intro d' hd'
      obtain ⟨g4, g5⟩ := g3 d' hd'
      by_cases hz : d' = d
      · subst hz
        simp only [upd_same]
        rw [btI_bt hd32, b_clr hd32 hd32]
        exact ⟨by simp [hng], fun h => absurd h hng⟩
      · rw [upd_ne hz, upd_ne hz]
        refine ⟨?_, g5⟩
        have h32 : d' % 32 < 32 := Nat.mod_lt _ (by decide)
        rw [btI_bt h32] at g4 ⊢
        by_cases hq : d' / 32 = d / 32
        · rw [hq] at g4 ⊢
          rw [upd_same, b_clr hd32 h32]
          have : ¬ d' % 32 = d % 32 := by omega
          simp [this, g4]
        · rw [upd_ne hq]; exact g4
    · exact (by intro c k h1 h2; simp at h1 h2; simp only [mE, u2, upd]; (repeat' split) <;> first | rfl | (subst_vars; simp_all [upd]))
end S4
