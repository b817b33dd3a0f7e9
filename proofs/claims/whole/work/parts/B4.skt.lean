/-! ===== sketch: drawings found, bars counted, painting of a wall ===== -/
def dAt (p n : Int32) (Q : Nat → Option Nat) : Option Nat := if p < 0 then none else if n ≤ p then none else if 12 ≤ p then none else Q p.toNatClampNeg
theorem drCase {nd w : Nat} {cd rd ow : Nat → Nat} {E : Nat → Option KD} {I : Nat → Nat → Int32} {L : Nat → Nat → Int64} {P : Nat → Nat → Option Nat} {x y : Int32} (hn : Cn nd 12 x y) (hD : GDr nd cd rd w E I L P ow) (p : Int32) : (dAt p x (P 52) = none ∧ ixR p y = 0) ∨ ∃ d, d < nd ∧ p = Int32.ofNat d ∧ dAt p x (P 52) = some (cd d) ∧ ixR p y = 1 := by
  obtain ⟨h1, h2, h3⟩ := hn
  subst h2 h3
  rcases ixc p (n := nd) (by omega) with h | ⟨d, hd, rfl⟩
  · refine Or.inl ⟨?_, by rw [ixR_z]; exact h⟩
    unfold dAt
    rcases h with h | h
    · rw [if_pos h]
    · split
      · rfl
      · rfl
  · refine Or.inr ⟨d, hd, rfl, ?_, ?_⟩
    · unfold dAt
      have e1 := oN_neg (w := d) (by omega)
      have e2 := oN_leF hd (by omega)
      have e3 : ((12 : Int32) ≤ Int32.ofNat d) = False := oN_leF (c := 12) (by omega) (by omega)
      simp only [e1, e2, e3, if_false, oN_nn (show d < 2147483648 by omega)]
      exact (hD d hd).2.1
    · rw [ixR_1, oN_neg (by omega), oN_leF hd (by omega)]
      exact ⟨fun q => q, fun q => q⟩
theorem sm_uniq {sh : Nat → Int64} {y : Int64} : ∀ m : Nat, (∀ i j, i < m → j < m → sh i = sh j → i = j) → ((∃ k, k < m ∧ sh k = y) → sm (fun k => if sh k = y then 1 else 0) 0 m = 1) ∧ ((¬ ∃ k, k < m ∧ sh k = y) → sm (fun k => if sh k = y then 1 else 0) 0 m = 0) := by
  intro m
  induction m with
  | zero => intro _; exact ⟨fun ⟨k, hk, _⟩ => absurd hk (Nat.not_lt_zero _), fun _ => rfl⟩
  | succ m ih =>
    intro h
    obtain ⟨i1, i2⟩ := ih (fun i j hi hj => h i j (by omega) (by omega))
    rw [sm_last]
    refine ⟨fun ⟨k, hk, hy⟩ => ?_, fun hn => ?_⟩
    · by_cases hm : sh m = y
      · rw [if_pos hm, i2 (fun ⟨k', hk', hy'⟩ => by have := h k' m (by omega) (by omega) (hy'.trans hm.symm); omega)]
        rfl
      · rw [if_neg hm, i1 ⟨k, by have : k ≠ m := fun q => hm (q ▸ hy)
                                 omega, hy⟩]
        rfl
    · rw [i2 (fun ⟨k, hk, hy⟩ => hn ⟨k, by omega, hy⟩), if_neg (fun q => hn ⟨m, by omega, q⟩)]
      rfl
/-- as many bits as bars shown -/
theorem BT_cnt {nb m : Nat} {bars barm sh : Nat → Int64} {x : Int32} (hnb : nb ≤ 12) (hd : ∀ i j, i < m → j < m → sh i = sh j → i = j) (hb : ∀ k, k < nb → bars k = barm k) (h : BT nb bars m sh x) : bcI x 12 = sm (fun j => sm (fun k => if sh k = barm j then 1 else 0) 0 m) 0 nb := by
  unfold bcI
  obtain ⟨z, hz⟩ : ∃ z, nb + z = 12 := ⟨12 - nb, by omega⟩
  rw [← hz, sm_split]
  have e1 : sm (fun i => if (x >>> (Int32.ofNat i &&& 31)) &&& 1 = 1 then 1 else 0) (0 + nb) z = 0 := by
    refine sm_z z (0 + nb) (fun k k1 k2 => ?_)
    rw [if_neg]
    rw [bt_1 (by omega), h k (by omega)]
    exact fun q => by omega
  have e2 : sm (fun i => if (x >>> (Int32.ofNat i &&& 31)) &&& 1 = 1 then 1 else 0) 0 nb = sm (fun j => sm (fun k => if sh k = barm j then 1 else 0) 0 m) 0 nb := by
    refine sm_congr nb 0 (fun j _ j2 => ?_)
    have hbt : ((x >>> (Int32.ofNat j &&& 31)) &&& 1 = 1) ↔ ∃ k, k < m ∧ sh k = barm j := by
      rw [bt_1 (by omega), h j (by omega), hb j (by omega)]
      exact ⟨fun q => q.2, fun q => ⟨by omega, q⟩⟩
    obtain ⟨u1, u2⟩ := sm_uniq (y := barm j) m hd
    by_cases hq : ∃ k, k < m ∧ sh k = barm j
    · rw [if_pos (hbt.mpr hq), u1 hq]
    · rw [if_neg (fun q => hq (hbt.mp q)), u2 hq]
  rw [e1, e2, Int32.add_zero]
theorem BT_rng {nb m : Nat} {bars sh : Nat → Int64} {x : Int32} (hnb : nb ≤ 12) (h : BT nb bars m sh x) : ∃ n, n < 4096 ∧ x = Int32.ofNat n := by
  have hlt : x.toBitVec.toNat < 2 ^ 12 := by
    apply Nat.lt_pow_two_of_testBit
    intro i hi
    rw [BitVec.testBit_toNat]
    by_cases h32 : i < 32
    · have : ¬ bt x i = true := fun q => by have := (h i h32).mp q; omega
      unfold bt at this
      simpa using this
    · exact BitVec.getLsbD_of_ge _ _ (by omega)
  refine ⟨x.toBitVec.toNat, by omega, ?_⟩
  apply Int32.toBitVec_inj.mp
  show x.toBitVec = BitVec.ofNat 32 x.toBitVec.toNat
  rw [BitVec.ofNat_toNat, BitVec.setWidth_eq]
section SKT
variable {b : Nat} {F : Nat → Option AE} {D E : Nat → Option KD} {I : Nat → Nat → Int32} {L : Nat → Nat → Int64} {P : Nat → Nat → Option Nat} {nx us : Nat}
theorem M_isDrw (p : Int32) : f_X15_isDrawing (ad b 72) p (lay b F E I L P nx us) = some (ixR p (I 72 38), (lay b F E I L P nx us)) := by
  unfold ixR
  simp (decide := true) only [f_X15_isDrawing, f_X15_isDrawing_17, f_X15_isDrawing_16, isO_s, gI_s, if_true, Option.bind_some, ckZ]
  split
  · rfl
  · split <;> rfl
theorem X_drAt (p : Int32) : f_X11_drawingAt (ad b 0) p (lay b F E I L P nx us) = some ((dAt p (I 0 10) (P 52)).map (ad b), (lay b F E I L P nx us)) := by
  unfold dAt
  simp (decide := true) only [f_X11_drawingAt, f_X11_drawingAt_31, f_X11_drawingAt_30, isO_s, gI_s, gA_s, aN_s, cr, LNs, Option.map_some, if_true, Option.bind_some, tr]
  by_cases h1 : p < 0
  · simp only [h1, if_true, Option.map_none]
  · simp only [h1, if_false]
    by_cases h2 : I 0 10 ≤ p
    · simp only [h2, if_true, Option.map_none]
    · simp only [h2, if_false]
      by_cases h3 : (12 : Int32) ≤ p
      · have h3' : Int32.ofNat 12 ≤ p := h3
        simp only [h3, h3', if_true, Option.map_none]
      · have h3' : ¬ Int32.ofNat 12 ≤ p := h3
        simp only [h3, h3', if_false]
        obtain ⟨w, hw, rfl⟩ := nn_oN h1
        have hw16 : w < 12 := by
          have h4 : ¬ Int32.ofNat 12 ≤ Int32.ofNat w := h3
          rw [oN_le (by decide) hw] at h4
          omega
        simp (decide := true) only [aQ_s, LNs, iN_oN hw16 hw, oN_nn hw, Option.map_some, Option.bind_some]
        cases P 52 w <;> rfl
/-- the reference counts the bars shown -/
theorem M_bars {nb m : Nat} (hnb : nb ≤ 12) (hm : m ≤ 40) (h41 : I 72 41 = Int32.ofNat nb) (h49 : I 72 49 = Int32.ofNat m) : f_X15_barsShown (ad b 72) (lay b F E I L P nx us) = some (sm (fun j => sm (fun k => if L 109 k = L 105 j then 1 else 0) 0 m) 0 nb, (lay b F E I L P nx us)) := by
  have g46 : gA 15 (lay b F E I L P nx us) (ad b 72) 46 = some (ad b 109) := by simp (decide := true) only [isO_s, gI_s, gA_s, gL_s, pI_s, pZ_s, pL_s, aI_s, aL_s, aN_s, aQ_s, sI_s, sL_s, cr, LNs, Option.map_some, Option.map_none, Option.bind_some, b2, tr, lt, if_true, if_false, ckZ, X_within, M_in, inR_z, X_refuse, X_tell, X_deny, X_grant, M_refused, M_denied, M_done, M_granted, u2_same, u2_ne, u2_u2, upd_same, upd_ne, aW0, ixR_z, ixR_1, M_isWall, M_isPainter, M_isWork, X_has4, X_has10, X_at, or_false, false_or, or_true, true_or, not_true, not_false_iff, Option.isSome_some, isO_d, gI_d, gA_d, pI_d, ne_eq, not_false_eq_true, u2_hi, u2_hj, u2_dyn, u2_dynj, Nat.reduceAdd, mX_r, mX_rD, mX_rDj, mM_r, mX_u, mX_uM, mX_uD, mX_uDj, mM_u, mM_uX, mM_uD, mM_uDj, u2_dd, u2_d0, u2_0d]
  have g42 : gA 15 (lay b F E I L P nx us) (ad b 72) 42 = some (ad b 105) := by simp (decide := true) only [isO_s, gI_s, gA_s, gL_s, pI_s, pZ_s, pL_s, aI_s, aL_s, aN_s, aQ_s, sI_s, sL_s, cr, LNs, Option.map_some, Option.map_none, Option.bind_some, b2, tr, lt, if_true, if_false, ckZ, X_within, M_in, inR_z, X_refuse, X_tell, X_deny, X_grant, M_refused, M_denied, M_done, M_granted, u2_same, u2_ne, u2_u2, upd_same, upd_ne, aW0, ixR_z, ixR_1, M_isWall, M_isPainter, M_isWork, X_has4, X_has10, X_at, or_false, false_or, or_true, true_or, not_true, not_false_iff, Option.isSome_some, isO_d, gI_d, gA_d, pI_d, ne_eq, not_false_eq_true, u2_hi, u2_hj, u2_dyn, u2_dynj, Nat.reduceAdd, mX_r, mX_rD, mX_rDj, mM_r, mX_u, mX_uM, mX_uD, mX_uDj, mM_u, mM_uX, mM_uD, mM_uDj, u2_dd, u2_d0, u2_0d]
  have inner : ∀ (k4 : Nat → Int32 → Int32 → AH → Option (Int32 × AH)) (a : Int32) (j : Nat), j < nb → f_X15_barsShown_14 k4 FU (ad b 72) a (Int32.ofNat j) 0 (lay b F E I L P nx us) = k4 (ad b 72) (a + sm (fun k => if L 109 k = L 105 j then 1 else 0) 0 m) (Int32.ofNat (j + 1)) (lay b F E I L P nx us) := by
    intro k4 a j hj
    have ej : iN (Int32.ofNat j) 12 = some j := iN_oN (by omega) (by omega)
    have aj : aL (lay b F E I L P nx us) (ad b 105) (Int32.ofNat j) = some (L 105 j) := by simp (decide := true) only [ej, isO_s, gI_s, gA_s, gL_s, pI_s, pZ_s, pL_s, aI_s, aL_s, aN_s, aQ_s, sI_s, sL_s, cr, LNs, Option.map_some, Option.map_none, Option.bind_some, b2, tr, lt, if_true, if_false, ckZ, X_within, M_in, inR_z, X_refuse, X_tell, X_deny, X_grant, M_refused, M_denied, M_done, M_granted, u2_same, u2_ne, u2_u2, upd_same, upd_ne, aW0, ixR_z, ixR_1, M_isWall, M_isPainter, M_isWork, X_has4, X_has10, X_at, or_false, false_or, or_true, true_or, not_true, not_false_iff, Option.isSome_some, isO_d, gI_d, gA_d, pI_d, ne_eq, not_false_eq_true, u2_hi, u2_hj, u2_dyn, u2_dynj, Nat.reduceAdd, mX_r, mX_rD, mX_rDj, mM_r, mX_u, mX_uM, mX_uD, mX_uDj, mM_u, mM_uX, mM_uD, mM_uDj, u2_dd, u2_d0, u2_0d]
    refine lp_sum (T := fun n a k => f_X15_barsShown_14 k4 n (ad b 72) a (Int32.ofNat j) k (lay b F E I L P nx us)) (R := fun a => k4 (ad b 72) a (Int32.ofNat (j + 1)) (lay b F E I L P nx us)) (f := fun k => if L 109 k = L 105 j then 1 else 0) (N := m) (by omega) ?_ ?_ m 0 a FU (by omega) (by unfold FU; omega)
    · intro n a
      show f_X15_barsShown_14 k4 (n + 1) (ad b 72) a (Int32.ofNat j) (Int32.ofNat m) (lay b F E I L P nx us) = _
      unfold f_X15_barsShown_14
      rw [gI_s (by decide) (by decide), Option.bind_some, h49, if_pos (Int32.le_refl _), oN_succ]
    · intro n a k hk
      have ek : iN (Int32.ofNat k) 40 = some k := iN_oN (by omega) (by omega)
      have ak : aL (lay b F E I L P nx us) (ad b 109) (Int32.ofNat k) = some (L 109 k) := by simp (decide := true) only [ek, isO_s, gI_s, gA_s, gL_s, pI_s, pZ_s, pL_s, aI_s, aL_s, aN_s, aQ_s, sI_s, sL_s, cr, LNs, Option.map_some, Option.map_none, Option.bind_some, b2, tr, lt, if_true, if_false, ckZ, X_within, M_in, inR_z, X_refuse, X_tell, X_deny, X_grant, M_refused, M_denied, M_done, M_granted, u2_same, u2_ne, u2_u2, upd_same, upd_ne, aW0, ixR_z, ixR_1, M_isWall, M_isPainter, M_isWork, X_has4, X_has10, X_at, or_false, false_or, or_true, true_or, not_true, not_false_iff, Option.isSome_some, isO_d, gI_d, gA_d, pI_d, ne_eq, not_false_eq_true, u2_hi, u2_hj, u2_dyn, u2_dynj, Nat.reduceAdd, mX_r, mX_rD, mX_rDj, mM_r, mX_u, mX_uM, mX_uD, mX_uDj, mM_u, mM_uX, mM_uD, mM_uDj, u2_dd, u2_d0, u2_0d]
      show f_X15_barsShown_14 k4 (n + 1) (ad b 72) a (Int32.ofNat j) (Int32.ofNat k) (lay b F E I L P nx us) = f_X15_barsShown_14 k4 n (ad b 72) (a + if L 109 k = L 105 j then 1 else 0) (Int32.ofNat j) (Int32.ofNat (k + 1)) (lay b F E I L P nx us)
      conv => lhs; unfold f_X15_barsShown_14 f_X15_barsShown_44
      rw [gI_s (by decide) (by decide), Option.bind_some, h49, if_neg (fun q => by have := (oN_le (by omega) (by omega)).mp q; omega), g46, Option.bind_some, ak, Option.bind_some, g42, Option.bind_some, aj, Option.bind_some, oN_succ]
      by_cases hq : L 109 k = L 105 j
      · rw [if_pos ((cmp_eq _ _).mpr hq), if_pos hq]
      · rw [if_neg (fun q => hq ((cmp_eq _ _).mp q)), if_neg hq]
  unfold f_X15_barsShown
  rw [if_pos (isO_s (by decide))]
  refine lp_sum0 (T := fun n a k => f_X15_barsShown_4 n (ad b 72) a k (lay b F E I L P nx us)) (R := fun a => some (a, (lay b F E I L P nx us))) (f := fun j => sm (fun k => if L 109 k = L 105 j then 1 else 0) 0 m) (N := nb) (by omega) ?_ ?_
  · intro n a
    show f_X15_barsShown_4 (n + 1) (ad b 72) a (Int32.ofNat nb) (lay b F E I L P nx us) = _
    unfold f_X15_barsShown_4
    rw [gI_s (by decide) (by decide), Option.bind_some, h41, if_pos (Int32.le_refl _)]
  · intro n a k hk
    show f_X15_barsShown_4 (n + 1) (ad b 72) a (Int32.ofNat k) (lay b F E I L P nx us) = f_X15_barsShown_4 n (ad b 72) (a + sm (fun k' => if L 109 k' = L 105 k then 1 else 0) 0 m) (Int32.ofNat (k + 1)) (lay b F E I L P nx us)
    conv => lhs; unfold f_X15_barsShown_4
    rw [gI_s (by decide) (by decide), Option.bind_some, h41, if_neg (fun q => by have := (oN_le (by omega) (by omega)).mp q; omega), inner _ a k hk]
/-- both paint drawing d on wall w -/
theorem paintW {cv nw nd nb w d wn a : Nat} {q wd hg ow cd rd : Nat → Nat} (hcv : CV cv) (hnw : nw ≤ 16) (hnd : nd ≤ 12) (hA : WA nw q wd hg ow E (P 2)) (hB : WB nw q wd hg (dyn I) (I 73) (I 74)) (hF : WF nw q wd hg (dyn I) (I 84)) (hD : GDr nd cd rd wn E I L P ow) (hw : w < nw) (hd : d < nd) (hnb : nb ≤ 12) (hO : ∀ c, a ≤ c → ow c = 0) : ∃ (ho : RW) (A' : PSt) (J : Nat → Nat → Int32), AOK ho (L (rd d + 11)) A' ∧ (∀ c, c < wd w * hg w → (I 84 (192 * w + c) = 0 ↔ ho c = 0)) ∧ f_X0_paint (ad b cv) (ad b (cd d)) (ad b (149 + q w)) (Int32.ofNat nb) (lay b F E I L P nx us) = some (lay b F E J L P nx us) ∧ XA cv (wd w) (hg w) nb ho (L 53) A' 0 0 J ∧ (∀ q, q < cv ∨ cv + 6 < q → J q = I q) ∧ J cv 3 = 1 ∧ ∀ (I2 : Nat → Nat → Int32) (L2 : Nat → Nat → Int64), (∀ c, 72 < c → c < 149 → I2 c = I c ∧ L2 c = L c) → (∀ j, j < 12 → I2 (rd d + j) = I (rd d + j) ∧ L2 (rd d + j) = L (rd d + j)) → ∃ K M, f_X15_paintsOn (ad b 72) (Int32.ofNat d) (Int32.ofNat w) (lay b F E I2 L2 P nx us) = some (sm (pntF (K 106)) 0 192, lay b F E K M P nx us) ∧ MA (wd w) (hg w) w ho A' K M ∧ (∀ q, q ≠ 72 → q ≠ 106 → q ≠ 107 → q ≠ 108 → K q = I2 q) ∧ (∀ k, k ≠ 47 → k ≠ 48 → k ≠ 49 → k ≠ 50 → K 72 k = I2 72 k) ∧ ∀ q, q ≠ 109 → M q = L2 q := by
  have hcr := CV_r hcv
  obtain ⟨-, ⟨wk0, wk1, -⟩, w1, w2, w3, w4, -, -⟩ := hA w hw
  obtain ⟨g1, g2, g3, g4, g5, ⟨e, g6, g7⟩, dl, wc, st, it, a0, a1, a2, a3, a4, a5, a6, a7, a8, a9, aa, ab, ac, ad', ae⟩ := hD d hd
  obtain ⟨b0, b1, b2', b3⟩ := hB w hw
  have hFw := hF w hw
  have hN : wd w * hg w ≤ 192 := Nat.mul_le_mul w2 w4
  have hr : RD (rd d) := by
    rcases g5 with h | ⟨x, h, -⟩
    · exact Or.inl h
    · exact Or.inr (by omega)
  have hr' : rd d = 93 ∨ 149 ≤ rd d := hr
  have hc : CDr E (cd d) dl wc (I (cd d + 1)) (I (cd d + 2)) (I (cd d + 3)) I := ⟨a0, a1, a2, a3, a4, a5, a6, rfl, rfl, rfl, by omega, aa, ab⟩
  have hBl := Blk_sim (b := b) (F := F) (E := E) (P := P) (nx := nx) (us := us) (Lx := L) (w := w) (W := wd w) (H := hg w) (nb := nb) (ho := fun k => if k < wd w * hg w then I (149 + q w + 1) k else I (cv + 2) k) hcv g4 hr w2 w4 hnb aa 40 6 0 st 0 dl ae ac (Nat.le_refl _)
  obtain ⟨A', p1, p2, p3⟩ := paint2 (n0 := 0) hcv hr hBl ac
  obtain ⟨K, k1, k2, k3, k4⟩ := X_pnt0 (b := b) (F := F) (E := E) (I := I) (L := L) (P := P) (nx := nx) (us := us) (cv := cv) (wl := 149 + q w) (W := wd w) (H := hg w) (nb := nb) hcv hc (kdf_of (by omega) wk0) (kdf_of (by omega) wk1) (by omega) w2 w4 b0 b1 hnb (fun k hk => by
    obtain ⟨f1, f2, -⟩ := hFw k (by omega)
    have f2 : I (149 + (q w + 1)) k = I 84 (192 * w + k) := f2 hk
    rw [← Nat.add_assoc] at f2
    rw [f2]
    exact f1)
  have hcK : CDr E (cd d) dl wc (I (cd d + 1)) (I (cd d + 2)) (I (cd d + 3)) K := hc.fr (fun q hq => k3 q (by omega) (by omega) (by omega) (by omega))
  obtain ⟨J, j1, j2, j3⟩ := p2 K k2 hcK
  have hho : ∀ c, c < wd w * hg w → (I 84 (192 * w + c) = 0 ↔ (fun k => if k < wd w * hg w then I (149 + q w + 1) k else I (cv + 2) k) c = 0) := by
    intro c hc
    obtain ⟨-, f2, -⟩ := hFw c (by omega)
    have f2 : I (149 + (q w + 1)) c = I 84 (192 * w + c) := f2 hc
    rw [← Nat.add_assoc] at f2
    show _ ↔ (if c < wd w * hg w then I (149 + q w + 1) c else I (cv + 2) c) = 0
    rw [if_pos hc, f2]
  refine ⟨_, A', J, p1, hho, k1.trans j1, j2, fun q hq => ?_, ?_, ?_⟩
  · rw [j3.1 q (by omega) (by omega) (by omega) (by omega) (by omega) (by omega), k3 q (by omega) (by omega) (by omega) (by omega)]
  · rw [j3.2.1 3 (by decide) (by decide) (by decide) (by decide) (by decide)]
    exact k4
  · intro I2 L2 hI2 hR2
    have h0 := (hR2 0 (by decide)).1
    rw [Nat.add_zero] at h0
    exact p3 I2 L2 d (by omega) g3 g4 (by rw [h0]; exact a7) ⟨fun j j1 j2 => (hR2 j (by omega)).1, (hR2 11 (by decide)).2⟩ (by omega) w1 w2 w3 w4 (by rw [(hI2 73 (by decide) (by decide)).1]; exact b2') (by rw [(hI2 74 (by decide) (by decide)).1]; exact b3) (by rw [(hI2 84 (by decide) (by decide)).1]; exact hho)
theorem GDr_rd {nd wn d : Nat} {cd rd ow : Nat → Nat} (hD : GDr nd cd rd wn E I L P ow) (hd : d < nd) : rd d = 93 ∨ 149 ≤ rd d := by
  rcases (hD d hd).2.2.2.2.1 with h | ⟨x, h, -⟩
  · exact Or.inl h
  · exact Or.inr (by omega)
end SKT
