/-! ===== round: what is most urgent ===== -/
theorem sm01 {f : Nat → Int32} (h : ∀ k, f k = 0 ∨ f k = 1) : ∀ (m i : Nat), ∃ c, c ≤ m ∧ sm f i m = Int32.ofNat c := by
  intro m
  induction m with
  | zero => intro i; exact ⟨0, Nat.le_refl _, rfl⟩
  | succ m ih =>
    intro i
    obtain ⟨c, hc, he⟩ := ih (i + 1)
    show ∃ c, c ≤ m + 1 ∧ f i + sm f (i + 1) m = Int32.ofNat c
    rcases h i with h | h
    · exact ⟨c, by omega, by rw [h, he, Int32.zero_add]⟩
    · exact ⟨c + 1, by omega, by rw [h, he, Int32.add_comm, oN_succ]⟩
def toN (x : Int32) : Nat := x.toNatClampNeg
theorem toN_o {n : Nat} {x : Int32} (h : x = Int32.ofNat n) (hn : n < 2147483648) : toN x = n ∧ x = Int32.ofNat (toN x) := by
  have : toN x = n := by unfold toN; rw [h]; exact oN_nn hn
  exact ⟨this, by rw [this]; exact h⟩
/-- minutes as a Nat -/
def dN (m89 : RW) (s w : Nat) : Nat := if s = w then 0 else toN (m89 (16 * s + w))
theorem dN_le {x4 m89 : RW} (h : GWay x4 m89) {s w : Nat} (hs : s < 16) (hw : w < 16) : dN m89 s w ≤ 120 := by
  unfold dN
  by_cases hz : s = w
  · rw [if_pos hz]; omega
  · rw [if_neg hz]
    obtain ⟨-, h1, h2⟩ := (h s w hs hw).1 hz
    obtain ⟨n, hn, he⟩ := nn_oN (show ¬ m89 (16 * s + w) < 0 from fun q => by grind)
    rw [(toN_o he hn).1]
    rw [he] at h2
    exact (oN_le hn (by decide : 120 < 2147483648)).mp h2
theorem dN_eq {x4 m89 : RW} (h : GWay x4 m89) {s w : Nat} (hs : s < 16) (hw : w < 16) (hz : s ≠ w) : m89 (16 * s + w) = Int32.ofNat (dN m89 s w) := by
  unfold dN
  rw [if_neg hz]
  obtain ⟨-, h1, h2⟩ := (h s w hs hw).1 hz
  obtain ⟨n, hn, he⟩ := nn_oN (show ¬ m89 (16 * s + w) < 0 from fun q => by grind)
  exact (toN_o he hn).2
/-- rows of tags as Nats -/
theorem GTag.n {ng nw td : Nat} {x34 x35 x36 m139 m140 m141 : RW} (h : GTag ng nw td x34 x35 x36 m139 m140 m141) (h16 : nw ≤ 16) {k : Nat} (hk : k < ng) : toN (m139 k) < nw ∧ m139 k = Int32.ofNat (toN (m139 k)) ∧ toN (m140 k) < 3700 ∧ m140 k = Int32.ofNat (toN (m140 k)) := by
  obtain ⟨-, -, -, ⟨w, hw, h1⟩, ⟨d, hd, h2⟩, -⟩ := h k hk
  obtain ⟨a1, a2⟩ := toN_o h1 (by omega)
  obtain ⟨b1, b2⟩ := toN_o h2 (by omega)
  exact ⟨by omega, a2, by omega, b2⟩
/-- how urgent a tag is from wall s -/
def tKey (m139 m140 m89 : RW) (s k : Nat) : Nat := toN (m140 k) * 100000 + dN m89 s (toN (m139 k)) * 100 + toN (m139 k)
/-- f is the wall of the most urgent open tag, or there is none -/
def Urg (ng s : Nat) (m139 m140 m141 m89 : RW) (f : Int32) : Prop := (f = -1 ∧ ∀ k, k < ng → m141 k ≠ -1) ∨ ∃ k0, k0 < ng ∧ m141 k0 = -1 ∧ f = Int32.ofNat (toN (m139 k0)) ∧ ∀ k, k < ng → m141 k = -1 → tKey m139 m140 m89 s k0 ≤ tKey m139 m140 m89 s k
section RND
variable {b : Nat} {F : Nat → Option AE} {D E : Nat → Option KD} {I : Nat → Nat → Int32} {L : Nat → Nat → Int64} {P : Nat → Nat → Option Nat} {nx us : Nat}
theorem X_way {nw s w : Nat} {q wd hg ow : Nat → Nat} {m89 : RW} (hn : I 1 1 = Int32.ofNat nw) (h16 : nw ≤ 16) (hA : WA nw q wd hg ow E (P 2)) (hG : GWay (I 4) m89) (hs : s < nw) (hw : w < nw) : f_X9_way (ad b 1) (Int32.ofNat s) (Int32.ofNat w) (lay b F E I L P nx us) = some (Int32.ofNat (dN m89 s w), (lay b F E I L P nx us)) := by
  have h1 := wAt_w hn h16 hA hs
  have h2 := wAt_w hn h16 hA hw
  by_cases hz : s = w
  · subst hz
    have hd : dN m89 s s = 0 := if_pos rfl
    rw [hd]
    (simp (decide := true) only [f_X9_way_24, f_X9_way, f_X9_arePair_26, f_X9_arePair_25, f_X9_arePair, h1, isO_s, gI_s, gA_s, gL_s, pI_s, pZ_s, pL_s, aI_s, aL_s, aN_s, aQ_s, sI_s, sL_s, cr, LNs, Option.map_some, Option.map_none, Option.bind_some, b2, tr, lt, if_true, if_false, ckZ, X_within, M_in, inR_z, X_refuse, X_tell, X_deny, X_grant, M_refused, M_denied, M_done, M_granted, u2_same, u2_ne, u2_u2, upd_same, upd_ne, aW0, ixR_z, ixR_1, M_isWall, M_isPainter, M_isWork, X_has4, X_has10, X_at, or_false, false_or, or_true, true_or, not_true, not_false_iff, Option.isSome_some, isO_d, gI_d, gA_d, pI_d, ne_eq, not_false_eq_true, u2_hi, u2_hj, u2_dyn, u2_dynj, Nat.reduceAdd, mX_r, mX_rD, mX_rDj, mM_r, mX_u, mX_uM, mX_uD, mX_uDj, mM_u, mM_uX, mM_uD, mM_uDj, u2_dd, u2_d0, u2_0d]; try exact rfl)
  · have e4 : iN (Int32.ofNat (16 * s + w)) 256 = some (16 * s + w) := iN_oN (by omega) (by omega)
    have e5 := ((hG s w (by omega) (by omega)).1 hz).1
    rw [dN_eq hG (by omega) (by omega) hz] at e5
    (simp (decide := true) only [f_X9_way_24, f_X9_way, f_X9_arePair_26, f_X9_arePair_25, f_X9_arePair, h1, h2, oN_ne hz (by omega) (by omega), ix16', e4, e5, isO_s, gI_s, gA_s, gL_s, pI_s, pZ_s, pL_s, aI_s, aL_s, aN_s, aQ_s, sI_s, sL_s, cr, LNs, Option.map_some, Option.map_none, Option.bind_some, b2, tr, lt, if_true, if_false, ckZ, X_within, M_in, inR_z, X_refuse, X_tell, X_deny, X_grant, M_refused, M_denied, M_done, M_granted, u2_same, u2_ne, u2_u2, upd_same, upd_ne, aW0, ixR_z, ixR_1, M_isWall, M_isPainter, M_isWork, X_has4, X_has10, X_at, or_false, false_or, or_true, true_or, not_true, not_false_iff, Option.isSome_some, isO_d, gI_d, gA_d, pI_d, ne_eq, not_false_eq_true, u2_hi, u2_hj, u2_dyn, u2_dynj, Nat.reduceAdd, mX_r, mX_rD, mX_rDj, mM_r, mX_u, mX_uM, mX_uD, mX_uDj, mM_u, mM_uX, mM_uD, mM_uDj, u2_dd, u2_d0, u2_0d]; try exact rfl)
theorem X_way1 {nw s : Nat} {q wd hg ow : Nat → Nat} (hn : I 1 1 = Int32.ofNat nw) (h16 : nw ≤ 16) (hA : WA nw q wd hg ow E (P 2)) (hs : s < nw) : f_X9_way (ad b 1) (Int32.ofNat s) (-1) (lay b F E I L P nx us) = some (0, (lay b F E I L P nx us)) := by
  have h1 := wAt_w hn h16 hA hs
  have h2 : wAt (-1) (I 1 1) (P 2) = none := by unfold wAt; rw [if_pos (by decide)]
  (simp (decide := true) only [f_X9_way_24, f_X9_way, f_X9_arePair_26, f_X9_arePair_25, f_X9_arePair, h1, h2, isO_s, gI_s, gA_s, gL_s, pI_s, pZ_s, pL_s, aI_s, aL_s, aN_s, aQ_s, sI_s, sL_s, cr, LNs, Option.map_some, Option.map_none, Option.bind_some, b2, tr, lt, if_true, if_false, ckZ, X_within, M_in, inR_z, X_refuse, X_tell, X_deny, X_grant, M_refused, M_denied, M_done, M_granted, u2_same, u2_ne, u2_u2, upd_same, upd_ne, aW0, ixR_z, ixR_1, M_isWall, M_isPainter, M_isWork, X_has4, X_has10, X_at, or_false, false_or, or_true, true_or, not_true, not_false_iff, Option.isSome_some, isO_d, gI_d, gA_d, pI_d, ne_eq, not_false_eq_true, u2_hi, u2_hj, u2_dyn, u2_dynj, Nat.reduceAdd, mX_r, mX_rD, mX_rDj, mM_r, mX_u, mX_uM, mX_uD, mX_uDj, mM_u, mM_uX, mM_uD, mM_uDj, u2_dd, u2_d0, u2_0d]; try exact rfl)
theorem M_apart {s w : Nat} {x4 : RW} (hG : GWay x4 (I 89)) (hs : s < 16) (hw : w < 16) : f_X15_apart (ad b 72) (Int32.ofNat s) (Int32.ofNat w) (lay b F E I L P nx us) = some (Int32.ofNat (dN (I 89) s w), (lay b F E I L P nx us)) := by
  by_cases hz : s = w
  · subst hz
    have hd : dN (I 89) s s = 0 := if_pos rfl
    rw [hd]
    (simp (decide := true) only [f_X15_apart_20, f_X15_apart, isO_s, gI_s, gA_s, gL_s, pI_s, pZ_s, pL_s, aI_s, aL_s, aN_s, aQ_s, sI_s, sL_s, cr, LNs, Option.map_some, Option.map_none, Option.bind_some, b2, tr, lt, if_true, if_false, ckZ, X_within, M_in, inR_z, X_refuse, X_tell, X_deny, X_grant, M_refused, M_denied, M_done, M_granted, u2_same, u2_ne, u2_u2, upd_same, upd_ne, aW0, ixR_z, ixR_1, M_isWall, M_isPainter, M_isWork, X_has4, X_has10, X_at, or_false, false_or, or_true, true_or, not_true, not_false_iff, Option.isSome_some, isO_d, gI_d, gA_d, pI_d, ne_eq, not_false_eq_true, u2_hi, u2_hj, u2_dyn, u2_dynj, Nat.reduceAdd, mX_r, mX_rD, mX_rDj, mM_r, mX_u, mX_uM, mX_uD, mX_uDj, mM_u, mM_uX, mM_uD, mM_uDj, u2_dd, u2_d0, u2_0d]; try exact rfl)
  · have e4 : iN (Int32.ofNat (16 * s + w)) 256 = some (16 * s + w) := iN_oN (by omega) (by omega)
    have e5 := dN_eq hG hs hw hz
    (simp (decide := true) only [f_X15_apart_20, f_X15_apart, oN_ne hz (by omega) (by omega), ix16, e4, e5, isO_s, gI_s, gA_s, gL_s, pI_s, pZ_s, pL_s, aI_s, aL_s, aN_s, aQ_s, sI_s, sL_s, cr, LNs, Option.map_some, Option.map_none, Option.bind_some, b2, tr, lt, if_true, if_false, ckZ, X_within, M_in, inR_z, X_refuse, X_tell, X_deny, X_grant, M_refused, M_denied, M_done, M_granted, u2_same, u2_ne, u2_u2, upd_same, upd_ne, aW0, ixR_z, ixR_1, M_isWall, M_isPainter, M_isWork, X_has4, X_has10, X_at, or_false, false_or, or_true, true_or, not_true, not_false_iff, Option.isSome_some, isO_d, gI_d, gA_d, pI_d, ne_eq, not_false_eq_true, u2_hi, u2_hj, u2_dyn, u2_dynj, Nat.reduceAdd, mX_r, mX_rD, mX_rDj, mM_r, mX_u, mX_uM, mX_uD, mX_uDj, mM_u, mM_uX, mM_uD, mM_uDj, u2_dd, u2_d0, u2_0d]; try exact rfl)
theorem J_cmp (x y : Int32) (h : AH) : f_J6_compare_7cf53 x y h = some (if y ≤ x then (if x = y then 0 else 1) else -1, h) := by
  unfold f_J6_compare_7cf53 f_J6_compare_7cf53_19
  split
  · split <;> rfl
  · rfl
theorem X_urgent {nw ng td s : Nat} {q wd hg ow : Nat → Nat} {m89 m139 m140 m141 : RW} (hnw : I 1 1 = Int32.ofNat nw) (h16 : nw ≤ 16) (hA : WA nw q wd hg ow E (P 2)) (hG : GWay (I 4) m89) (hng : I 33 1 = Int32.ofNat ng) (h100 : ng ≤ 100) (hTg : GTag ng nw td (I 34) (I 35) (I 36) m139 m140 m141) (hs : s < nw) : ∀ (m i : Nat), i + m = ng → ∀ (fo fd : Int32) (fu : Nat), m < fu → ((fo = -1 ∧ ∀ k, k < i → m141 k ≠ -1) ∨ ∃ k0, k0 < i ∧ m141 k0 = -1 ∧ fo = Int32.ofNat (toN (m139 k0)) ∧ fd = Int32.ofNat (toN (m140 k0)) ∧ ∀ k, k < i → m141 k = -1 → tKey m139 m140 m89 s k0 ≤ tKey m139 m140 m89 s k) → ∃ f, f_X6_mostUrgent_7 fu (ad b 33) (Int32.ofNat s) fo fd (Int32.ofNat i) (lay b F E I L P nx us) = some (f, (lay b F E I L P nx us)) ∧ Urg ng s m139 m140 m141 m89 f := by
  intro m
  induction m with
  | zero =>
    intro i hi fo fd fu hfu hinv
    have hi' : i = ng := by omega
    subst hi'
    obtain ⟨fu, rfl⟩ : ∃ z, fu = z + 1 := ⟨fu - 1, by omega⟩
    refine ⟨fo, ?_, ?_⟩
    · simp (decide := true) only [f_X6_mostUrgent_7, hng, Int32.le_refl, isO_s, gI_s, gA_s, gL_s, pI_s, pZ_s, pL_s, aI_s, aL_s, aN_s, aQ_s, sI_s, sL_s, cr, LNs, Option.map_some, Option.map_none, Option.bind_some, b2, tr, lt, if_true, if_false, ckZ, X_within, M_in, inR_z, X_refuse, X_tell, X_deny, X_grant, M_refused, M_denied, M_done, M_granted, u2_same, u2_ne, u2_u2, upd_same, upd_ne, aW0, ixR_z, ixR_1, M_isWall, M_isPainter, M_isWork, X_has4, X_has10, X_at, or_false, false_or, or_true, true_or, not_true, not_false_iff, Option.isSome_some, isO_d, gI_d, gA_d, pI_d, ne_eq, not_false_eq_true, u2_hi, u2_hj, u2_dyn, u2_dynj, Nat.reduceAdd, mX_r, mX_rD, mX_rDj, mM_r, mX_u, mX_uM, mX_uD, mX_uDj, mM_u, mM_uX, mM_uD, mM_uDj, u2_dd, u2_d0, u2_0d]
    · rcases hinv with h | ⟨k0, h1, h2, h3, -, h5⟩
      · exact Or.inl h
      · exact Or.inr ⟨k0, h1, h2, h3, h5⟩
  | succ m ih =>
    intro i hi fo fd fu hfu hinv
    obtain ⟨fu, rfl⟩ : ∃ z, fu = z + 1 := ⟨fu - 1, by omega⟩
    have hik : i < ng := by omega
    have e2 := oN_leF hik (by omega)
    have e3 : iN (Int32.ofNat i) 100 = some i := iN_oN (by omega) (by omega)
    obtain ⟨g1, g2, g3, -⟩ := hTg i hik
    obtain ⟨n1, n2, n3, n4⟩ := hTg.n h16 hik
    by_cases ho : m141 i = -1
    · have ho' : I 36 i = -1 := by rw [g3]; exact ho
      have hw1 : f_X9_way (ad b 1) (Int32.ofNat s) (I 34 i) (lay b F E I L P nx us) = some (Int32.ofNat (dN m89 s (toN (m139 i))), (lay b F E I L P nx us)) := by
        rw [g1, n2]; rw [(toN_o rfl (by omega)).1]; exact X_way hnw h16 hA hG hs n1
      have x35 : I 35 i = Int32.ofNat (toN (m140 i)) := by rw [g2]; exact n4
      have x34 : I 34 i = Int32.ofNat (toN (m139 i)) := by rw [g1]; exact n2
      -- taking tag i
      have take : (∀ k, k < i → m141 k = -1 → tKey m139 m140 m89 s i ≤ tKey m139 m140 m89 s k) → ∃ f, f_X6_mostUrgent_7 fu (ad b 33) (Int32.ofNat s) (I 34 i) (I 35 i) (Int32.ofNat (i + 1)) (lay b F E I L P nx us) = some (f, (lay b F E I L P nx us)) ∧ Urg ng s m139 m140 m141 m89 f := by
        intro hall
        refine ih (i + 1) (by omega) _ _ fu (by omega) (Or.inr ⟨i, by omega, ho, x34, x35, ?_⟩)
        intro k hk hok
        by_cases hz : k = i
        · subst hz; exact Nat.le_refl _
        · exact hall k (by omega) hok
      rcases hinv with ⟨rfl, hno⟩ | ⟨k0, c1, c2, c3, c4, c5⟩
      · have hw2 := X_way1 (b := b) (F := F) (L := L) (nx := nx) (us := us) hnw h16 hA hs
        obtain ⟨f, z1, z2⟩ := take (fun k hk hok => absurd hok (hno k hk))
        refine ⟨f, ?_, z2⟩
        simp (decide := true) only [f_X6_mostUrgent_7, f_X6_mostUrgent_106, f_X6_mostUrgent_117, hng, e2, e3, ho', hw1, hw2, J_cmp, oN_succ, isO_s, gI_s, gA_s, gL_s, pI_s, pZ_s, pL_s, aI_s, aL_s, aN_s, aQ_s, sI_s, sL_s, cr, LNs, Option.map_some, Option.map_none, Option.bind_some, b2, tr, lt, if_true, if_false, ckZ, X_within, M_in, inR_z, X_refuse, X_tell, X_deny, X_grant, M_refused, M_denied, M_done, M_granted, u2_same, u2_ne, u2_u2, upd_same, upd_ne, aW0, ixR_z, ixR_1, M_isWall, M_isPainter, M_isWork, X_has4, X_has10, X_at, or_false, false_or, or_true, true_or, not_true, not_false_iff, Option.isSome_some, isO_d, gI_d, gA_d, pI_d, ne_eq, not_false_eq_true, u2_hi, u2_hj, u2_dyn, u2_dynj, Nat.reduceAdd, mX_r, mX_rD, mX_rDj, mM_r, mX_u, mX_uM, mX_uD, mX_uDj, mM_u, mM_uX, mM_uD, mM_uDj, u2_dd, u2_d0, u2_0d]
        exact z1
      · obtain ⟨p1, p2, p3, p4⟩ := hTg.n h16 (show k0 < ng by omega)
        have hw2 := X_way (b := b) (F := F) (L := L) (nx := nx) (us := us) hnw h16 hA hG hs p1
        rw [← c3] at hw2
        have hm1 : ¬ fo = -1 := by rw [c3]; exact oN_m1 (by omega)
        have d1 := dN_le hG (show s < 16 by omega) (show toN (m139 i) < 16 by omega)
        have d2 := dN_le hG (show s < 16 by omega) (show toN (m139 k0) < 16 by omega)
        -- keeping k0
        have keep : tKey m139 m140 m89 s k0 ≤ tKey m139 m140 m89 s i → ∃ f, f_X6_mostUrgent_7 fu (ad b 33) (Int32.ofNat s) fo fd (Int32.ofNat (i + 1)) (lay b F E I L P nx us) = some (f, (lay b F E I L P nx us)) ∧ Urg ng s m139 m140 m141 m89 f := by
          intro hle
          refine ih (i + 1) (by omega) _ _ fu (by omega) (Or.inr ⟨k0, by omega, c2, c3, c4, ?_⟩)
          intro k hk hok
          by_cases hz : k = i
          · subst hz; exact hle
          · exact c5 k (by omega) hok
        have take' : tKey m139 m140 m89 s i ≤ tKey m139 m140 m89 s k0 → ∃ f, f_X6_mostUrgent_7 fu (ad b 33) (Int32.ofNat s) (I 34 i) (I 35 i) (Int32.ofNat (i + 1)) (lay b F E I L P nx us) = some (f, (lay b F E I L P nx us)) ∧ Urg ng s m139 m140 m141 m89 f := fun hle => take (fun k hk hok => Nat.le_trans hle (c5 k hk hok))
        unfold tKey at keep take'
        by_cases y1 : toN (m140 i) < toN (m140 k0)
        · obtain ⟨f, z1, z2⟩ := take' (by omega)
          have r1 : I 35 i < fd := by rw [x35, c4]; exact (oN_lt (by omega) (by omega)).mpr y1
          refine ⟨f, ?_, z2⟩
          simp (decide := true) only [f_X6_mostUrgent_7, f_X6_mostUrgent_106, f_X6_mostUrgent_117, hng, e2, e3, ho', hw1, hw2, J_cmp, hm1, r1, oN_succ, isO_s, gI_s, gA_s, gL_s, pI_s, pZ_s, pL_s, aI_s, aL_s, aN_s, aQ_s, sI_s, sL_s, cr, LNs, Option.map_some, Option.map_none, Option.bind_some, b2, tr, lt, if_true, if_false, ckZ, X_within, M_in, inR_z, X_refuse, X_tell, X_deny, X_grant, M_refused, M_denied, M_done, M_granted, u2_same, u2_ne, u2_u2, upd_same, upd_ne, aW0, ixR_z, ixR_1, M_isWall, M_isPainter, M_isWork, X_has4, X_has10, X_at, or_false, false_or, or_true, true_or, not_true, not_false_iff, Option.isSome_some, isO_d, gI_d, gA_d, pI_d, ne_eq, not_false_eq_true, u2_hi, u2_hj, u2_dyn, u2_dynj, Nat.reduceAdd, mX_r, mX_rD, mX_rDj, mM_r, mX_u, mX_uM, mX_uD, mX_uDj, mM_u, mM_uX, mM_uD, mM_uDj, u2_dd, u2_d0, u2_0d]
          exact z1
        · have r1 : ¬ I 35 i < fd := by rw [x35, c4, oN_lt (by omega) (by omega)]; exact y1
          by_cases y2 : toN (m140 i) = toN (m140 k0)
          · have r2 : I 35 i = fd := by rw [x35, c4, y2]
            have r1' : ¬ fd < fd := Int32.lt_irrefl
            by_cases y3 : dN m89 s (toN (m139 i)) < dN m89 s (toN (m139 k0))
            · obtain ⟨f, z1, z2⟩ := take' (by omega)
              have r3 : ¬ Int32.ofNat (dN m89 s (toN (m139 k0))) ≤ Int32.ofNat (dN m89 s (toN (m139 i))) := by rw [oN_le (by omega) (by omega)]; omega
              refine ⟨f, ?_, z2⟩
              rw [r2] at z1
              simp (decide := true) only [f_X6_mostUrgent_7, f_X6_mostUrgent_106, f_X6_mostUrgent_117, hng, e2, e3, ho', hw1, hw2, J_cmp, hm1, r1', r2, r3, oN_succ, isO_s, gI_s, gA_s, gL_s, pI_s, pZ_s, pL_s, aI_s, aL_s, aN_s, aQ_s, sI_s, sL_s, cr, LNs, Option.map_some, Option.map_none, Option.bind_some, b2, tr, lt, if_true, if_false, ckZ, X_within, M_in, inR_z, X_refuse, X_tell, X_deny, X_grant, M_refused, M_denied, M_done, M_granted, u2_same, u2_ne, u2_u2, upd_same, upd_ne, aW0, ixR_z, ixR_1, M_isWall, M_isPainter, M_isWork, X_has4, X_has10, X_at, or_false, false_or, or_true, true_or, not_true, not_false_iff, Option.isSome_some, isO_d, gI_d, gA_d, pI_d, ne_eq, not_false_eq_true, u2_hi, u2_hj, u2_dyn, u2_dynj, Nat.reduceAdd, mX_r, mX_rD, mX_rDj, mM_r, mX_u, mX_uM, mX_uD, mX_uDj, mM_u, mM_uX, mM_uD, mM_uDj, u2_dd, u2_d0, u2_0d]
              exact z1
            · have r3 : Int32.ofNat (dN m89 s (toN (m139 k0))) ≤ Int32.ofNat (dN m89 s (toN (m139 i))) := by rw [oN_le (by omega) (by omega)]; omega
              by_cases y4 : dN m89 s (toN (m139 i)) = dN m89 s (toN (m139 k0))
              · have r4 : Int32.ofNat (dN m89 s (toN (m139 i))) = Int32.ofNat (dN m89 s (toN (m139 k0))) := by rw [y4]
                by_cases y5 : toN (m139 k0) ≤ toN (m139 i)
                · obtain ⟨f, z1, z2⟩ := keep (by omega)
                  have r5 : fo ≤ I 34 i := by rw [c3, x34]; exact oN_leL y5 (by omega)
                  refine ⟨f, ?_, z2⟩
                  simp (decide := true) only [f_X6_mostUrgent_7, f_X6_mostUrgent_106, f_X6_mostUrgent_117, hng, e2, e3, ho', hw1, hw2, J_cmp, hm1, r1', r2, r4, Int32.le_refl, r5, oN_succ, isO_s, gI_s, gA_s, gL_s, pI_s, pZ_s, pL_s, aI_s, aL_s, aN_s, aQ_s, sI_s, sL_s, cr, LNs, Option.map_some, Option.map_none, Option.bind_some, b2, tr, lt, if_true, if_false, ckZ, X_within, M_in, inR_z, X_refuse, X_tell, X_deny, X_grant, M_refused, M_denied, M_done, M_granted, u2_same, u2_ne, u2_u2, upd_same, upd_ne, aW0, ixR_z, ixR_1, M_isWall, M_isPainter, M_isWork, X_has4, X_has10, X_at, or_false, false_or, or_true, true_or, not_true, not_false_iff, Option.isSome_some, isO_d, gI_d, gA_d, pI_d, ne_eq, not_false_eq_true, u2_hi, u2_hj, u2_dyn, u2_dynj, Nat.reduceAdd, mX_r, mX_rD, mX_rDj, mM_r, mX_u, mX_uM, mX_uD, mX_uDj, mM_u, mM_uX, mM_uD, mM_uDj, u2_dd, u2_d0, u2_0d]
                  exact z1
                · obtain ⟨f, z1, z2⟩ := take' (by omega)
                  have r5 : ¬ fo ≤ I 34 i := by rw [c3, x34, oN_le (by omega) (by omega)]; omega
                  refine ⟨f, ?_, z2⟩
                  rw [r2] at z1
                  simp (decide := true) only [f_X6_mostUrgent_7, f_X6_mostUrgent_106, f_X6_mostUrgent_117, hng, e2, e3, ho', hw1, hw2, J_cmp, hm1, r1', r2, r4, Int32.le_refl, r5, oN_succ, isO_s, gI_s, gA_s, gL_s, pI_s, pZ_s, pL_s, aI_s, aL_s, aN_s, aQ_s, sI_s, sL_s, cr, LNs, Option.map_some, Option.map_none, Option.bind_some, b2, tr, lt, if_true, if_false, ckZ, X_within, M_in, inR_z, X_refuse, X_tell, X_deny, X_grant, M_refused, M_denied, M_done, M_granted, u2_same, u2_ne, u2_u2, upd_same, upd_ne, aW0, ixR_z, ixR_1, M_isWall, M_isPainter, M_isWork, X_has4, X_has10, X_at, or_false, false_or, or_true, true_or, not_true, not_false_iff, Option.isSome_some, isO_d, gI_d, gA_d, pI_d, ne_eq, not_false_eq_true, u2_hi, u2_hj, u2_dyn, u2_dynj, Nat.reduceAdd, mX_r, mX_rD, mX_rDj, mM_r, mX_u, mX_uM, mX_uD, mX_uDj, mM_u, mM_uX, mM_uD, mM_uDj, u2_dd, u2_d0, u2_0d]
                  exact z1
              · obtain ⟨f, z1, z2⟩ := keep (by omega)
                have r4 : ¬ Int32.ofNat (dN m89 s (toN (m139 i))) = Int32.ofNat (dN m89 s (toN (m139 k0))) := by rw [oN_eq (by omega) (by omega)]; exact y4
                refine ⟨f, ?_, z2⟩
                simp (decide := true) only [f_X6_mostUrgent_7, f_X6_mostUrgent_106, f_X6_mostUrgent_117, hng, e2, e3, ho', hw1, hw2, J_cmp, hm1, r1', r2, r3, r4, oN_succ, isO_s, gI_s, gA_s, gL_s, pI_s, pZ_s, pL_s, aI_s, aL_s, aN_s, aQ_s, sI_s, sL_s, cr, LNs, Option.map_some, Option.map_none, Option.bind_some, b2, tr, lt, if_true, if_false, ckZ, X_within, M_in, inR_z, X_refuse, X_tell, X_deny, X_grant, M_refused, M_denied, M_done, M_granted, u2_same, u2_ne, u2_u2, upd_same, upd_ne, aW0, ixR_z, ixR_1, M_isWall, M_isPainter, M_isWork, X_has4, X_has10, X_at, or_false, false_or, or_true, true_or, not_true, not_false_iff, Option.isSome_some, isO_d, gI_d, gA_d, pI_d, ne_eq, not_false_eq_true, u2_hi, u2_hj, u2_dyn, u2_dynj, Nat.reduceAdd, mX_r, mX_rD, mX_rDj, mM_r, mX_u, mX_uM, mX_uD, mX_uDj, mM_u, mM_uX, mM_uD, mM_uDj, u2_dd, u2_d0, u2_0d]
                exact z1
          · obtain ⟨f, z1, z2⟩ := keep (by omega)
            have r2 : ¬ I 35 i = fd := by rw [x35, c4, oN_eq (by omega) (by omega)]; exact y2
            refine ⟨f, ?_, z2⟩
            simp (decide := true) only [f_X6_mostUrgent_7, f_X6_mostUrgent_106, f_X6_mostUrgent_117, hng, e2, e3, ho', hw1, hw2, J_cmp, hm1, r1, r2, oN_succ, isO_s, gI_s, gA_s, gL_s, pI_s, pZ_s, pL_s, aI_s, aL_s, aN_s, aQ_s, sI_s, sL_s, cr, LNs, Option.map_some, Option.map_none, Option.bind_some, b2, tr, lt, if_true, if_false, ckZ, X_within, M_in, inR_z, X_refuse, X_tell, X_deny, X_grant, M_refused, M_denied, M_done, M_granted, u2_same, u2_ne, u2_u2, upd_same, upd_ne, aW0, ixR_z, ixR_1, M_isWall, M_isPainter, M_isWork, X_has4, X_has10, X_at, or_false, false_or, or_true, true_or, not_true, not_false_iff, Option.isSome_some, isO_d, gI_d, gA_d, pI_d, ne_eq, not_false_eq_true, u2_hi, u2_hj, u2_dyn, u2_dynj, Nat.reduceAdd, mX_r, mX_rD, mX_rDj, mM_r, mX_u, mX_uM, mX_uD, mX_uDj, mM_u, mM_uX, mM_uD, mM_uDj, u2_dd, u2_d0, u2_0d]
            exact z1
    · have ho' : ¬ I 36 i = -1 := by rw [g3]; exact ho
      obtain ⟨f, z1, z2⟩ := ih (i + 1) (by omega) fo fd fu (by omega) (by
        rcases hinv with ⟨h1, h2⟩ | ⟨k0, c1, c2, c3, c4, c5⟩
        · refine Or.inl ⟨h1, fun k hk => ?_⟩
          by_cases hz : k = i
          · subst hz; exact ho
          · exact h2 k (by omega)
        · refine Or.inr ⟨k0, by omega, c2, c3, c4, fun k hk hok => ?_⟩
          by_cases hz : k = i
          · subst hz; exact absurd hok ho
          · exact c5 k (by omega) hok)
      refine ⟨f, ?_, z2⟩
      simp (decide := true) only [f_X6_mostUrgent_7, f_X6_mostUrgent_117, hng, e2, e3, ho', oN_succ, isO_s, gI_s, gA_s, gL_s, pI_s, pZ_s, pL_s, aI_s, aL_s, aN_s, aQ_s, sI_s, sL_s, cr, LNs, Option.map_some, Option.map_none, Option.bind_some, b2, tr, lt, if_true, if_false, ckZ, X_within, M_in, inR_z, X_refuse, X_tell, X_deny, X_grant, M_refused, M_denied, M_done, M_granted, u2_same, u2_ne, u2_u2, upd_same, upd_ne, aW0, ixR_z, ixR_1, M_isWall, M_isPainter, M_isWork, X_has4, X_has10, X_at, or_false, false_or, or_true, true_or, not_true, not_false_iff, Option.isSome_some, isO_d, gI_d, gA_d, pI_d, ne_eq, not_false_eq_true, u2_hi, u2_hj, u2_dyn, u2_dynj, Nat.reduceAdd, mX_r, mX_rD, mX_rDj, mM_r, mX_u, mX_uM, mX_uD, mX_uDj, mM_u, mM_uX, mM_uD, mM_uDj, u2_dd, u2_d0, u2_0d]
      exact z1
end RND
