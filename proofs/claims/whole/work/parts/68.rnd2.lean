/-! ===== round: the reference's next wall ===== -/
/-- the least day of open tags on wall w -/
def lbF (m139 m140 m141 : RW) (w : Nat) : Nat → Nat → Nat → Nat
  | a, _, 0 => a
  | a, i, m + 1 => lbF m139 m140 m141 w (if m139 i = Int32.ofNat w ∧ m141 i = -1 then min a (toN (m140 i)) else a) (i + 1) m
theorem lbF_spec {m139 m140 m141 : RW} {w : Nat} : ∀ (m i a : Nat), lbF m139 m140 m141 w a i m ≤ a ∧ (∀ k, i ≤ k → k < i + m → m139 k = Int32.ofNat w → m141 k = -1 → lbF m139 m140 m141 w a i m ≤ toN (m140 k)) ∧ (lbF m139 m140 m141 w a i m = a ∨ ∃ k, i ≤ k ∧ k < i + m ∧ m139 k = Int32.ofNat w ∧ m141 k = -1 ∧ lbF m139 m140 m141 w a i m = toN (m140 k)) := by
  intro m
  induction m with
  | zero => intro i a; exact ⟨Nat.le_refl _, fun k h1 h2 => by omega, Or.inl rfl⟩
  | succ m ih =>
    intro i a
    have hd : lbF m139 m140 m141 w a i (m + 1) = lbF m139 m140 m141 w (if m139 i = Int32.ofNat w ∧ m141 i = -1 then min a (toN (m140 i)) else a) (i + 1) m := rfl
    rw [hd]
    obtain ⟨h1, h2, h3⟩ := ih (i + 1) (if m139 i = Int32.ofNat w ∧ m141 i = -1 then min a (toN (m140 i)) else a)
    by_cases hc : m139 i = Int32.ofNat w ∧ m141 i = -1
    · rw [if_pos hc] at h1 h2 h3 ⊢
      refine ⟨by omega, ?_, ?_⟩
      · intro k k1 k2 k3 k4
        by_cases hz : k = i
        · subst hz; omega
        · exact h2 k (by omega) (by omega) k3 k4
      · rcases h3 with h3 | ⟨k, k1, k2, k3, k4, k5⟩
        · by_cases hm : a ≤ toN (m140 i)
          · left; omega
          · right; exact ⟨i, by omega, by omega, hc.1, hc.2, by omega⟩
        · right; exact ⟨k, by omega, by omega, k3, k4, k5⟩
    · rw [if_neg hc] at h1 h2 h3 ⊢
      refine ⟨h1, ?_, ?_⟩
      · intro k k1 k2 k3 k4
        by_cases hz : k = i
        · subst hz; exact absurd ⟨k3, k4⟩ hc
        · exact h2 k (by omega) (by omega) k3 k4
      · rcases h3 with h3 | ⟨k, k1, k2, k3, k4, k5⟩
        · exact Or.inl h3
        · exact Or.inr ⟨k, by omega, by omega, k3, k4, k5⟩
def lbW (ng : Nat) (m139 m140 m141 : RW) (w : Nat) : Nat := lbF m139 m140 m141 w 1000000 0 ng
/-- f is the wall that the reference takes, or there is none -/
def UrgW (ng nw s : Nat) (m139 m140 m141 m89 : RW) (f : Int32) : Prop := (f = -1 ∧ ∀ w, w < nw → lbW ng m139 m140 m141 w = 1000000) ∨ ∃ w0, w0 < nw ∧ lbW ng m139 m140 m141 w0 ≠ 1000000 ∧ f = Int32.ofNat w0 ∧ ∀ w, w < nw → lbW ng m139 m140 m141 w ≠ 1000000 → lbW ng m139 m140 m141 w0 * 100000 + dN m89 s w0 * 100 + w0 ≤ lbW ng m139 m140 m141 w * 100000 + dN m89 s w * 100 + w
theorem Urg_eq {ng nw td s : Nat} {x4 x34 x35 x36 m139 m140 m141 m89 : RW} {f g : Int32} (hG : GWay x4 m89) (hTg : GTag ng nw td x34 x35 x36 m139 m140 m141) (h16 : nw ≤ 16) (hs : s < nw) (h1 : Urg ng s m139 m140 m141 m89 f) (h2 : UrgW ng nw s m139 m140 m141 m89 g) : f = g := by
  have lb : ∀ w, lbW ng m139 m140 m141 w ≤ 1000000 ∧ (∀ k, k < ng → m139 k = Int32.ofNat w → m141 k = -1 → lbW ng m139 m140 m141 w ≤ toN (m140 k)) ∧ (lbW ng m139 m140 m141 w = 1000000 ∨ ∃ k, k < ng ∧ m139 k = Int32.ofNat w ∧ m141 k = -1 ∧ lbW ng m139 m140 m141 w = toN (m140 k)) := by
    intro w
    obtain ⟨a1, a2, a3⟩ := lbF_spec (m139 := m139) (m140 := m140) (m141 := m141) (w := w) ng 0 1000000
    refine ⟨a1, fun k h => a2 k (by omega) (by omega), ?_⟩
    rcases a3 with a3 | ⟨k, -, k2, k3⟩
    · exact Or.inl a3
    · exact Or.inr ⟨k, by omega, k3⟩
  rcases h1 with ⟨rfl, hno⟩ | ⟨k0, c1, c2, rfl, c5⟩
  · rcases h2 with ⟨rfl, -⟩ | ⟨w0, d1, d2, -, -⟩
    · rfl
    · obtain ⟨-, -, l3⟩ := lb w0
      rcases l3 with l3 | ⟨k, k1, k2, k3, k4⟩
      · exact absurd l3 d2
      · exact absurd k3 (hno k k1)
  · obtain ⟨n1, n2, n3, n4⟩ := hTg.n h16 c1
    obtain ⟨-, l2, -⟩ := lb (toN (m139 k0))
    have l2 := l2 k0 c1 n2 c2
    rcases h2 with ⟨-, hno⟩ | ⟨w0, d1, d2, rfl, d4⟩
    · have := hno _ n1
      omega
    · obtain ⟨-, -, l3⟩ := lb w0
      rcases l3 with l3 | ⟨k, k1, k2, k3, k4⟩
      · exact absurd l3 d2
      · have e1 := d4 _ n1 (by omega)
        have e2 := c5 k k1 k3
        unfold tKey at e2
        have hk : toN (m139 k) = w0 := (toN_o k2 (by omega)).1
        rw [hk, ← k4] at e2
        have q1 := dN_le hG (show s < 16 by omega) (show toN (m139 k0) < 16 by omega)
        have q2 := dN_le hG (show s < 16 by omega) (show w0 < 16 by omega)
        have : toN (m139 k0) = w0 := by omega
        rw [this]
section RND2
variable {b : Nat} {F : Nat → Option AE} {D E : Nat → Option KD} {I : Nat → Nat → Int32} {L : Nat → Nat → Int64} {P : Nat → Nat → Option Nat} {nx us : Nat}
theorem M_leastBy {ng nw td w : Nat} {x34 x35 x36 : RW} (hng : I 72 95 = Int32.ofNat ng) (h100 : ng ≤ 100) (h16 : nw ≤ 16) (hTg : GTag ng nw td x34 x35 x36 (I 139) (I 140) (I 141)) : f_X15_leastBy (ad b 72) (Int32.ofNat w) (lay b F E I L P nx us) = some (Int32.ofNat (lbW ng (I 139) (I 140) (I 141) w), (lay b F E I L P nx us)) := by
  have lp : ∀ (m i : Nat), i + m = ng → ∀ (a fu : Nat), a ≤ 1000000 → m < fu → f_X15_leastBy_5 fu (ad b 72) (Int32.ofNat w) (Int32.ofNat a) (Int32.ofNat i) (lay b F E I L P nx us) = some (Int32.ofNat (lbF (I 139) (I 140) (I 141) w a i m), (lay b F E I L P nx us)) := by
    intro m
    induction m with
    | zero =>
      intro i hi a fu ha hfu
      have hi' : i = ng := by omega
      subst hi'
      obtain ⟨fu, rfl⟩ : ∃ z, fu = z + 1 := ⟨fu - 1, by omega⟩
      simp (decide := true) only [f_X15_leastBy_5, hng, Int32.le_refl, isO_s, gI_s, gA_s, gL_s, pI_s, pZ_s, pL_s, aI_s, aL_s, aN_s, aQ_s, sI_s, sL_s, cr, LNs, Option.map_some, Option.map_none, Option.bind_some, b2, tr, lt, if_true, if_false, ckZ, X_within, M_in, inR_z, X_refuse, X_tell, X_deny, X_grant, M_refused, M_denied, M_done, M_granted, u2_same, u2_ne, u2_u2, upd_same, upd_ne, aW0, ixR_z, ixR_1, M_isWall, M_isPainter, M_isWork, X_has4, X_has10, X_at, or_false, false_or, or_true, true_or, not_true, not_false_iff, Option.isSome_some, isO_d, gI_d, gA_d, pI_d, ne_eq, not_false_eq_true, u2_hi, u2_hj, u2_dyn, u2_dynj, Nat.reduceAdd, mX_r, mX_rD, mX_rDj, mM_r, mX_u, mX_uM, mX_uD, mX_uDj, mM_u, mM_uX, mM_uD, mM_uDj, u2_dd, u2_d0, u2_0d]
      rfl
    | succ m ih =>
      intro i hi a fu ha hfu
      obtain ⟨fu, rfl⟩ : ∃ z, fu = z + 1 := ⟨fu - 1, by omega⟩
      have hik : i < ng := by omega
      have e2 := oN_leF hik (by omega)
      have e3 : iN (Int32.ofNat i) 100 = some i := iN_oN (by omega) (by omega)
      obtain ⟨n1, n2, n3, n4⟩ := hTg.n h16 hik
      show _ = some (Int32.ofNat (lbF (I 139) (I 140) (I 141) w (if I 139 i = Int32.ofNat w ∧ I 141 i = -1 then min a (toN (I 140 i)) else a) (i + 1) m), (lay b F E I L P nx us))
      by_cases c1 : I 139 i = Int32.ofNat w
      · by_cases c2 : I 141 i = -1
        · have hmn : mnI (Int32.ofNat a) (I 140 i) = Int32.ofNat (min a (toN (I 140 i))) := by
            unfold mnI
            generalize hz : toN (I 140 i) = z at n3 n4
            rw [n4]
            by_cases hl : z < a
            · rw [if_pos ((oN_lt (by omega) (by omega)).mpr hl), Nat.min_eq_right (by omega)]
            · rw [if_neg (fun q => hl ((oN_lt (by omega) (by omega)).mp q)), Nat.min_eq_left (by omega)]
          rw [if_pos ⟨c1, c2⟩, ← ih (i + 1) (by omega) (min a (toN (I 140 i))) fu (by omega) (by omega)]
          simp (decide := true) only [f_X15_leastBy_5, f_X15_leastBy_46, f_X15_leastBy_47, hng, e2, e3, c1, c2, hmn, oN_succ, isO_s, gI_s, gA_s, gL_s, pI_s, pZ_s, pL_s, aI_s, aL_s, aN_s, aQ_s, sI_s, sL_s, cr, LNs, Option.map_some, Option.map_none, Option.bind_some, b2, tr, lt, if_true, if_false, ckZ, X_within, M_in, inR_z, X_refuse, X_tell, X_deny, X_grant, M_refused, M_denied, M_done, M_granted, u2_same, u2_ne, u2_u2, upd_same, upd_ne, aW0, ixR_z, ixR_1, M_isWall, M_isPainter, M_isWork, X_has4, X_has10, X_at, or_false, false_or, or_true, true_or, not_true, not_false_iff, Option.isSome_some, isO_d, gI_d, gA_d, pI_d, ne_eq, not_false_eq_true, u2_hi, u2_hj, u2_dyn, u2_dynj, Nat.reduceAdd, mX_r, mX_rD, mX_rDj, mM_r, mX_u, mX_uM, mX_uD, mX_uDj, mM_u, mM_uX, mM_uD, mM_uDj, u2_dd, u2_d0, u2_0d]
        · rw [if_neg (fun q => c2 q.2), ← ih (i + 1) (by omega) a fu ha (by omega)]
          simp (decide := true) only [f_X15_leastBy_5, f_X15_leastBy_46, f_X15_leastBy_47, hng, e2, e3, c1, c2, oN_succ, isO_s, gI_s, gA_s, gL_s, pI_s, pZ_s, pL_s, aI_s, aL_s, aN_s, aQ_s, sI_s, sL_s, cr, LNs, Option.map_some, Option.map_none, Option.bind_some, b2, tr, lt, if_true, if_false, ckZ, X_within, M_in, inR_z, X_refuse, X_tell, X_deny, X_grant, M_refused, M_denied, M_done, M_granted, u2_same, u2_ne, u2_u2, upd_same, upd_ne, aW0, ixR_z, ixR_1, M_isWall, M_isPainter, M_isWork, X_has4, X_has10, X_at, or_false, false_or, or_true, true_or, not_true, not_false_iff, Option.isSome_some, isO_d, gI_d, gA_d, pI_d, ne_eq, not_false_eq_true, u2_hi, u2_hj, u2_dyn, u2_dynj, Nat.reduceAdd, mX_r, mX_rD, mX_rDj, mM_r, mX_u, mX_uM, mX_uD, mX_uDj, mM_u, mM_uX, mM_uD, mM_uDj, u2_dd, u2_d0, u2_0d]
      · rw [if_neg (fun q => c1 q.1), ← ih (i + 1) (by omega) a fu ha (by omega)]
        simp (decide := true) only [f_X15_leastBy_5, f_X15_leastBy_46, f_X15_leastBy_47, hng, e2, e3, c1, oN_succ, isO_s, gI_s, gA_s, gL_s, pI_s, pZ_s, pL_s, aI_s, aL_s, aN_s, aQ_s, sI_s, sL_s, cr, LNs, Option.map_some, Option.map_none, Option.bind_some, b2, tr, lt, if_true, if_false, ckZ, X_within, M_in, inR_z, X_refuse, X_tell, X_deny, X_grant, M_refused, M_denied, M_done, M_granted, u2_same, u2_ne, u2_u2, upd_same, upd_ne, aW0, ixR_z, ixR_1, M_isWall, M_isPainter, M_isWork, X_has4, X_has10, X_at, or_false, false_or, or_true, true_or, not_true, not_false_iff, Option.isSome_some, isO_d, gI_d, gA_d, pI_d, ne_eq, not_false_eq_true, u2_hi, u2_hj, u2_dyn, u2_dynj, Nat.reduceAdd, mX_r, mX_rD, mX_rDj, mM_r, mX_u, mX_uM, mX_uD, mX_uDj, mM_u, mM_uX, mM_uD, mM_uDj, u2_dd, u2_d0, u2_0d]
  simp (decide := true) only [f_X15_leastBy_47, f_X15_leastBy_46, f_X15_leastBy, isO_s, gI_s, gA_s, gL_s, pI_s, pZ_s, pL_s, aI_s, aL_s, aN_s, aQ_s, sI_s, sL_s, cr, LNs, Option.map_some, Option.map_none, Option.bind_some, b2, tr, lt, if_true, if_false, ckZ, X_within, M_in, inR_z, X_refuse, X_tell, X_deny, X_grant, M_refused, M_denied, M_done, M_granted, u2_same, u2_ne, u2_u2, upd_same, upd_ne, aW0, ixR_z, ixR_1, M_isWall, M_isPainter, M_isWork, X_has4, X_has10, X_at, or_false, false_or, or_true, true_or, not_true, not_false_iff, Option.isSome_some, isO_d, gI_d, gA_d, pI_d, ne_eq, not_false_eq_true, u2_hi, u2_hj, u2_dyn, u2_dynj, Nat.reduceAdd, mX_r, mX_rD, mX_rDj, mM_r, mX_u, mX_uM, mX_uD, mX_uDj, mM_u, mM_uX, mM_uD, mM_uDj, u2_dd, u2_d0, u2_0d]
  exact lp ng 0 (by omega) 1000000 FU (by omega) (by unfold FU; omega)
theorem M_nextWall {ng nw td s : Nat} {x4 x34 x35 x36 : RW} (hnw : I 72 4 = Int32.ofNat nw) (h16 : nw ≤ 16) (hng : I 72 95 = Int32.ofNat ng) (h100 : ng ≤ 100) (hG : GWay x4 (I 89)) (hTg : GTag ng nw td x34 x35 x36 (I 139) (I 140) (I 141)) (hs : s < nw) : ∃ f, f_X15_nextWall (ad b 72) (Int32.ofNat s) (lay b F E I L P nx us) = some (f, (lay b F E I L P nx us)) ∧ UrgW ng nw s (I 139) (I 140) (I 141) (I 89) f := by
  have hlb := fun w => M_leastBy (b := b) (F := F) (E := E) (L := L) (P := P) (nx := nx) (us := us) (w := w) hng h100 h16 hTg
  have lb6 : ∀ w, lbW ng (I 139) (I 140) (I 141) w ≤ 1000000 := fun w => (lbF_spec ng 0 1000000).1
  have lp : ∀ (m w : Nat), w + m = nw → ∀ (be : Int32) (fu : Nat), m < fu → ((be = -1 ∧ ∀ v, v < w → lbW ng (I 139) (I 140) (I 141) v = 1000000) ∨ ∃ w0, w0 < w ∧ lbW ng (I 139) (I 140) (I 141) w0 ≠ 1000000 ∧ be = Int32.ofNat w0 ∧ ∀ v, v < w → lbW ng (I 139) (I 140) (I 141) v ≠ 1000000 → lbW ng (I 139) (I 140) (I 141) w0 * 100000 + dN (I 89) s w0 * 100 + w0 ≤ lbW ng (I 139) (I 140) (I 141) v * 100000 + dN (I 89) s v * 100 + v) → ∃ f, f_X15_nextWall_4 fu (ad b 72) (Int32.ofNat s) be (Int32.ofNat w) (lay b F E I L P nx us) = some (f, (lay b F E I L P nx us)) ∧ UrgW ng nw s (I 139) (I 140) (I 141) (I 89) f := by
    intro m
    induction m with
    | zero =>
      intro w hw be fu hfu hinv
      have hw' : w = nw := by omega
      subst hw'
      obtain ⟨fu, rfl⟩ : ∃ z, fu = z + 1 := ⟨fu - 1, by omega⟩
      refine ⟨be, ?_, hinv⟩
      simp (decide := true) only [f_X15_nextWall_4, hnw, Int32.le_refl, isO_s, gI_s, gA_s, gL_s, pI_s, pZ_s, pL_s, aI_s, aL_s, aN_s, aQ_s, sI_s, sL_s, cr, LNs, Option.map_some, Option.map_none, Option.bind_some, b2, tr, lt, if_true, if_false, ckZ, X_within, M_in, inR_z, X_refuse, X_tell, X_deny, X_grant, M_refused, M_denied, M_done, M_granted, u2_same, u2_ne, u2_u2, upd_same, upd_ne, aW0, ixR_z, ixR_1, M_isWall, M_isPainter, M_isWork, X_has4, X_has10, X_at, or_false, false_or, or_true, true_or, not_true, not_false_iff, Option.isSome_some, isO_d, gI_d, gA_d, pI_d, ne_eq, not_false_eq_true, u2_hi, u2_hj, u2_dyn, u2_dynj, Nat.reduceAdd, mX_r, mX_rD, mX_rDj, mM_r, mX_u, mX_uM, mX_uD, mX_uDj, mM_u, mM_uX, mM_uD, mM_uDj, u2_dd, u2_d0, u2_0d]
    | succ m ih =>
      intro w hw be fu hfu hinv
      obtain ⟨fu, rfl⟩ : ∃ z, fu = z + 1 := ⟨fu - 1, by omega⟩
      have hwn : w < nw := by omega
      have e2 := oN_leF hwn (by omega)
      by_cases hf : lbW ng (I 139) (I 140) (I 141) w = 1000000
      · obtain ⟨f, z1, z2⟩ := ih (w + 1) (by omega) be fu (by omega) (by
          rcases hinv with ⟨h1, h2⟩ | ⟨w0, c1, c2, c3, c4⟩
          · refine Or.inl ⟨h1, fun v hv => ?_⟩
            by_cases hz : v = w
            · subst hz; exact hf
            · exact h2 v (by omega)
          · refine Or.inr ⟨w0, by omega, c2, c3, fun v hv hvf => ?_⟩
            by_cases hz : v = w
            · subst hz; exact absurd hf hvf
            · exact c4 v (by omega) hvf)
        refine ⟨f, ?_, z2⟩
        have e5 : Int32.ofNat 1000000 = 1000000 := rfl
        simp (decide := true) only [f_X15_nextWall_4, f_X15_nextWall_85, hnw, e2, hlb w, hf, e5, oN_succ, isO_s, gI_s, gA_s, gL_s, pI_s, pZ_s, pL_s, aI_s, aL_s, aN_s, aQ_s, sI_s, sL_s, cr, LNs, Option.map_some, Option.map_none, Option.bind_some, b2, tr, lt, if_true, if_false, ckZ, X_within, M_in, inR_z, X_refuse, X_tell, X_deny, X_grant, M_refused, M_denied, M_done, M_granted, u2_same, u2_ne, u2_u2, upd_same, upd_ne, aW0, ixR_z, ixR_1, M_isWall, M_isPainter, M_isWork, X_has4, X_has10, X_at, or_false, false_or, or_true, true_or, not_true, not_false_iff, Option.isSome_some, isO_d, gI_d, gA_d, pI_d, ne_eq, not_false_eq_true, u2_hi, u2_hj, u2_dyn, u2_dynj, Nat.reduceAdd, mX_r, mX_rD, mX_rDj, mM_r, mX_u, mX_uM, mX_uD, mX_uDj, mM_u, mM_uX, mM_uD, mM_uDj, u2_dd, u2_d0, u2_0d]
        exact z1
      · have hf' : ¬ Int32.ofNat (lbW ng (I 139) (I 140) (I 141) w) = 1000000 := fun q => hf ((oN_eq (by have := lb6 w; omega) (by decide : 1000000 < 2147483648)).mp q)
        have take : (∀ v, v < w → lbW ng (I 139) (I 140) (I 141) v ≠ 1000000 → lbW ng (I 139) (I 140) (I 141) w * 100000 + dN (I 89) s w * 100 + w ≤ lbW ng (I 139) (I 140) (I 141) v * 100000 + dN (I 89) s v * 100 + v) → ∃ f, f_X15_nextWall_4 fu (ad b 72) (Int32.ofNat s) (Int32.ofNat w) (Int32.ofNat (w + 1)) (lay b F E I L P nx us) = some (f, (lay b F E I L P nx us)) ∧ UrgW ng nw s (I 139) (I 140) (I 141) (I 89) f := by
          intro hall
          refine ih (w + 1) (by omega) _ fu (by omega) (Or.inr ⟨w, by omega, hf, rfl, fun v hv hvf => ?_⟩)
          by_cases hz : v = w
          · subst hz; exact Nat.le_refl _
          · exact hall v (by omega) hvf
        rcases hinv with ⟨rfl, hno⟩ | ⟨w0, c1, c2, c3, c4⟩
        · obtain ⟨f, z1, z2⟩ := take (fun v hv hvf => absurd (hno v hv) hvf)
          refine ⟨f, ?_, z2⟩
          simp (decide := true) only [f_X15_nextWall_4, f_X15_nextWall_71, f_X15_nextWall_76, f_X15_nextWall_85, hnw, e2, hlb w, hf', oN_succ, isO_s, gI_s, gA_s, gL_s, pI_s, pZ_s, pL_s, aI_s, aL_s, aN_s, aQ_s, sI_s, sL_s, cr, LNs, Option.map_some, Option.map_none, Option.bind_some, b2, tr, lt, if_true, if_false, ckZ, X_within, M_in, inR_z, X_refuse, X_tell, X_deny, X_grant, M_refused, M_denied, M_done, M_granted, u2_same, u2_ne, u2_u2, upd_same, upd_ne, aW0, ixR_z, ixR_1, M_isWall, M_isPainter, M_isWork, X_has4, X_has10, X_at, or_false, false_or, or_true, true_or, not_true, not_false_iff, Option.isSome_some, isO_d, gI_d, gA_d, pI_d, ne_eq, not_false_eq_true, u2_hi, u2_hj, u2_dyn, u2_dynj, Nat.reduceAdd, mX_r, mX_rD, mX_rDj, mM_r, mX_u, mX_uM, mX_uD, mX_uDj, mM_u, mM_uX, mM_uD, mM_uDj, u2_dd, u2_d0, u2_0d]
          exact z1
        · subst c3
          have hm1 : ¬ Int32.ofNat w0 = -1 := oN_m1 (by omega)
          have q1 := lb6 w
          have q2 := lb6 w0
          have d1 := dN_le hG (show s < 16 by omega) (show w < 16 by omega)
          have d2 := dN_le hG (show s < 16 by omega) (show w0 < 16 by omega)
          have keep : lbW ng (I 139) (I 140) (I 141) w0 * 100000 + dN (I 89) s w0 * 100 + w0 ≤ lbW ng (I 139) (I 140) (I 141) w * 100000 + dN (I 89) s w * 100 + w → ∃ f, f_X15_nextWall_4 fu (ad b 72) (Int32.ofNat s) (Int32.ofNat w0) (Int32.ofNat (w + 1)) (lay b F E I L P nx us) = some (f, (lay b F E I L P nx us)) ∧ UrgW ng nw s (I 139) (I 140) (I 141) (I 89) f := by
            intro hle
            refine ih (w + 1) (by omega) _ fu (by omega) (Or.inr ⟨w0, by omega, c2, rfl, fun v hv hvf => ?_⟩)
            by_cases hz : v = w
            · subst hz; exact hle
            · exact c4 v (by omega) hvf
          have ha1 := M_apart (b := b) (F := F) (E := E) (L := L) (P := P) (nx := nx) (us := us) hG (show s < 16 by omega) (show w < 16 by omega)
          have ha2 := M_apart (b := b) (F := F) (E := E) (L := L) (P := P) (nx := nx) (us := us) hG (show s < 16 by omega) (show w0 < 16 by omega)
          by_cases y1 : lbW ng (I 139) (I 140) (I 141) w < lbW ng (I 139) (I 140) (I 141) w0
          · obtain ⟨f, z1, z2⟩ := take (fun v hv hvf => Nat.le_trans (by omega) (c4 v hv hvf))
            have r1 : Int32.ofNat (lbW ng (I 139) (I 140) (I 141) w) < Int32.ofNat (lbW ng (I 139) (I 140) (I 141) w0) := (oN_lt (by omega) (by omega)).mpr y1
            refine ⟨f, ?_, z2⟩
            simp (decide := true) only [f_X15_nextWall_4, f_X15_nextWall_71, f_X15_nextWall_76, f_X15_nextWall_85, hnw, e2, hlb w, hlb w0, hf', hm1, r1, oN_succ, isO_s, gI_s, gA_s, gL_s, pI_s, pZ_s, pL_s, aI_s, aL_s, aN_s, aQ_s, sI_s, sL_s, cr, LNs, Option.map_some, Option.map_none, Option.bind_some, b2, tr, lt, if_true, if_false, ckZ, X_within, M_in, inR_z, X_refuse, X_tell, X_deny, X_grant, M_refused, M_denied, M_done, M_granted, u2_same, u2_ne, u2_u2, upd_same, upd_ne, aW0, ixR_z, ixR_1, M_isWall, M_isPainter, M_isWork, X_has4, X_has10, X_at, or_false, false_or, or_true, true_or, not_true, not_false_iff, Option.isSome_some, isO_d, gI_d, gA_d, pI_d, ne_eq, not_false_eq_true, u2_hi, u2_hj, u2_dyn, u2_dynj, Nat.reduceAdd, mX_r, mX_rD, mX_rDj, mM_r, mX_u, mX_uM, mX_uD, mX_uDj, mM_u, mM_uX, mM_uD, mM_uDj, u2_dd, u2_d0, u2_0d]
            exact z1
          · have r1 : ¬ Int32.ofNat (lbW ng (I 139) (I 140) (I 141) w) < Int32.ofNat (lbW ng (I 139) (I 140) (I 141) w0) := by rw [oN_lt (by omega) (by omega)]; exact y1
            by_cases y2 : lbW ng (I 139) (I 140) (I 141) w = lbW ng (I 139) (I 140) (I 141) w0
            · by_cases y3 : dN (I 89) s w0 ≤ dN (I 89) s w
              · obtain ⟨f, z1, z2⟩ := keep (by omega)
                have r3 : Int32.ofNat (dN (I 89) s w0) ≤ Int32.ofNat (dN (I 89) s w) := oN_leL y3 (by omega)
                refine ⟨f, ?_, z2⟩
                rw [y2] at hf' r1
                simp (decide := true) only [f_X15_nextWall_4, f_X15_nextWall_75, f_X15_nextWall_76, f_X15_nextWall_85, hnw, e2, hlb w, hlb w0, y2, hf', hm1, r1, ha1, ha2, r3, oN_succ, isO_s, gI_s, gA_s, gL_s, pI_s, pZ_s, pL_s, aI_s, aL_s, aN_s, aQ_s, sI_s, sL_s, cr, LNs, Option.map_some, Option.map_none, Option.bind_some, b2, tr, lt, if_true, if_false, ckZ, X_within, M_in, inR_z, X_refuse, X_tell, X_deny, X_grant, M_refused, M_denied, M_done, M_granted, u2_same, u2_ne, u2_u2, upd_same, upd_ne, aW0, ixR_z, ixR_1, M_isWall, M_isPainter, M_isWork, X_has4, X_has10, X_at, or_false, false_or, or_true, true_or, not_true, not_false_iff, Option.isSome_some, isO_d, gI_d, gA_d, pI_d, ne_eq, not_false_eq_true, u2_hi, u2_hj, u2_dyn, u2_dynj, Nat.reduceAdd, mX_r, mX_rD, mX_rDj, mM_r, mX_u, mX_uM, mX_uD, mX_uDj, mM_u, mM_uX, mM_uD, mM_uDj, u2_dd, u2_d0, u2_0d]
                exact z1
              · obtain ⟨f, z1, z2⟩ := take (fun v hv hvf => Nat.le_trans (by omega) (c4 v hv hvf))
                have r3 : ¬ Int32.ofNat (dN (I 89) s w0) ≤ Int32.ofNat (dN (I 89) s w) := by rw [oN_le (by omega) (by omega)]; exact y3
                refine ⟨f, ?_, z2⟩
                rw [y2] at hf' r1
                simp (decide := true) only [f_X15_nextWall_4, f_X15_nextWall_71, f_X15_nextWall_76, f_X15_nextWall_85, hnw, e2, hlb w, hlb w0, y2, hf', hm1, r1, ha1, ha2, r3, oN_succ, isO_s, gI_s, gA_s, gL_s, pI_s, pZ_s, pL_s, aI_s, aL_s, aN_s, aQ_s, sI_s, sL_s, cr, LNs, Option.map_some, Option.map_none, Option.bind_some, b2, tr, lt, if_true, if_false, ckZ, X_within, M_in, inR_z, X_refuse, X_tell, X_deny, X_grant, M_refused, M_denied, M_done, M_granted, u2_same, u2_ne, u2_u2, upd_same, upd_ne, aW0, ixR_z, ixR_1, M_isWall, M_isPainter, M_isWork, X_has4, X_has10, X_at, or_false, false_or, or_true, true_or, not_true, not_false_iff, Option.isSome_some, isO_d, gI_d, gA_d, pI_d, ne_eq, not_false_eq_true, u2_hi, u2_hj, u2_dyn, u2_dynj, Nat.reduceAdd, mX_r, mX_rD, mX_rDj, mM_r, mX_u, mX_uM, mX_uD, mX_uDj, mM_u, mM_uX, mM_uD, mM_uDj, u2_dd, u2_d0, u2_0d]
                exact z1
            · obtain ⟨f, z1, z2⟩ := keep (by omega)
              have r2 : ¬ Int32.ofNat (lbW ng (I 139) (I 140) (I 141) w) = Int32.ofNat (lbW ng (I 139) (I 140) (I 141) w0) := by rw [oN_eq (by omega) (by omega)]; exact y2
              refine ⟨f, ?_, z2⟩
              simp (decide := true) only [f_X15_nextWall_4, f_X15_nextWall_75, f_X15_nextWall_76, f_X15_nextWall_85, hnw, e2, hlb w, hlb w0, hf', hm1, r1, r2, oN_succ, isO_s, gI_s, gA_s, gL_s, pI_s, pZ_s, pL_s, aI_s, aL_s, aN_s, aQ_s, sI_s, sL_s, cr, LNs, Option.map_some, Option.map_none, Option.bind_some, b2, tr, lt, if_true, if_false, ckZ, X_within, M_in, inR_z, X_refuse, X_tell, X_deny, X_grant, M_refused, M_denied, M_done, M_granted, u2_same, u2_ne, u2_u2, upd_same, upd_ne, aW0, ixR_z, ixR_1, M_isWall, M_isPainter, M_isWork, X_has4, X_has10, X_at, or_false, false_or, or_true, true_or, not_true, not_false_iff, Option.isSome_some, isO_d, gI_d, gA_d, pI_d, ne_eq, not_false_eq_true, u2_hi, u2_hj, u2_dyn, u2_dynj, Nat.reduceAdd, mX_r, mX_rD, mX_rDj, mM_r, mX_u, mX_uM, mX_uD, mX_uDj, mM_u, mM_uX, mM_uD, mM_uDj, u2_dd, u2_d0, u2_0d]
              exact z1
  obtain ⟨f, z1, z2⟩ := lp nw 0 (by omega) (-1) FU (by unfold FU; omega) (Or.inl ⟨rfl, fun v hv => by omega⟩)
  refine ⟨f, ?_, z2⟩
  simp (decide := true) only [f_X15_nextWall_85, f_X15_nextWall_76, f_X15_nextWall_75, f_X15_nextWall_71, f_X15_nextWall, isO_s, gI_s, gA_s, gL_s, pI_s, pZ_s, pL_s, aI_s, aL_s, aN_s, aQ_s, sI_s, sL_s, cr, LNs, Option.map_some, Option.map_none, Option.bind_some, b2, tr, lt, if_true, if_false, ckZ, X_within, M_in, inR_z, X_refuse, X_tell, X_deny, X_grant, M_refused, M_denied, M_done, M_granted, u2_same, u2_ne, u2_u2, upd_same, upd_ne, aW0, ixR_z, ixR_1, M_isWall, M_isPainter, M_isWork, X_has4, X_has10, X_at, or_false, false_or, or_true, true_or, not_true, not_false_iff, Option.isSome_some, isO_d, gI_d, gA_d, pI_d, ne_eq, not_false_eq_true, u2_hi, u2_hj, u2_dyn, u2_dynj, Nat.reduceAdd, mX_r, mX_rD, mX_rDj, mM_r, mX_u, mX_uM, mX_uD, mX_uDj, mM_u, mM_uX, mM_uD, mM_uDj, u2_dd, u2_d0, u2_0d]
  exact z1
end RND2
