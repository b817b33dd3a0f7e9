/-! ===== gets ===== -/
/-- the first walk over a right's lines: what is over, how many take the rest, what is the asker's -/
def gt1 (W S : RW) (fee who : Int32) : Nat → Nat → Int32 → Int32 → Int32 → Int32 × Int32 × Int32
  | 0, _, o, re, mi => (o, re, mi)
  | m + 1, l, o, re, mi => gt1 W S fee who m (l + 1) (o - (if S l = -1 then 0 else fee * S l / 100)) (re + (if S l = -1 then 1 else 0)) (mi + (if W l = who then (if S l = -1 then 0 else fee * S l / 100) else 0))
/-- the second walk -/
def gt2 (W S : RW) (who v : Int32) : Nat → Nat → Int32 → Int32 → Int32
  | 0, _, mi, _ => mi
  | m + 1, l, mi, x => if S l = -1 then gt2 W S who v m (l + 1) (mi + (if W l = who then v + x else 0)) 0 else gt2 W S who v m (l + 1) mi x
def gtE (W S : RW) (who : Int32) (nl : Nat) (t : Int32 × Int32 × Int32) : Int32 := if t.2.1 = 0 then (if who = 2 then t.2.2 + t.1 else t.2.2) else gt2 W S who (t.1 / t.2.1) nl 0 t.2.2 (t.1 - t.1 / t.2.1 * t.2.1)
/-- the rights -/
def GRt (nr : Nat) (rc : Nat → Nat) (E : Nat → Option KD) (P144 : Nat → Option Nat) (I : Nat → Nat → Int32) : Prop := ∀ r, r < nr → P144 r = some (rc r) ∧ 145 ≤ rc r ∧ kdf E (rc r) = some (.inr (13, true)) ∧ kdf E (rc r + 1) = some (.inl (0, 8)) ∧ kdf E (rc r + 2) = some (.inl (0, 8)) ∧ ∃ nl, nl ≤ 8 ∧ I 55 r = Int32.ofNat nl ∧ I (rc r) 0 = Int32.ofNat nl ∧ ∀ l, l < nl → I 56 (8 * r + l) = I (rc r + 1) l ∧ I 57 (8 * r + l) = I (rc r + 2) l
section GETS
variable {b : Nat} {F : Nat → Option AE} {D E : Nat → Option KD} {I : Nat → Nat → Int32} {L : Nat → Nat → Int64} {P : Nat → Nat → Option Nat} {nx us : Nat}
theorem ckD_ne {x : Int32} (h : x ≠ 0) : ckD x = some x := by
  unfold ckD
  rw [if_neg h]
theorem X_g2 {W S : RW} {who o re : Int32} {r nl : Nat} (hr : r < 9) (hnl : nl ≤ 8) (h0 : re ≠ 0) (hW : ∀ l, l < nl → I 56 (8 * r + l) = W l) (hS : ∀ l, l < nl → I 57 (8 * r + l) = S l) : ∀ (m l : Nat), l + m = nl → ∀ fu, m < fu → ∀ mi x, f_X5_shareOf_182 fu (ad b 54) who (Int32.ofNat (8 * r + nl)) o re mi x (Int32.ofNat (8 * r + l)) (lay b F E I L P nx us) = some (gt2 W S who (o / re) m l mi x, (lay b F E I L P nx us)) := by
  intro m
  induction m with
  | zero =>
    intro l hl fu hf mi x
    obtain ⟨fu, rfl⟩ : ∃ f, fu = f + 1 := ⟨fu - 1, by omega⟩
    have : l = nl := by omega
    subst this
    simp (decide := true) only [f_X5_shareOf_182, Int32.le_refl, isO_s, gI_s, gA_s, gL_s, pI_s, pZ_s, pL_s, aI_s, aL_s, aN_s, aQ_s, sI_s, sL_s, cr, LNs, Option.map_some, Option.map_none, Option.bind_some, b2, tr, lt, if_true, if_false, ckZ, X_within, M_in, inR_z, X_refuse, X_tell, X_deny, X_grant, M_refused, M_denied, M_done, M_granted, u2_same, u2_ne, u2_u2, upd_same, upd_ne, aW0, ixR_z, ixR_1, M_isWall, M_isPainter, M_isWork, X_has4, X_has10, X_at, or_false, false_or, or_true, true_or, not_true, not_false_iff, Option.isSome_some, isO_d, gI_d, gA_d, pI_d, ne_eq, not_false_eq_true, u2_hi, u2_hj, u2_dyn, u2_dynj, Nat.reduceAdd, mX_r, mX_rD, mX_rDj, mM_r, mX_u, mX_uM, mX_uD, mX_uDj, mM_u, mM_uX, mM_uD, mM_uDj, u2_dd, u2_d0, u2_0d]
    rfl
  | succ m ih =>
    intro l hl fu hf mi x
    obtain ⟨fu, rfl⟩ : ∃ f, fu = f + 1 := ⟨fu - 1, by omega⟩
    have hln : l < nl := by omega
    have e2 := oN_leF (show 8 * r + l < 8 * r + nl by omega) (by omega)
    have e3 : iN (Int32.ofNat (8 * r + l)) 72 = some (8 * r + l) := iN_oN (by omega) (by omega)
    have ih' := ih (l + 1) (by omega) fu (by omega)
    have e4 : 8 * r + (l + 1) = 8 * r + l + 1 := by omega
    rw [e4] at ih'
    unfold gt2
    by_cases h1 : S l = -1
    · by_cases h2 : W l = who
      · simp (decide := true) only [f_X5_shareOf_182, f_X5_shareOf_225, f_X5_shareOf_231, e2, e3, hW l hln, hS l hln, h1, h2, ckD_ne h0, oN_succ, ih', isO_s, gI_s, gA_s, gL_s, pI_s, pZ_s, pL_s, aI_s, aL_s, aN_s, aQ_s, sI_s, sL_s, cr, LNs, Option.map_some, Option.map_none, Option.bind_some, b2, tr, lt, if_true, if_false, ckZ, X_within, M_in, inR_z, X_refuse, X_tell, X_deny, X_grant, M_refused, M_denied, M_done, M_granted, u2_same, u2_ne, u2_u2, upd_same, upd_ne, aW0, ixR_z, ixR_1, M_isWall, M_isPainter, M_isWork, X_has4, X_has10, X_at, or_false, false_or, or_true, true_or, not_true, not_false_iff, Option.isSome_some, isO_d, gI_d, gA_d, pI_d, ne_eq, not_false_eq_true, u2_hi, u2_hj, u2_dyn, u2_dynj, Nat.reduceAdd, mX_r, mX_rD, mX_rDj, mM_r, mX_u, mX_uM, mX_uD, mX_uDj, mM_u, mM_uX, mM_uD, mM_uDj, u2_dd, u2_d0, u2_0d]
      · simp (decide := true) only [f_X5_shareOf_182, f_X5_shareOf_225, f_X5_shareOf_231, e2, e3, hW l hln, hS l hln, h1, h2, ckD_ne h0, oN_succ, ih', isO_s, gI_s, gA_s, gL_s, pI_s, pZ_s, pL_s, aI_s, aL_s, aN_s, aQ_s, sI_s, sL_s, cr, LNs, Option.map_some, Option.map_none, Option.bind_some, b2, tr, lt, if_true, if_false, ckZ, X_within, M_in, inR_z, X_refuse, X_tell, X_deny, X_grant, M_refused, M_denied, M_done, M_granted, u2_same, u2_ne, u2_u2, upd_same, upd_ne, aW0, ixR_z, ixR_1, M_isWall, M_isPainter, M_isWork, X_has4, X_has10, X_at, or_false, false_or, or_true, true_or, not_true, not_false_iff, Option.isSome_some, isO_d, gI_d, gA_d, pI_d, ne_eq, not_false_eq_true, u2_hi, u2_hj, u2_dyn, u2_dynj, Nat.reduceAdd, mX_r, mX_rD, mX_rDj, mM_r, mX_u, mX_uM, mX_uD, mX_uDj, mM_u, mM_uX, mM_uD, mM_uDj, u2_dd, u2_d0, u2_0d]
    · simp (decide := true) only [f_X5_shareOf_182, f_X5_shareOf_225, f_X5_shareOf_231, e2, e3, hW l hln, hS l hln, h1, oN_succ, ih', isO_s, gI_s, gA_s, gL_s, pI_s, pZ_s, pL_s, aI_s, aL_s, aN_s, aQ_s, sI_s, sL_s, cr, LNs, Option.map_some, Option.map_none, Option.bind_some, b2, tr, lt, if_true, if_false, ckZ, X_within, M_in, inR_z, X_refuse, X_tell, X_deny, X_grant, M_refused, M_denied, M_done, M_granted, u2_same, u2_ne, u2_u2, upd_same, upd_ne, aW0, ixR_z, ixR_1, M_isWall, M_isPainter, M_isWork, X_has4, X_has10, X_at, or_false, false_or, or_true, true_or, not_true, not_false_iff, Option.isSome_some, isO_d, gI_d, gA_d, pI_d, ne_eq, not_false_eq_true, u2_hi, u2_hj, u2_dyn, u2_dynj, Nat.reduceAdd, mX_r, mX_rD, mX_rDj, mM_r, mX_u, mX_uM, mX_uD, mX_uDj, mM_u, mM_uX, mM_uD, mM_uDj, u2_dd, u2_d0, u2_0d]
theorem X_g1 {W S : RW} {fee who : Int32} {r nl : Nat} (hr : r < 9) (hnl : nl ≤ 8) (hW : ∀ l, l < nl → I 56 (8 * r + l) = W l) (hS : ∀ l, l < nl → I 57 (8 * r + l) = S l) : ∀ (m l : Nat), l + m = nl → ∀ fu, m < fu → ∀ o re mi, f_X5_shareOf_58 fu (ad b 54) fee who (Int32.ofNat (8 * r)) (Int32.ofNat (8 * r + nl)) o re mi (Int32.ofNat (8 * r + l)) (lay b F E I L P nx us) = some (gtE W S who nl (gt1 W S fee who m l o re mi), (lay b F E I L P nx us)) := by
  intro m
  induction m with
  | zero =>
    intro l hl fu hf o re mi
    obtain ⟨fu, rfl⟩ : ∃ f, fu = f + 1 := ⟨fu - 1, by omega⟩
    have : l = nl := by omega
    subst this
    unfold gt1 gtE
    by_cases h1 : re = 0
    · by_cases h2 : who = 2
      · simp (decide := true) only [f_X5_shareOf_58, f_X5_shareOf_170, Int32.le_refl, h1, h2, isO_s, gI_s, gA_s, gL_s, pI_s, pZ_s, pL_s, aI_s, aL_s, aN_s, aQ_s, sI_s, sL_s, cr, LNs, Option.map_some, Option.map_none, Option.bind_some, b2, tr, lt, if_true, if_false, ckZ, X_within, M_in, inR_z, X_refuse, X_tell, X_deny, X_grant, M_refused, M_denied, M_done, M_granted, u2_same, u2_ne, u2_u2, upd_same, upd_ne, aW0, ixR_z, ixR_1, M_isWall, M_isPainter, M_isWork, X_has4, X_has10, X_at, or_false, false_or, or_true, true_or, not_true, not_false_iff, Option.isSome_some, isO_d, gI_d, gA_d, pI_d, ne_eq, not_false_eq_true, u2_hi, u2_hj, u2_dyn, u2_dynj, Nat.reduceAdd, mX_r, mX_rD, mX_rDj, mM_r, mX_u, mX_uM, mX_uD, mX_uDj, mM_u, mM_uX, mM_uD, mM_uDj, u2_dd, u2_d0, u2_0d]
      · simp (decide := true) only [f_X5_shareOf_58, f_X5_shareOf_170, Int32.le_refl, h1, h2, isO_s, gI_s, gA_s, gL_s, pI_s, pZ_s, pL_s, aI_s, aL_s, aN_s, aQ_s, sI_s, sL_s, cr, LNs, Option.map_some, Option.map_none, Option.bind_some, b2, tr, lt, if_true, if_false, ckZ, X_within, M_in, inR_z, X_refuse, X_tell, X_deny, X_grant, M_refused, M_denied, M_done, M_granted, u2_same, u2_ne, u2_u2, upd_same, upd_ne, aW0, ixR_z, ixR_1, M_isWall, M_isPainter, M_isWork, X_has4, X_has10, X_at, or_false, false_or, or_true, true_or, not_true, not_false_iff, Option.isSome_some, isO_d, gI_d, gA_d, pI_d, ne_eq, not_false_eq_true, u2_hi, u2_hj, u2_dyn, u2_dynj, Nat.reduceAdd, mX_r, mX_rD, mX_rDj, mM_r, mX_u, mX_uM, mX_uD, mX_uDj, mM_u, mM_uX, mM_uD, mM_uDj, u2_dd, u2_d0, u2_0d]
    · have h3 := X_g2 (b := b) (F := F) (E := E) (L := L) (P := P) (nx := nx) (us := us) (I := I) (who := who) (o := o) (re := re) hr hnl h1 hW hS l 0 (by omega) FU (by unfold FU; omega) mi (o - o / re * re)
      rw [Nat.add_zero] at h3
      simp (decide := true) only [f_X5_shareOf_58, f_X5_shareOf_170, Int32.le_refl, h1, ckD_ne h1, h3, isO_s, gI_s, gA_s, gL_s, pI_s, pZ_s, pL_s, aI_s, aL_s, aN_s, aQ_s, sI_s, sL_s, cr, LNs, Option.map_some, Option.map_none, Option.bind_some, b2, tr, lt, if_true, if_false, ckZ, X_within, M_in, inR_z, X_refuse, X_tell, X_deny, X_grant, M_refused, M_denied, M_done, M_granted, u2_same, u2_ne, u2_u2, upd_same, upd_ne, aW0, ixR_z, ixR_1, M_isWall, M_isPainter, M_isWork, X_has4, X_has10, X_at, or_false, false_or, or_true, true_or, not_true, not_false_iff, Option.isSome_some, isO_d, gI_d, gA_d, pI_d, ne_eq, not_false_eq_true, u2_hi, u2_hj, u2_dyn, u2_dynj, Nat.reduceAdd, mX_r, mX_rD, mX_rDj, mM_r, mX_u, mX_uM, mX_uD, mX_uDj, mM_u, mM_uX, mM_uD, mM_uDj, u2_dd, u2_d0, u2_0d]
  | succ m ih =>
    intro l hl fu hf o re mi
    obtain ⟨fu, rfl⟩ : ∃ f, fu = f + 1 := ⟨fu - 1, by omega⟩
    have hln : l < nl := by omega
    have e2 := oN_leF (show 8 * r + l < 8 * r + nl by omega) (by omega)
    have e3 : iN (Int32.ofNat (8 * r + l)) 72 = some (8 * r + l) := iN_oN (by omega) (by omega)
    have ih' := ih (l + 1) (by omega) fu (by omega)
    have e4 : 8 * r + (l + 1) = 8 * r + l + 1 := by omega
    rw [e4] at ih'
    unfold gt1
    by_cases h1 : S l = -1
    · by_cases h2 : W l = who
      · simp (decide := true) only [f_X5_shareOf_58, f_X5_shareOf_92, f_X5_shareOf_120, f_X5_shareOf_141, e2, e3, hW l hln, hS l hln, h1, h2, oN_succ, ih', isO_s, gI_s, gA_s, gL_s, pI_s, pZ_s, pL_s, aI_s, aL_s, aN_s, aQ_s, sI_s, sL_s, cr, LNs, Option.map_some, Option.map_none, Option.bind_some, b2, tr, lt, if_true, if_false, ckZ, X_within, M_in, inR_z, X_refuse, X_tell, X_deny, X_grant, M_refused, M_denied, M_done, M_granted, u2_same, u2_ne, u2_u2, upd_same, upd_ne, aW0, ixR_z, ixR_1, M_isWall, M_isPainter, M_isWork, X_has4, X_has10, X_at, or_false, false_or, or_true, true_or, not_true, not_false_iff, Option.isSome_some, isO_d, gI_d, gA_d, pI_d, ne_eq, not_false_eq_true, u2_hi, u2_hj, u2_dyn, u2_dynj, Nat.reduceAdd, mX_r, mX_rD, mX_rDj, mM_r, mX_u, mX_uM, mX_uD, mX_uDj, mM_u, mM_uX, mM_uD, mM_uDj, u2_dd, u2_d0, u2_0d]
      · simp (decide := true) only [f_X5_shareOf_58, f_X5_shareOf_92, f_X5_shareOf_120, f_X5_shareOf_141, e2, e3, hW l hln, hS l hln, h1, h2, oN_succ, ih', isO_s, gI_s, gA_s, gL_s, pI_s, pZ_s, pL_s, aI_s, aL_s, aN_s, aQ_s, sI_s, sL_s, cr, LNs, Option.map_some, Option.map_none, Option.bind_some, b2, tr, lt, if_true, if_false, ckZ, X_within, M_in, inR_z, X_refuse, X_tell, X_deny, X_grant, M_refused, M_denied, M_done, M_granted, u2_same, u2_ne, u2_u2, upd_same, upd_ne, aW0, ixR_z, ixR_1, M_isWall, M_isPainter, M_isWork, X_has4, X_has10, X_at, or_false, false_or, or_true, true_or, not_true, not_false_iff, Option.isSome_some, isO_d, gI_d, gA_d, pI_d, ne_eq, not_false_eq_true, u2_hi, u2_hj, u2_dyn, u2_dynj, Nat.reduceAdd, mX_r, mX_rD, mX_rDj, mM_r, mX_u, mX_uM, mX_uD, mX_uDj, mM_u, mM_uX, mM_uD, mM_uDj, u2_dd, u2_d0, u2_0d]
    · by_cases h2 : W l = who
      · simp (decide := true) only [f_X5_shareOf_58, f_X5_shareOf_92, f_X5_shareOf_120, f_X5_shareOf_141, e2, e3, hW l hln, hS l hln, h1, h2, oN_succ, ih', isO_s, gI_s, gA_s, gL_s, pI_s, pZ_s, pL_s, aI_s, aL_s, aN_s, aQ_s, sI_s, sL_s, cr, LNs, Option.map_some, Option.map_none, Option.bind_some, b2, tr, lt, if_true, if_false, ckZ, X_within, M_in, inR_z, X_refuse, X_tell, X_deny, X_grant, M_refused, M_denied, M_done, M_granted, u2_same, u2_ne, u2_u2, upd_same, upd_ne, aW0, ixR_z, ixR_1, M_isWall, M_isPainter, M_isWork, X_has4, X_has10, X_at, or_false, false_or, or_true, true_or, not_true, not_false_iff, Option.isSome_some, isO_d, gI_d, gA_d, pI_d, ne_eq, not_false_eq_true, u2_hi, u2_hj, u2_dyn, u2_dynj, Nat.reduceAdd, mX_r, mX_rD, mX_rDj, mM_r, mX_u, mX_uM, mX_uD, mX_uDj, mM_u, mM_uX, mM_uD, mM_uDj, u2_dd, u2_d0, u2_0d]
      · simp (decide := true) only [f_X5_shareOf_58, f_X5_shareOf_92, f_X5_shareOf_120, f_X5_shareOf_141, e2, e3, hW l hln, hS l hln, h1, h2, oN_succ, ih', isO_s, gI_s, gA_s, gL_s, pI_s, pZ_s, pL_s, aI_s, aL_s, aN_s, aQ_s, sI_s, sL_s, cr, LNs, Option.map_some, Option.map_none, Option.bind_some, b2, tr, lt, if_true, if_false, ckZ, X_within, M_in, inR_z, X_refuse, X_tell, X_deny, X_grant, M_refused, M_denied, M_done, M_granted, u2_same, u2_ne, u2_u2, upd_same, upd_ne, aW0, ixR_z, ixR_1, M_isWall, M_isPainter, M_isWork, X_has4, X_has10, X_at, or_false, false_or, or_true, true_or, not_true, not_false_iff, Option.isSome_some, isO_d, gI_d, gA_d, pI_d, ne_eq, not_false_eq_true, u2_hi, u2_hj, u2_dyn, u2_dynj, Nat.reduceAdd, mX_r, mX_rD, mX_rDj, mM_r, mX_u, mX_uM, mX_uD, mX_uDj, mM_u, mM_uX, mM_uD, mM_uDj, u2_dd, u2_d0, u2_0d]
theorem M_g2 {who o re : Int32} {c nl : Nat} (k0 : kdf E c = some (.inr (13, true))) (k1 : kdf E (c + 1) = some (.inl (0, 8))) (k2 : kdf E (c + 2) = some (.inl (0, 8))) (hc : I c 0 = Int32.ofNat nl) (hnl : nl ≤ 8) (h0 : re ≠ 0) : ∀ (m l : Nat), l + m = nl → ∀ fu, m < fu → ∀ mi y x, (y = 0 → x = 0) → (y ≠ 0 → x = o - o / re * re) → f_X15_gets_197 fu (ad b 72) who (ad b c) mi o re y (Int32.ofNat l) (lay b F E I L P nx us) = some (gt2 (I (c + 1)) (I (c + 2)) who (o / re) m l mi x, lay b F E (u2 I 72 (mE (I 72) 0)) L P nx us) := by
  intro m
  induction m with
  | zero =>
    intro l hl fu hf mi y x hx1 hx2
    obtain ⟨fu, rfl⟩ : ∃ f, fu = f + 1 := ⟨fu - 1, by omega⟩
    have : l = nl := by omega
    subst this
    simp (decide := true) only [f_X15_gets_197, k0, hc, Int32.le_refl, isO_s, gI_s, gA_s, gL_s, pI_s, pZ_s, pL_s, aI_s, aL_s, aN_s, aQ_s, sI_s, sL_s, cr, LNs, Option.map_some, Option.map_none, Option.bind_some, b2, tr, lt, if_true, if_false, ckZ, X_within, M_in, inR_z, X_refuse, X_tell, X_deny, X_grant, M_refused, M_denied, M_done, M_granted, u2_same, u2_ne, u2_u2, upd_same, upd_ne, aW0, ixR_z, ixR_1, M_isWall, M_isPainter, M_isWork, X_has4, X_has10, X_at, or_false, false_or, or_true, true_or, not_true, not_false_iff, Option.isSome_some, isO_d, gI_d, gA_d, pI_d, ne_eq, not_false_eq_true, u2_hi, u2_hj, u2_dyn, u2_dynj, Nat.reduceAdd, mX_r, mX_rD, mX_rDj, mM_r, mX_u, mX_uM, mX_uD, mX_uDj, mM_u, mM_uX, mM_uD, mM_uDj, u2_dd, u2_d0, u2_0d]
    rfl
  | succ m ih =>
    intro l hl fu hf mi y x hx1 hx2
    obtain ⟨fu, rfl⟩ : ∃ f, fu = f + 1 := ⟨fu - 1, by omega⟩
    have hln : l < nl := by omega
    have e2 := oN_leF hln (by omega)
    have e3 : iN (Int32.ofNat l) 8 = some l := iN_oN (by omega) (by omega)
    have ih1 := fun mi => ih (l + 1) (by omega) fu (by omega) mi y x hx1 hx2
    have ih0 := fun mi => ih (l + 1) (by omega) fu (by omega) mi 0 0 (fun _ => rfl) (fun h => absurd rfl h)
    unfold gt2
    by_cases h1 : I (c + 2) l = -1
    · by_cases hy : y = 0
      · have hx := hx1 hy
        subst hx
        by_cases h2 : I (c + 1) l = who
        · simp (decide := true) only [f_X15_gets_197, f_X15_gets_241, f_X15_gets_264, f_X15_gets_270, k0, hc, aI_d k1 (by decide), aI_d k2 (by decide), e2, e3, h1, h2, hy, ckD_ne h0, oN_succ, ih0, isO_s, gI_s, gA_s, gL_s, pI_s, pZ_s, pL_s, aI_s, aL_s, aN_s, aQ_s, sI_s, sL_s, cr, LNs, Option.map_some, Option.map_none, Option.bind_some, b2, tr, lt, if_true, if_false, ckZ, X_within, M_in, inR_z, X_refuse, X_tell, X_deny, X_grant, M_refused, M_denied, M_done, M_granted, u2_same, u2_ne, u2_u2, upd_same, upd_ne, aW0, ixR_z, ixR_1, M_isWall, M_isPainter, M_isWork, X_has4, X_has10, X_at, or_false, false_or, or_true, true_or, not_true, not_false_iff, Option.isSome_some, isO_d, gI_d, gA_d, pI_d, ne_eq, not_false_eq_true, u2_hi, u2_hj, u2_dyn, u2_dynj, Nat.reduceAdd, mX_r, mX_rD, mX_rDj, mM_r, mX_u, mX_uM, mX_uD, mX_uDj, mM_u, mM_uX, mM_uD, mM_uDj, u2_dd, u2_d0, u2_0d]
        · simp (decide := true) only [f_X15_gets_197, f_X15_gets_241, f_X15_gets_264, f_X15_gets_270, k0, hc, aI_d k1 (by decide), aI_d k2 (by decide), e2, e3, h1, h2, hy, ckD_ne h0, oN_succ, ih0, isO_s, gI_s, gA_s, gL_s, pI_s, pZ_s, pL_s, aI_s, aL_s, aN_s, aQ_s, sI_s, sL_s, cr, LNs, Option.map_some, Option.map_none, Option.bind_some, b2, tr, lt, if_true, if_false, ckZ, X_within, M_in, inR_z, X_refuse, X_tell, X_deny, X_grant, M_refused, M_denied, M_done, M_granted, u2_same, u2_ne, u2_u2, upd_same, upd_ne, aW0, ixR_z, ixR_1, M_isWall, M_isPainter, M_isWork, X_has4, X_has10, X_at, or_false, false_or, or_true, true_or, not_true, not_false_iff, Option.isSome_some, isO_d, gI_d, gA_d, pI_d, ne_eq, not_false_eq_true, u2_hi, u2_hj, u2_dyn, u2_dynj, Nat.reduceAdd, mX_r, mX_rD, mX_rDj, mM_r, mX_u, mX_uM, mX_uD, mX_uDj, mM_u, mM_uX, mM_uD, mM_uDj, u2_dd, u2_d0, u2_0d]
      · have hx := hx2 hy
        subst hx
        by_cases h2 : I (c + 1) l = who
        · simp (decide := true) only [f_X15_gets_197, f_X15_gets_241, f_X15_gets_264, f_X15_gets_270, k0, hc, aI_d k1 (by decide), aI_d k2 (by decide), e2, e3, h1, h2, hy, ckD_ne h0, oN_succ, ih0, isO_s, gI_s, gA_s, gL_s, pI_s, pZ_s, pL_s, aI_s, aL_s, aN_s, aQ_s, sI_s, sL_s, cr, LNs, Option.map_some, Option.map_none, Option.bind_some, b2, tr, lt, if_true, if_false, ckZ, X_within, M_in, inR_z, X_refuse, X_tell, X_deny, X_grant, M_refused, M_denied, M_done, M_granted, u2_same, u2_ne, u2_u2, upd_same, upd_ne, aW0, ixR_z, ixR_1, M_isWall, M_isPainter, M_isWork, X_has4, X_has10, X_at, or_false, false_or, or_true, true_or, not_true, not_false_iff, Option.isSome_some, isO_d, gI_d, gA_d, pI_d, ne_eq, not_false_eq_true, u2_hi, u2_hj, u2_dyn, u2_dynj, Nat.reduceAdd, mX_r, mX_rD, mX_rDj, mM_r, mX_u, mX_uM, mX_uD, mX_uDj, mM_u, mM_uX, mM_uD, mM_uDj, u2_dd, u2_d0, u2_0d]
        · simp (decide := true) only [f_X15_gets_197, f_X15_gets_241, f_X15_gets_264, f_X15_gets_270, k0, hc, aI_d k1 (by decide), aI_d k2 (by decide), e2, e3, h1, h2, hy, ckD_ne h0, oN_succ, ih0, isO_s, gI_s, gA_s, gL_s, pI_s, pZ_s, pL_s, aI_s, aL_s, aN_s, aQ_s, sI_s, sL_s, cr, LNs, Option.map_some, Option.map_none, Option.bind_some, b2, tr, lt, if_true, if_false, ckZ, X_within, M_in, inR_z, X_refuse, X_tell, X_deny, X_grant, M_refused, M_denied, M_done, M_granted, u2_same, u2_ne, u2_u2, upd_same, upd_ne, aW0, ixR_z, ixR_1, M_isWall, M_isPainter, M_isWork, X_has4, X_has10, X_at, or_false, false_or, or_true, true_or, not_true, not_false_iff, Option.isSome_some, isO_d, gI_d, gA_d, pI_d, ne_eq, not_false_eq_true, u2_hi, u2_hj, u2_dyn, u2_dynj, Nat.reduceAdd, mX_r, mX_rD, mX_rDj, mM_r, mX_u, mX_uM, mX_uD, mX_uDj, mM_u, mM_uX, mM_uD, mM_uDj, u2_dd, u2_d0, u2_0d]
    · simp (decide := true) only [f_X15_gets_197, f_X15_gets_270, k0, hc, aI_d k2 (by decide), e2, e3, h1, oN_succ, ih1, isO_s, gI_s, gA_s, gL_s, pI_s, pZ_s, pL_s, aI_s, aL_s, aN_s, aQ_s, sI_s, sL_s, cr, LNs, Option.map_some, Option.map_none, Option.bind_some, b2, tr, lt, if_true, if_false, ckZ, X_within, M_in, inR_z, X_refuse, X_tell, X_deny, X_grant, M_refused, M_denied, M_done, M_granted, u2_same, u2_ne, u2_u2, upd_same, upd_ne, aW0, ixR_z, ixR_1, M_isWall, M_isPainter, M_isWork, X_has4, X_has10, X_at, or_false, false_or, or_true, true_or, not_true, not_false_iff, Option.isSome_some, isO_d, gI_d, gA_d, pI_d, ne_eq, not_false_eq_true, u2_hi, u2_hj, u2_dyn, u2_dynj, Nat.reduceAdd, mX_r, mX_rD, mX_rDj, mM_r, mX_u, mX_uM, mX_uD, mX_uDj, mM_u, mM_uX, mM_uD, mM_uDj, u2_dd, u2_d0, u2_0d]
theorem M_g1 {fee who : Int32} {c nl : Nat} (k0 : kdf E c = some (.inr (13, true))) (k1 : kdf E (c + 1) = some (.inl (0, 8))) (k2 : kdf E (c + 2) = some (.inl (0, 8))) (hc : I c 0 = Int32.ofNat nl) (hnl : nl ≤ 8) : ∀ (m l : Nat), l + m = nl → ∀ fu, m < fu → ∀ o re mi, f_X15_gets_68 fu (ad b 72) fee who (some (ad b c)) mi o re (Int32.ofNat l) (lay b F E I L P nx us) = some (gtE (I (c + 1)) (I (c + 2)) who nl (gt1 (I (c + 1)) (I (c + 2)) fee who m l o re mi), lay b F E (u2 I 72 (mE (I 72) 0)) L P nx us) := by
  intro m
  induction m with
  | zero =>
    intro l hl fu hf o re mi
    obtain ⟨fu, rfl⟩ : ∃ f, fu = f + 1 := ⟨fu - 1, by omega⟩
    have : l = nl := by omega
    subst this
    unfold gt1 gtE
    by_cases h1 : re = 0
    · by_cases h2 : who = 2
      · simp (decide := true) only [f_X15_gets_68, f_X15_gets_186, k0, hc, Int32.le_refl, h1, h2, isO_s, gI_s, gA_s, gL_s, pI_s, pZ_s, pL_s, aI_s, aL_s, aN_s, aQ_s, sI_s, sL_s, cr, LNs, Option.map_some, Option.map_none, Option.bind_some, b2, tr, lt, if_true, if_false, ckZ, X_within, M_in, inR_z, X_refuse, X_tell, X_deny, X_grant, M_refused, M_denied, M_done, M_granted, u2_same, u2_ne, u2_u2, upd_same, upd_ne, aW0, ixR_z, ixR_1, M_isWall, M_isPainter, M_isWork, X_has4, X_has10, X_at, or_false, false_or, or_true, true_or, not_true, not_false_iff, Option.isSome_some, isO_d, gI_d, gA_d, pI_d, ne_eq, not_false_eq_true, u2_hi, u2_hj, u2_dyn, u2_dynj, Nat.reduceAdd, mX_r, mX_rD, mX_rDj, mM_r, mX_u, mX_uM, mX_uD, mX_uDj, mM_u, mM_uX, mM_uD, mM_uDj, u2_dd, u2_d0, u2_0d]
      · simp (decide := true) only [f_X15_gets_68, f_X15_gets_186, k0, hc, Int32.le_refl, h1, h2, Int32.add_zero, isO_s, gI_s, gA_s, gL_s, pI_s, pZ_s, pL_s, aI_s, aL_s, aN_s, aQ_s, sI_s, sL_s, cr, LNs, Option.map_some, Option.map_none, Option.bind_some, b2, tr, lt, if_true, if_false, ckZ, X_within, M_in, inR_z, X_refuse, X_tell, X_deny, X_grant, M_refused, M_denied, M_done, M_granted, u2_same, u2_ne, u2_u2, upd_same, upd_ne, aW0, ixR_z, ixR_1, M_isWall, M_isPainter, M_isWork, X_has4, X_has10, X_at, or_false, false_or, or_true, true_or, not_true, not_false_iff, Option.isSome_some, isO_d, gI_d, gA_d, pI_d, ne_eq, not_false_eq_true, u2_hi, u2_hj, u2_dyn, u2_dynj, Nat.reduceAdd, mX_r, mX_rD, mX_rDj, mM_r, mX_u, mX_uM, mX_uD, mX_uDj, mM_u, mM_uX, mM_uD, mM_uDj, u2_dd, u2_d0, u2_0d]
    · have h3 := M_g2 (b := b) (F := F) (E := E) (L := L) (P := P) (nx := nx) (us := us) (I := I) (who := who) (o := o) (re := re) k0 k1 k2 hc hnl h1 l 0 (by omega) FU (by unfold FU; omega) mi 1 (o - o / re * re) (fun h => absurd h (by decide)) (fun _ => rfl)
      simp (decide := true) only [f_X15_gets_68, k0, hc, Int32.le_refl, h1, isO_s, gI_s, gA_s, gL_s, pI_s, pZ_s, pL_s, aI_s, aL_s, aN_s, aQ_s, sI_s, sL_s, cr, LNs, Option.map_some, Option.map_none, Option.bind_some, b2, tr, lt, if_true, if_false, ckZ, X_within, M_in, inR_z, X_refuse, X_tell, X_deny, X_grant, M_refused, M_denied, M_done, M_granted, u2_same, u2_ne, u2_u2, upd_same, upd_ne, aW0, ixR_z, ixR_1, M_isWall, M_isPainter, M_isWork, X_has4, X_has10, X_at, or_false, false_or, or_true, true_or, not_true, not_false_iff, Option.isSome_some, isO_d, gI_d, gA_d, pI_d, ne_eq, not_false_eq_true, u2_hi, u2_hj, u2_dyn, u2_dynj, Nat.reduceAdd, mX_r, mX_rD, mX_rDj, mM_r, mX_u, mX_uM, mX_uD, mX_uDj, mM_u, mM_uX, mM_uD, mM_uDj, u2_dd, u2_d0, u2_0d]
      exact h3
  | succ m ih =>
    intro l hl fu hf o re mi
    obtain ⟨fu, rfl⟩ : ∃ f, fu = f + 1 := ⟨fu - 1, by omega⟩
    have hln : l < nl := by omega
    have e2 := oN_leF hln (by omega)
    have e3 : iN (Int32.ofNat l) 8 = some l := iN_oN (by omega) (by omega)
    have ih' := ih (l + 1) (by omega) fu (by omega)
    unfold gt1
    by_cases h1 : I (c + 2) l = -1
    · by_cases h2 : I (c + 1) l = who
      · simp (decide := true) only [f_X15_gets_68, f_X15_gets_107, f_X15_gets_129, f_X15_gets_158, k0, hc, aI_d k1 (by decide), aI_d k2 (by decide), e2, e3, h1, h2, oN_succ, ih', isO_s, gI_s, gA_s, gL_s, pI_s, pZ_s, pL_s, aI_s, aL_s, aN_s, aQ_s, sI_s, sL_s, cr, LNs, Option.map_some, Option.map_none, Option.bind_some, b2, tr, lt, if_true, if_false, ckZ, X_within, M_in, inR_z, X_refuse, X_tell, X_deny, X_grant, M_refused, M_denied, M_done, M_granted, u2_same, u2_ne, u2_u2, upd_same, upd_ne, aW0, ixR_z, ixR_1, M_isWall, M_isPainter, M_isWork, X_has4, X_has10, X_at, or_false, false_or, or_true, true_or, not_true, not_false_iff, Option.isSome_some, isO_d, gI_d, gA_d, pI_d, ne_eq, not_false_eq_true, u2_hi, u2_hj, u2_dyn, u2_dynj, Nat.reduceAdd, mX_r, mX_rD, mX_rDj, mM_r, mX_u, mX_uM, mX_uD, mX_uDj, mM_u, mM_uX, mM_uD, mM_uDj, u2_dd, u2_d0, u2_0d]
      · simp (decide := true) only [f_X15_gets_68, f_X15_gets_107, f_X15_gets_129, f_X15_gets_158, k0, hc, aI_d k1 (by decide), aI_d k2 (by decide), e2, e3, h1, h2, oN_succ, ih', isO_s, gI_s, gA_s, gL_s, pI_s, pZ_s, pL_s, aI_s, aL_s, aN_s, aQ_s, sI_s, sL_s, cr, LNs, Option.map_some, Option.map_none, Option.bind_some, b2, tr, lt, if_true, if_false, ckZ, X_within, M_in, inR_z, X_refuse, X_tell, X_deny, X_grant, M_refused, M_denied, M_done, M_granted, u2_same, u2_ne, u2_u2, upd_same, upd_ne, aW0, ixR_z, ixR_1, M_isWall, M_isPainter, M_isWork, X_has4, X_has10, X_at, or_false, false_or, or_true, true_or, not_true, not_false_iff, Option.isSome_some, isO_d, gI_d, gA_d, pI_d, ne_eq, not_false_eq_true, u2_hi, u2_hj, u2_dyn, u2_dynj, Nat.reduceAdd, mX_r, mX_rD, mX_rDj, mM_r, mX_u, mX_uM, mX_uD, mX_uDj, mM_u, mM_uX, mM_uD, mM_uDj, u2_dd, u2_d0, u2_0d]
    · by_cases h2 : I (c + 1) l = who
      · simp (decide := true) only [f_X15_gets_68, f_X15_gets_107, f_X15_gets_129, f_X15_gets_158, k0, hc, aI_d k1 (by decide), aI_d k2 (by decide), e2, e3, h1, h2, oN_succ, ih', isO_s, gI_s, gA_s, gL_s, pI_s, pZ_s, pL_s, aI_s, aL_s, aN_s, aQ_s, sI_s, sL_s, cr, LNs, Option.map_some, Option.map_none, Option.bind_some, b2, tr, lt, if_true, if_false, ckZ, X_within, M_in, inR_z, X_refuse, X_tell, X_deny, X_grant, M_refused, M_denied, M_done, M_granted, u2_same, u2_ne, u2_u2, upd_same, upd_ne, aW0, ixR_z, ixR_1, M_isWall, M_isPainter, M_isWork, X_has4, X_has10, X_at, or_false, false_or, or_true, true_or, not_true, not_false_iff, Option.isSome_some, isO_d, gI_d, gA_d, pI_d, ne_eq, not_false_eq_true, u2_hi, u2_hj, u2_dyn, u2_dynj, Nat.reduceAdd, mX_r, mX_rD, mX_rDj, mM_r, mX_u, mX_uM, mX_uD, mX_uDj, mM_u, mM_uX, mM_uD, mM_uDj, u2_dd, u2_d0, u2_0d]
      · simp (decide := true) only [f_X15_gets_68, f_X15_gets_107, f_X15_gets_129, f_X15_gets_158, k0, hc, aI_d k1 (by decide), aI_d k2 (by decide), e2, e3, h1, h2, oN_succ, ih', isO_s, gI_s, gA_s, gL_s, pI_s, pZ_s, pL_s, aI_s, aL_s, aN_s, aQ_s, sI_s, sL_s, cr, LNs, Option.map_some, Option.map_none, Option.bind_some, b2, tr, lt, if_true, if_false, ckZ, X_within, M_in, inR_z, X_refuse, X_tell, X_deny, X_grant, M_refused, M_denied, M_done, M_granted, u2_same, u2_ne, u2_u2, upd_same, upd_ne, aW0, ixR_z, ixR_1, M_isWall, M_isPainter, M_isWork, X_has4, X_has10, X_at, or_false, false_or, or_true, true_or, not_true, not_false_iff, Option.isSome_some, isO_d, gI_d, gA_d, pI_d, ne_eq, not_false_eq_true, u2_hi, u2_hj, u2_dyn, u2_dynj, Nat.reduceAdd, mX_r, mX_rD, mX_rDj, mM_r, mX_u, mX_uM, mX_uD, mX_uDj, mM_u, mM_uX, mM_uD, mM_uDj, u2_dd, u2_d0, u2_0d]
end GETS
