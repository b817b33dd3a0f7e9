/-! ===== tokens: the class's cutting ===== -/
def fnI (c : Nat → Nat) (x : Int32) : Nat → Nat → Int32
  | 0, _ => -1
  | m + 1, i => if Int32.ofNat (c i) = x then Int32.ofNat i else fnI c x m (i + 1)
theorem enc_j : ∀ j, j < 128 → ((Int32.ofNat j).toUInt32 % 65536).toInt32 = Int32.ofNat j ∧ (Int32.ofNat j).toInt8.toInt32 = Int32.ofNat j ∧ (gB (Int32.ofNat j) = true ↔ ¬ fnI (fun i => (zt 0).getD i 0) (Int32.ofNat j) 14 0 < 0) := by decide +kernel
theorem mx00 : mxI 0 0 = 0 := by decide
theorem mn_s (x : Int32) : mnI x x = x := by unfold mnI; split <;> rfl
theorem canE (j : Nat) (hj : j < 128) (h : AH) : f_J1_canEncode_9a6ad (Int32.ofNat j) h = some (1, h) := by
  have e1 := oN_neg (w := j) (by omega)
  have e2 : ((255 : Int32) < Int32.ofNat j) = False := eq_false (fun z => absurd ((oN_lt (a := 255) (by omega) (by omega)).mp z) (by omega))
  have z1 : ckZ 1 = some 1 := by decide
  unfold f_J1_canEncode_9a6ad f_J1_canEncode_9a6ad_16
  simp only [e1, e2, z1, if_false, Option.bind_some]
section TOK4
variable {b : Nat} {F : Nat → Option AE} {D E : Nat → Option KD} {I : Nat → Nat → Int32} {L : Nat → Nat → Int64} {P : Nat → Nat → Option Nat} {nx us : Nat}
theorem S_idx {z : ZX} {a n j : Nat} {c : Nat → Nat} (h : SB b F a n c) (hn : 0 < n) (hj : j < 128) (henc : f_J1_canEncode_9a6ad (Int32.ofNat j) (lay b F E I L P nx us) = some (1, (lay b F E I L P nx us))) : f_J0_indexOf_0f7a4 z a (Int32.ofNat j) (lay b F E I L P nx us) = some (fnI c (Int32.ofNat j) n 0, (lay b F E I L P nx us)) := by
  have hlen := S_len (E := E) (I := I) (L := L) (P := P) (nx := nx) (us := us) h
  obtain ⟨h1, v, f, g, h2, h3, h4, h5, h6, h7, h8⟩ := h
  have e1 := hM_F (F := F) (E := E) (I := I) (L := L) (P := P) (nx := nx) (us := us) h1
  have e2 := hM_F (F := F) (E := E) (I := I) (L := L) (P := P) (nx := nx) (us := us) h5
  have o : isO 99 (lay b F E I L P nx us) a = true := by unfold isO; rw [e1, h2]; rfl
  have g0 : gA 99 (lay b F E I L P nx us) a 0 = some v := by unfold gA gV; rw [e1, h2]; simp [h3, vA]
  have g1 : gI 99 (lay b F E I L P nx us) a 1 = some 0 := by unfold gI gV; rw [e1, h2]; simp [h4, vI]
  have n1 : aN (lay b F E I L P nx us) v = some (Int32.ofNat n) := by unfold aN; rw [e2, h6]
  have n2 : ∀ i, i < n → aI 21 (lay b F E I L P nx us) v (Int32.ofNat i) = some (Int32.ofNat (c i)) := fun i hi => by unfold aI; rw [e2, h6]; simp [iN_oN hi (by omega), (h8 i hi).1]
  have e0 : ((1 : Int32) = 0) = False := by decide
  have z1 : ckZ 1 = some 1 := by decide
  have lp : ∀ (m i : Nat), i + m = n → ∀ fu, m < fu → f_J1_indexOfChar_4cfef_7 fu v (Int32.ofNat n) (Int32.ofNat j) (Int32.ofNat i) (lay b F E I L P nx us) = some (fnI c (Int32.ofNat j) m i, (lay b F E I L P nx us)) := by
    intro m
    induction m with
    | zero =>
      intro i hi fu hf
      obtain ⟨fu, rfl⟩ : ∃ f, fu = f + 1 := ⟨fu - 1, by omega⟩
      have : i = n := by omega
      subst this
      simp only [f_J1_indexOfChar_4cfef_7, Int32.le_refl, if_true]
      rfl
    | succ m ih =>
      intro i hi fu hf
      obtain ⟨fu, rfl⟩ : ∃ f, fu = f + 1 := ⟨fu - 1, by omega⟩
      have q := oN_leF (show i < n by omega) (by omega)
      have ih' := ih (i + 1) (by omega) fu (by omega)
      unfold fnI
      by_cases hc : Int32.ofNat (c i) = Int32.ofNat j
      · rw [if_pos hc]
        simp only [f_J1_indexOfChar_4cfef_7, q, if_false, n2 i (by omega), Option.bind_some, hc, if_true]
      · rw [if_neg hc]
        simp only [f_J1_indexOfChar_4cfef_7, q, if_false, n2 i (by omega), Option.bind_some, hc, oN_succ]
        exact ih'
  have hl := lp n 0 (by omega) FU (by unfold FU; omega)
  have q0 : ((0 : Int32) < Int32.ofNat n) = True := eq_true ((oN_lt (a := 0) (by omega) (by omega)).mpr hn)
  rw [show Int32.ofNat 0 = 0 from rfl] at hl
  unfold f_J0_indexOf_0f7a4 f_J0_indexOf_7cf53 f_J0_indexOf_7cf53_36 f_J0_isLatin1_aae02 f_J0_isLatin1_aae02_18 f_J1_indexOf_4cfef f_J1_indexOfChar_4cfef
  simp only [o, g0, g1, n1, z1, e0, hlen, henc, mx00, mn_s, q0, (enc_j j hj).2.1, hl, if_true, if_false, b2, Option.bind_some]
theorem X_twl {z : ZX} {n i2 : Nat} {t : RW} (hn : n ≤ 400) : ∀ (m k : Nat), k + m = n → ∀ (fu : Nat) (x : Int64), m < fu → I 39 = t → f_X7_takeWord_6 z fu (ad b 40) (ad b 39) (Int32.ofNat i2) (Int32.ofNat n) (Int32.ofNat k) x (lay b F E I L P nx us) = f_X7_takeWord_39 z (ad b 40) (Int32.ofNat i2) (Int32.ofNat (rnE lB t m k)) (wvR t m k x) (lay b F E I L P nx us) := by
  intro m
  induction m with
  | zero =>
    intro k hk fu x hf ht
    obtain ⟨fu, rfl⟩ : ∃ f, fu = f + 1 := ⟨fu - 1, by omega⟩
    have : k = n := by omega
    subst this
    simp only [f_X7_takeWord_6, Int32.le_refl, if_true]
    rfl
  | succ m ih =>
    intro k hk fu x hf ht
    obtain ⟨fu, rfl⟩ : ∃ f, fu = f + 1 := ⟨fu - 1, by omega⟩
    have e2 := oN_leF (show k < n by omega) (by omega)
    have e3 : iN (Int32.ofNat k) 400 = some k := iN_oN (by omega) (by omega)
    have e10 : ((1 : Int32) = 0) = False := by decide
    unfold rnE wvR
    by_cases hl : lB (t k) = true
    · have ih' := ih (k + 1) (by omega) fu (32 * x + (t k - 97 + 1).toInt64) (by omega) ht
      have em : x * 32 + (t k - 97 + 1).toInt64 = 32 * x + (t k - 97 + 1).toInt64 := by rw [Int64.mul_comm]
      rw [if_pos hl, if_pos hl]
      simp (decide := true) only [f_X7_takeWord_6, X_letter, f_X7_withLetter, e2, e3, ht, lB_t hl, e10, oN_succ, em, isO_s, gI_s, gA_s, gL_s, pI_s, pZ_s, pL_s, aI_s, aL_s, aN_s, aQ_s, sI_s, sL_s, cr, LNs, Option.map_some, Option.map_none, Option.bind_some, b2, tr, lt, if_true, if_false, ckZ, X_within, M_in, X_refuse, X_tell, X_deny, X_grant, M_refused, M_denied, M_done, M_granted, u2_same, u2_ne, u2_u2, upd_same, upd_ne, aW0, ixR_z, ixR_1, M_isWall, M_isPainter, M_isWork, X_has4, X_has10, X_at, or_false, false_or, or_true, true_or, not_true, not_false_iff, Option.isSome_some, isO_d, gI_d, gA_d, pI_d, ne_eq, not_false_eq_true, u2_hi, u2_hj, u2_dyn, u2_dynj, Nat.reduceAdd, mX_r, mX_rD, mX_rDj, mM_r, mX_u, mX_uM, mX_uD, mX_uDj, mM_u, mM_uX, mM_uD, mM_uDj, u2_dd, u2_d0, u2_0d]
      exact ih'
    · rw [if_neg hl, if_neg hl]
      simp (decide := true) only [f_X7_takeWord_6, X_letter, e2, e3, ht, lB_f hl, isO_s, gI_s, gA_s, gL_s, pI_s, pZ_s, pL_s, aI_s, aL_s, aN_s, aQ_s, sI_s, sL_s, cr, LNs, Option.map_some, Option.map_none, Option.bind_some, b2, tr, lt, if_true, if_false, ckZ, X_within, M_in, X_refuse, X_tell, X_deny, X_grant, M_refused, M_denied, M_done, M_granted, u2_same, u2_ne, u2_u2, upd_same, upd_ne, aW0, ixR_z, ixR_1, M_isWall, M_isPainter, M_isWork, X_has4, X_has10, X_at, or_false, false_or, or_true, true_or, not_true, not_false_iff, Option.isSome_some, isO_d, gI_d, gA_d, pI_d, ne_eq, not_false_eq_true, u2_hi, u2_hj, u2_dyn, u2_dynj, Nat.reduceAdd, mX_r, mX_rD, mX_rDj, mM_r, mX_u, mX_uM, mX_uD, mX_uDj, mM_u, mM_uX, mM_uD, mM_uDj, u2_dd, u2_d0, u2_0d]
theorem X_tnl {n i2 : Nat} {t : RW} (hn : n ≤ 400) : ∀ (m k : Nat), k + m = n → ∀ (fu : Nat) (x : Int32), m < fu → I 39 = t → f_X7_takeWhole_6 fu (ad b 40) (ad b 39) (Int32.ofNat i2) (Int32.ofNat n) (Int32.ofNat k) x (lay b F E I L P nx us) = f_X7_takeWhole_43 (ad b 40) (Int32.ofNat i2) (Int32.ofNat (rnE dB t m k)) (nvR t m k x) (lay b F E I L P nx us) := by
  intro m
  induction m with
  | zero =>
    intro k hk fu x hf ht
    obtain ⟨fu, rfl⟩ : ∃ f, fu = f + 1 := ⟨fu - 1, by omega⟩
    have : k = n := by omega
    subst this
    simp only [f_X7_takeWhole_6, Int32.le_refl, if_true]
    rfl
  | succ m ih =>
    intro k hk fu x hf ht
    obtain ⟨fu, rfl⟩ : ∃ f, fu = f + 1 := ⟨fu - 1, by omega⟩
    have e2 := oN_leF (show k < n by omega) (by omega)
    have e3 : iN (Int32.ofNat k) 400 = some k := iN_oN (by omega) (by omega)
    have e10 : ((1 : Int32) = 0) = False := by decide
    unfold rnE nvR
    by_cases hl : dB (t k) = true
    · have ih' := ih (k + 1) (by omega) fu (x * 10 + (t k - 48)) (by omega) ht
      rw [if_pos hl, if_pos hl]
      simp (decide := true) only [f_X7_takeWhole_6, X_digit, e2, e3, ht, dB_t hl, e10, oN_succ, isO_s, gI_s, gA_s, gL_s, pI_s, pZ_s, pL_s, aI_s, aL_s, aN_s, aQ_s, sI_s, sL_s, cr, LNs, Option.map_some, Option.map_none, Option.bind_some, b2, tr, lt, if_true, if_false, ckZ, X_within, M_in, X_refuse, X_tell, X_deny, X_grant, M_refused, M_denied, M_done, M_granted, u2_same, u2_ne, u2_u2, upd_same, upd_ne, aW0, ixR_z, ixR_1, M_isWall, M_isPainter, M_isWork, X_has4, X_has10, X_at, or_false, false_or, or_true, true_or, not_true, not_false_iff, Option.isSome_some, isO_d, gI_d, gA_d, pI_d, ne_eq, not_false_eq_true, u2_hi, u2_hj, u2_dyn, u2_dynj, Nat.reduceAdd, mX_r, mX_rD, mX_rDj, mM_r, mX_u, mX_uM, mX_uD, mX_uDj, mM_u, mM_uX, mM_uD, mM_uDj, u2_dd, u2_d0, u2_0d]
      exact ih'
    · rw [if_neg hl, if_neg hl]
      simp (decide := true) only [f_X7_takeWhole_6, X_digit, e2, e3, ht, dB_f hl, isO_s, gI_s, gA_s, gL_s, pI_s, pZ_s, pL_s, aI_s, aL_s, aN_s, aQ_s, sI_s, sL_s, cr, LNs, Option.map_some, Option.map_none, Option.bind_some, b2, tr, lt, if_true, if_false, ckZ, X_within, M_in, X_refuse, X_tell, X_deny, X_grant, M_refused, M_denied, M_done, M_granted, u2_same, u2_ne, u2_u2, upd_same, upd_ne, aW0, ixR_z, ixR_1, M_isWall, M_isPainter, M_isWork, X_has4, X_has10, X_at, or_false, false_or, or_true, true_or, not_true, not_false_iff, Option.isSome_some, isO_d, gI_d, gA_d, pI_d, ne_eq, not_false_eq_true, u2_hi, u2_hj, u2_dyn, u2_dynj, Nat.reduceAdd, mX_r, mX_rD, mX_rDj, mM_r, mX_u, mX_uM, mX_uD, mX_uDj, mM_u, mM_uX, mM_uD, mM_uDj, u2_dd, u2_d0, u2_0d]
theorem gB_pos {x : Int32} (h : x ≤ 0) : gB x = false := by
  by_cases hg : gB x = true
  · rw [gB_cases] at hg
    exfalso
    rcases hg with rfl | rfl | rfl | rfl | rfl | rfl | rfl | rfl | rfl | rfl | rfl | rfl | rfl | rfl <;> exact absurd h (by decide)
  · revert hg; cases gB x <;> decide
/-- the row of names behind a token's cut -/
def nmR (t : RW) (n k i : Nat) (r : RW) : RW := if lB (t k) = true then upd r i (nmV (vl t n k)) else r
theorem X_take {z : ZX} {n k i : Nat} {t : RW} (hz : GZ b F z) (hn : n ≤ 400) (hB : BY t n) (hk : k < n) (hi : i ≤ 400) (ht : I 39 = t) (h3 : I 40 3 = Int32.ofNat i) : f_X7_take z (ad b 40) (ad b 39) (Int32.ofNat k) (Int32.ofNat n) (lay b F E I L P nx us) = some (Int32.ofNat (en t n k), lay b F E (u2 (u2 I 41 (upd (I 41) i (Int32.ofNat (kd t n k)))) 148 (nmR t n k i (I 148))) (u2 L 43 (vp_updL (L 43) i (vl t n k))) P nx us) := by
  have e3 : iN (Int32.ofNat k) 400 = some k := iN_oN (by omega) (by omega)
  have e4 : iN (Int32.ofNat i) 401 = some i := iN_oN (by omega) (by omega)
  have e10 : ((1 : Int32) = 0) = False := by decide
  have nle : ¬ n ≤ k := by omega
  by_cases hl : lB (t k) = true
  · have h1 := X_twl (b := b) (F := F) (E := E) (I := I) (L := L) (P := P) (nx := nx) (us := us) (z := z) (i2 := k) hn (n - k) k (by omega) FU 0 (by unfold FU; omega) ht
    have hnm := fun (I : Nat → Nat → Int32) (L : Nat → Nat → Int64) => X_nameOf (b := b) (F := F) (E := E) (I := I) (L := L) (P := P) (nx := nx) (us := us) hz (wvR t (n - k) k 0)
    have enR : nmR t n k i (I 148) = upd (I 148) i (nmV (wvR t (n - k) k 0)) := by unfold nmR vl; rw [if_pos hl, if_pos hl]
    have hge := rnE_ge (q := lB) (t := t) (n - k) k
    have een : en t n k = rnE lB t (n - k) k := by unfold en; rw [if_neg nle, if_pos hl]
    have evl : vl t n k = wvR t (n - k) k 0 := by unfold vl; rw [if_pos hl]
    have ekd : kd t n k = if rnE lB t (n - k) k - k ≤ 8 then 2 else 1 := by unfold kd; rw [if_neg nle, if_pos hl]
    have hsu : Int32.ofNat (rnE lB t (n - k) k) - Int32.ofNat k = Int32.ofNat (rnE lB t (n - k) k - k) := oN_sub hge.1
    rw [enR, een, evl, ekd]
    generalize rnE lB t (n - k) k = e at *
    by_cases h8 : e - k ≤ 8
    · have q : ((8 : Int32) < Int32.ofNat (e - k)) = False := eq_false (fun z => absurd ((oN_lt (a := 8) (by omega) (by omega)).mp z) (by omega))
      rw [if_pos h8]
      simp (decide := true) only [f_X7_take, f_X7_takeWord, X_letter, e3, ht, lB_t hl, e10, isO_s, gI_s, gA_s, gL_s, pI_s, pZ_s, pL_s, aI_s, aL_s, aN_s, aQ_s, sI_s, sL_s, cr, LNs, Option.map_some, Option.map_none, Option.bind_some, b2, tr, lt, if_true, if_false, ckZ, X_within, M_in, X_refuse, X_tell, X_deny, X_grant, M_refused, M_denied, M_done, M_granted, u2_same, u2_ne, u2_u2, upd_same, upd_ne, aW0, ixR_z, ixR_1, M_isWall, M_isPainter, M_isWork, X_has4, X_has10, X_at, or_false, false_or, or_true, true_or, not_true, not_false_iff, Option.isSome_some, isO_d, gI_d, gA_d, pI_d, ne_eq, not_false_eq_true, u2_hi, u2_hj, u2_dyn, u2_dynj, Nat.reduceAdd, mX_r, mX_rD, mX_rDj, mM_r, mX_u, mX_uM, mX_uD, mX_uDj, mM_u, mM_uX, mM_uD, mM_uDj, u2_dd, u2_d0, u2_0d]
      rw [show (Int64.ofNat 0) = 0 from rfl, h1]
      simp (decide := true) only [f_X7_takeWord_39, f_X7_takeWord_61, hsu, q, h3, e4, hnm, nmV_b, isO_s, gI_s, gA_s, gL_s, pI_s, pZ_s, pL_s, aI_s, aL_s, aN_s, aQ_s, sI_s, sL_s, cr, LNs, Option.map_some, Option.map_none, Option.bind_some, b2, tr, lt, if_true, if_false, ckZ, X_within, M_in, inR_z, X_refuse, X_tell, X_deny, X_grant, M_refused, M_denied, M_done, M_granted, u2_same, u2_ne, u2_u2, upd_same, upd_ne, aW0, ixR_z, ixR_1, M_isWall, M_isPainter, M_isWork, X_has4, X_has10, X_at, or_false, false_or, or_true, true_or, not_true, not_false_iff, Option.isSome_some, isO_d, gI_d, gA_d, pI_d, ne_eq, not_false_eq_true, u2_hi, u2_hj, u2_dyn, u2_dynj, Nat.reduceAdd, mX_r, mX_rD, mX_rDj, mM_r, mX_u, mX_uM, mX_uD, mX_uDj, mM_u, mM_uX, mM_uD, mM_uDj, u2_dd, u2_d0, u2_0d]
      rfl
    · have q : ((8 : Int32) < Int32.ofNat (e - k)) = True := eq_true ((oN_lt (a := 8) (by omega) (by omega)).mpr (by omega))
      rw [if_neg h8]
      simp (decide := true) only [f_X7_take, f_X7_takeWord, X_letter, e3, ht, lB_t hl, e10, isO_s, gI_s, gA_s, gL_s, pI_s, pZ_s, pL_s, aI_s, aL_s, aN_s, aQ_s, sI_s, sL_s, cr, LNs, Option.map_some, Option.map_none, Option.bind_some, b2, tr, lt, if_true, if_false, ckZ, X_within, M_in, X_refuse, X_tell, X_deny, X_grant, M_refused, M_denied, M_done, M_granted, u2_same, u2_ne, u2_u2, upd_same, upd_ne, aW0, ixR_z, ixR_1, M_isWall, M_isPainter, M_isWork, X_has4, X_has10, X_at, or_false, false_or, or_true, true_or, not_true, not_false_iff, Option.isSome_some, isO_d, gI_d, gA_d, pI_d, ne_eq, not_false_eq_true, u2_hi, u2_hj, u2_dyn, u2_dynj, Nat.reduceAdd, mX_r, mX_rD, mX_rDj, mM_r, mX_u, mX_uM, mX_uD, mX_uDj, mM_u, mM_uX, mM_uD, mM_uDj, u2_dd, u2_d0, u2_0d]
      rw [show (Int64.ofNat 0) = 0 from rfl, h1]
      simp (decide := true) only [f_X7_takeWord_39, f_X7_takeWord_61, hsu, q, h3, e4, hnm, nmV_b, isO_s, gI_s, gA_s, gL_s, pI_s, pZ_s, pL_s, aI_s, aL_s, aN_s, aQ_s, sI_s, sL_s, cr, LNs, Option.map_some, Option.map_none, Option.bind_some, b2, tr, lt, if_true, if_false, ckZ, X_within, M_in, inR_z, X_refuse, X_tell, X_deny, X_grant, M_refused, M_denied, M_done, M_granted, u2_same, u2_ne, u2_u2, upd_same, upd_ne, aW0, ixR_z, ixR_1, M_isWall, M_isPainter, M_isWork, X_has4, X_has10, X_at, or_false, false_or, or_true, true_or, not_true, not_false_iff, Option.isSome_some, isO_d, gI_d, gA_d, pI_d, ne_eq, not_false_eq_true, u2_hi, u2_hj, u2_dyn, u2_dynj, Nat.reduceAdd, mX_r, mX_rD, mX_rDj, mM_r, mX_u, mX_uM, mX_uD, mX_uDj, mM_u, mM_uX, mM_uD, mM_uDj, u2_dd, u2_d0, u2_0d]
      rfl
  · have enR : nmR t n k i (I 148) = I 148 := by unfold nmR; rw [if_neg hl]
    have e148 : ∀ (J : RW), u2 (u2 I 41 J) 148 (I 148) = u2 I 41 J := fun J => u2_id' (u2_ne (by decide))
    rw [enR, e148]
    by_cases hd : dB (t k) = true
    · have h1 := X_tnl (b := b) (F := F) (E := E) (I := I) (L := L) (P := P) (nx := nx) (us := us) (i2 := k) hn (n - k) k (by omega) FU 0 (by unfold FU; omega) ht
      have hge := rnE_ge (q := dB) (t := t) (n - k) k
      have een : en t n k = rnE dB t (n - k) k := by unfold en; rw [if_neg nle, if_neg hl, if_pos hd]
      have evl : vl t n k = (nvR t (n - k) k 0).toInt64 := by unfold vl; rw [if_neg hl, if_pos hd]
      have ekd : kd t n k = if rnE dB t (n - k) k - k ≤ 3 then 3 else 1 := by unfold kd; rw [if_neg nle, if_neg hl, if_pos hd]
      have hsu : Int32.ofNat (rnE dB t (n - k) k) - Int32.ofNat k = Int32.ofNat (rnE dB t (n - k) k - k) := oN_sub hge.1
      rw [een, evl, ekd]
      generalize rnE dB t (n - k) k = e at *
      by_cases h8 : e - k ≤ 3
      · have q : ((3 : Int32) < Int32.ofNat (e - k)) = False := eq_false (fun z => absurd ((oN_lt (a := 3) (by omega) (by omega)).mp z) (by omega))
        rw [if_pos h8]
        simp (decide := true) only [f_X7_take, f_X7_takeWhole, X_letter, X_digit, e3, ht, lB_f hl, dB_t hd, e10, isO_s, gI_s, gA_s, gL_s, pI_s, pZ_s, pL_s, aI_s, aL_s, aN_s, aQ_s, sI_s, sL_s, cr, LNs, Option.map_some, Option.map_none, Option.bind_some, b2, tr, lt, if_true, if_false, ckZ, X_within, M_in, X_refuse, X_tell, X_deny, X_grant, M_refused, M_denied, M_done, M_granted, u2_same, u2_ne, u2_u2, upd_same, upd_ne, aW0, ixR_z, ixR_1, M_isWall, M_isPainter, M_isWork, X_has4, X_has10, X_at, or_false, false_or, or_true, true_or, not_true, not_false_iff, Option.isSome_some, isO_d, gI_d, gA_d, pI_d, ne_eq, not_false_eq_true, u2_hi, u2_hj, u2_dyn, u2_dynj, Nat.reduceAdd, mX_r, mX_rD, mX_rDj, mM_r, mX_u, mX_uM, mX_uD, mX_uDj, mM_u, mM_uX, mM_uD, mM_uDj, u2_dd, u2_d0, u2_0d]
        rw [h1]
        simp (decide := true) only [f_X7_takeWhole_43, f_X7_takeWhole_64, hsu, q, h3, e4, isO_s, gI_s, gA_s, gL_s, pI_s, pZ_s, pL_s, aI_s, aL_s, aN_s, aQ_s, sI_s, sL_s, cr, LNs, Option.map_some, Option.map_none, Option.bind_some, b2, tr, lt, if_true, if_false, ckZ, X_within, M_in, inR_z, X_refuse, X_tell, X_deny, X_grant, M_refused, M_denied, M_done, M_granted, u2_same, u2_ne, u2_u2, upd_same, upd_ne, aW0, ixR_z, ixR_1, M_isWall, M_isPainter, M_isWork, X_has4, X_has10, X_at, or_false, false_or, or_true, true_or, not_true, not_false_iff, Option.isSome_some, isO_d, gI_d, gA_d, pI_d, ne_eq, not_false_eq_true, u2_hi, u2_hj, u2_dyn, u2_dynj, Nat.reduceAdd, mX_r, mX_rD, mX_rDj, mM_r, mX_u, mX_uM, mX_uD, mX_uDj, mM_u, mM_uX, mM_uD, mM_uDj, u2_dd, u2_d0, u2_0d]
        rfl
      · have q : ((3 : Int32) < Int32.ofNat (e - k)) = True := eq_true ((oN_lt (a := 3) (by omega) (by omega)).mpr (by omega))
        rw [if_neg h8]
        simp (decide := true) only [f_X7_take, f_X7_takeWhole, X_letter, X_digit, e3, ht, lB_f hl, dB_t hd, e10, isO_s, gI_s, gA_s, gL_s, pI_s, pZ_s, pL_s, aI_s, aL_s, aN_s, aQ_s, sI_s, sL_s, cr, LNs, Option.map_some, Option.map_none, Option.bind_some, b2, tr, lt, if_true, if_false, ckZ, X_within, M_in, X_refuse, X_tell, X_deny, X_grant, M_refused, M_denied, M_done, M_granted, u2_same, u2_ne, u2_u2, upd_same, upd_ne, aW0, ixR_z, ixR_1, M_isWall, M_isPainter, M_isWork, X_has4, X_has10, X_at, or_false, false_or, or_true, true_or, not_true, not_false_iff, Option.isSome_some, isO_d, gI_d, gA_d, pI_d, ne_eq, not_false_eq_true, u2_hi, u2_hj, u2_dyn, u2_dynj, Nat.reduceAdd, mX_r, mX_rD, mX_rDj, mM_r, mX_u, mX_uM, mX_uD, mX_uDj, mM_u, mM_uX, mM_uD, mM_uDj, u2_dd, u2_d0, u2_0d]
        rw [h1]
        simp (decide := true) only [f_X7_takeWhole_43, f_X7_takeWhole_64, hsu, q, h3, e4, isO_s, gI_s, gA_s, gL_s, pI_s, pZ_s, pL_s, aI_s, aL_s, aN_s, aQ_s, sI_s, sL_s, cr, LNs, Option.map_some, Option.map_none, Option.bind_some, b2, tr, lt, if_true, if_false, ckZ, X_within, M_in, inR_z, X_refuse, X_tell, X_deny, X_grant, M_refused, M_denied, M_done, M_granted, u2_same, u2_ne, u2_u2, upd_same, upd_ne, aW0, ixR_z, ixR_1, M_isWall, M_isPainter, M_isWork, X_has4, X_has10, X_at, or_false, false_or, or_true, true_or, not_true, not_false_iff, Option.isSome_some, isO_d, gI_d, gA_d, pI_d, ne_eq, not_false_eq_true, u2_hi, u2_hj, u2_dyn, u2_dynj, Nat.reduceAdd, mX_r, mX_rD, mX_rDj, mM_r, mX_u, mX_uM, mX_uD, mX_uDj, mM_u, mM_uX, mM_uD, mM_uDj, u2_dd, u2_d0, u2_0d]
        rfl
    · have een : en t n k = k + 1 := by unfold en; rw [if_neg nle, if_neg hl, if_neg hd]
      have evl : vl t n k = (t k).toInt64 := by unfold vl; rw [if_neg hl, if_neg hd]
      have ekd : kd t n k = if gB (t k) = true then 4 else 1 := by unfold kd; rw [if_neg nle, if_neg hl, if_neg hd]
      rw [een, evl, ekd]
      obtain ⟨x1, x2⟩ := hB k hk
      by_cases h0 : t k ≤ 0
      · rw [if_neg (by rw [gB_pos h0]; decide)]
        simp (decide := true) only [f_X7_take, f_X7_take_56, f_X7_take_57, f_X7_take_77, X_letter, X_digit, e3, ht, lB_f hl, dB_f hd, h0, h3, e4, oN_succ, isO_s, gI_s, gA_s, gL_s, pI_s, pZ_s, pL_s, aI_s, aL_s, aN_s, aQ_s, sI_s, sL_s, cr, LNs, Option.map_some, Option.map_none, Option.bind_some, b2, tr, lt, if_true, if_false, ckZ, X_within, M_in, X_refuse, X_tell, X_deny, X_grant, M_refused, M_denied, M_done, M_granted, u2_same, u2_ne, u2_u2, upd_same, upd_ne, aW0, ixR_z, ixR_1, M_isWall, M_isPainter, M_isWork, X_has4, X_has10, X_at, or_false, false_or, or_true, true_or, not_true, not_false_iff, Option.isSome_some, isO_d, gI_d, gA_d, pI_d, ne_eq, not_false_eq_true, u2_hi, u2_hj, u2_dyn, u2_dynj, Nat.reduceAdd, mX_r, mX_rD, mX_rDj, mM_r, mX_u, mX_uM, mX_uD, mX_uDj, mM_u, mM_uX, mM_uD, mM_uDj, u2_dd, u2_d0, u2_0d]
        rfl
      · have hj : ∃ j, j < 128 ∧ t k = Int32.ofNat j := by
          obtain ⟨j, hj, e⟩ := nn_oN (x := t k) (fun q => h0 (Int32.le_of_lt q))
          refine ⟨j, ?_, e⟩
          rw [e] at x2
          have := (oN_le (c := 127) hj (by omega)).mp x2
          omega
        obtain ⟨j, hj, ej⟩ := hj
        obtain ⟨c1, c2, c3⟩ := enc_j j hj
        have henc : f_J1_canEncode_9a6ad (Int32.ofNat j) (lay b F E I L P nx us) = some (1, (lay b F E I L P nx us)) := canE j hj _
        have hix := S_idx (z := z) (E := E) (I := I) (L := L) (P := P) (nx := nx) (us := us) (hz 0 (by decide)) (by decide) hj henc
        have hix' : f_J0_indexOf_0f7a4 z (z.1 0) (Int32.ofNat j) (lay b F E I L P nx us) = some (fnI (fun i => (zt 0).getD i 0) (Int32.ofNat j) 14 0, (lay b F E I L P nx us)) := hix
        generalize fnI (fun i => (zt 0).getD i 0) (Int32.ofNat j) 14 0 = y at *
        rw [ej] at h0 hl hd ⊢
        by_cases hg : gB (Int32.ofNat j) = true
        · have hy : (y < 0) = False := eq_false (c3.mp hg)
          rw [if_pos hg]
          simp (decide := true) only [f_X7_take, f_X7_take_56, f_X7_take_57, f_X7_take_77, X_letter, X_digit, e3, ht, ej, lB_f hl, dB_f hd, h0, c1, hix', hy, h3, e4, e10, oN_succ, isO_s, gI_s, gA_s, gL_s, pI_s, pZ_s, pL_s, aI_s, aL_s, aN_s, aQ_s, sI_s, sL_s, cr, LNs, Option.map_some, Option.map_none, Option.bind_some, b2, tr, lt, if_true, if_false, ckZ, X_within, M_in, X_refuse, X_tell, X_deny, X_grant, M_refused, M_denied, M_done, M_granted, u2_same, u2_ne, u2_u2, upd_same, upd_ne, aW0, ixR_z, ixR_1, M_isWall, M_isPainter, M_isWork, X_has4, X_has10, X_at, or_false, false_or, or_true, true_or, not_true, not_false_iff, Option.isSome_some, isO_d, gI_d, gA_d, pI_d, ne_eq, not_false_eq_true, u2_hi, u2_hj, u2_dyn, u2_dynj, Nat.reduceAdd, mX_r, mX_rD, mX_rDj, mM_r, mX_u, mX_uM, mX_uD, mX_uDj, mM_u, mM_uX, mM_uD, mM_uDj, u2_dd, u2_d0, u2_0d]
          rfl
        · have hy : (y < 0) = True := eq_true (Classical.byContradiction fun q => hg (c3.mpr q))
          rw [if_neg hg]
          simp (decide := true) only [f_X7_take, f_X7_take_56, f_X7_take_57, f_X7_take_77, X_letter, X_digit, e3, ht, ej, lB_f hl, dB_f hd, h0, c1, hix', hy, h3, e4, oN_succ, isO_s, gI_s, gA_s, gL_s, pI_s, pZ_s, pL_s, aI_s, aL_s, aN_s, aQ_s, sI_s, sL_s, cr, LNs, Option.map_some, Option.map_none, Option.bind_some, b2, tr, lt, if_true, if_false, ckZ, X_within, M_in, X_refuse, X_tell, X_deny, X_grant, M_refused, M_denied, M_done, M_granted, u2_same, u2_ne, u2_u2, upd_same, upd_ne, aW0, ixR_z, ixR_1, M_isWall, M_isPainter, M_isWork, X_has4, X_has10, X_at, or_false, false_or, or_true, true_or, not_true, not_false_iff, Option.isSome_some, isO_d, gI_d, gA_d, pI_d, ne_eq, not_false_eq_true, u2_hi, u2_hj, u2_dyn, u2_dynj, Nat.reduceAdd, mX_r, mX_rD, mX_rDj, mM_r, mX_u, mX_uM, mX_uD, mX_uDj, mM_u, mM_uX, mM_uD, mM_uDj, u2_dd, u2_d0, u2_0d]
          rfl
end TOK4
