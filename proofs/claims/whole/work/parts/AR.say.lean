/-! ===== painting: say ===== -/
theorem sh5 (u : Nat) (h : u < 1099511627776) : (Int64.ofNat u) >>> ((5 : Int32).toInt64 &&& 63) = Int64.ofNat (u / 32) := by
  have e5 : (5 : Int32).toInt64 &&& 63 = 5 := by decide
  rw [e5]
  apply Int64.toBitVec_inj.mp
  rw [Int64.toBitVec_shiftRight]
  have e : ((5 : Int64).toBitVec.smod 64).toNat = 5 := by decide
  show (BitVec.ofNat 64 u).sshiftRight ((5 : Int64).toBitVec.smod 64).toNat = BitVec.ofNat 64 (u / 32)
  rw [e, BitVec.sshiftRight_eq_of_msb_false]
  · apply BitVec.eq_of_toNat_eq
    rw [BitVec.toNat_ushiftRight, BitVec.toNat_ofNat, BitVec.toNat_ofNat, Nat.shiftRight_eq_div_pow, Nat.mod_eq_of_lt (by omega), Nat.mod_eq_of_lt (by omega)]
  · rw [BitVec.msb_eq_false_iff_two_mul_lt, BitVec.toNat_ofNat, Nat.mod_eq_of_lt (by omega)]
    omega
def inB (W H : Nat) (x y : Int32) : Bool := decide (¬ x < 0 ∧ x < Int32.ofNat W ∧ ¬ y < 0 ∧ y < Int32.ofNat H)
def bZ (q : Bool) : Int32 := if q = true then 1 else 0
def syP (W H : Nat) (ho : RW) (t x y : Int32) : Nat → Nat → Bool → RW → Bool × RW
  | 0, _, an, r => (an, r)
  | m + 1, k, an, r => syP W H ho t x y m (k + 1) (an || inB W H (x + Int32.ofNat k) y) (pd W H ho r (x + Int32.ofNat k) y t)
theorem syP_A {W H : Nat} {ho : RW} {t x y : Int32} : ∀ (m k : Nat) (an : Bool) (r r' : RW), A192 r r' → (syP W H ho t x y m k an r).1 = (syP W H ho t x y m k an r').1 ∧ A192 (syP W H ho t x y m k an r).2 (syP W H ho t x y m k an r').2 := by
  intro m
  induction m with
  | zero => intro k an r r' h; exact ⟨rfl, h⟩
  | succ m ih => intro k an r r' h; exact ih _ _ _ _ (pd_A h)
theorem pd_out {W H : Nat} {ho r : RW} {x y t : Int32} (h : inB W H x y = false) : pd W H ho r x y t = r := by
  unfold inB at h
  have h := of_decide_eq_false h
  exact if_neg (fun q => h ⟨q.1, q.2.1, q.2.2.1, q.2.2.2.1⟩)
theorem inB_n {W H : Nat} {x y : Int32} (hW : W ≤ 16) (hH : H ≤ 12) (h : inB W H x y = true) : ∃ kx ky, kx < W ∧ ky < H ∧ x = Int32.ofNat kx ∧ y = Int32.ofNat ky := by
  unfold inB at h
  obtain ⟨h1, h2, h3, h4⟩ := of_decide_eq_true h
  obtain ⟨kx, a1, rfl⟩ := nn_oN h1
  obtain ⟨ky, a2, rfl⟩ := nn_oN h3
  exact ⟨kx, ky, (oN_lt a1 (by omega)).mp h2, (oN_lt a2 (by omega)).mp h4, rfl, rfl⟩
/-- bits of the bars that are the word -/
def nsP (bars : Nat → Int64) (wd : Int64) : Nat → Nat → Int32 → Int32
  | 0, _, x => x
  | m + 1, i, x => nsP bars wd m (i + 1) (if bars i = wd then x ||| ((1 : Int32) <<< (Int32.ofNat i &&& 31)) else x)
theorem nsP_bt {bars : Nat → Int64} {wd : Int64} : ∀ (m i : Nat) (x : Int32), i + m ≤ 12 → ∀ j, j < 32 → bt (nsP bars wd m i x) j = (bt x j || decide (i ≤ j ∧ j < i + m ∧ bars j = wd)) := by
  intro m
  induction m with
  | zero =>
    intro i x _ j _
    have : ¬ (i ≤ j ∧ j < i + 0 ∧ bars j = wd) := fun q => by omega
    rw [decide_eq_false this, Bool.or_false]
    rfl
  | succ m ih =>
    intro i x hi j hj
    unfold nsP
    rw [ih (i + 1) _ (by omega) j hj]
    by_cases hb : bars i = wd
    · rw [if_pos hb, b_set (by omega) hj, Bool.or_assoc]
      congr 1
      by_cases hji : j = i
      · subst hji
        rw [decide_eq_true rfl, Bool.true_or, decide_eq_true ⟨Nat.le_refl _, by omega, hb⟩]
      · rw [decide_eq_false hji, Bool.false_or]
        exact decide_eq_decide.mpr ⟨fun q => ⟨by omega, by omega, q.2.2⟩, fun q => ⟨by omega, by omega, q.2.2⟩⟩
    · rw [if_neg hb]
      congr 1
      refine decide_eq_decide.mpr ⟨fun q => ⟨by omega, by omega, q.2.2⟩, fun q => ⟨?_, by omega, q.2.2⟩⟩
      rcases Nat.lt_or_ge i j with h | h
      · exact h
      · have : j = i := by omega
        subst this
        exact absurd q.2.2 hb
section SAY
variable {b : Nat} {F : Nat → Option AE} {D E : Nat → Option KD} {I : Nat → Nat → Int32} {L : Nat → Nat → Int64} {P : Nat → Nat → Option Nat} {nx us : Nat}
theorem X_holds {cv W H : Nat} {x y : Int32} (hcv : CV cv) (h1 : I cv 1 = Int32.ofNat W) (h2 : I cv 2 = Int32.ofNat H) : f_X0_holds (ad b cv) x y (lay b F E I L P nx us) = some (bZ (inB W H x y), (lay b F E I L P nx us)) := by
  unfold f_X0_holds f_X0_holds_28 f_X0_holds_29
  rw [if_pos (isO_s (CV_k hcv)), gI_s (CV_k hcv) (by decide), gI_s (CV_k hcv) (by decide), Option.bind_some, Option.bind_some, h1, h2]
  have f0 : ∀ {p : Prop} [Decidable p], ¬ p → bZ (decide p) = 0 := fun h => by rw [decide_eq_false h]; rfl
  unfold inB
  by_cases c1 : x < 0
  · rw [if_pos c1, f0 (fun q => q.1 c1)]; rfl
  · rw [if_neg c1]
    by_cases c2 : Int32.ofNat W ≤ x
    · rw [if_pos c2, f0 (fun q => absurd q.2.1 (Int32.not_lt.mpr c2))]; rfl
    · rw [if_neg c2]
      by_cases c3 : y < 0
      · rw [if_pos c3, f0 (fun q => q.2.2.1 c3)]; rfl
      · rw [if_neg c3]
        by_cases c4 : Int32.ofNat H ≤ y
        · rw [if_pos c4, f0 (fun q => absurd q.2.2.2 (Int32.not_lt.mpr c4))]; rfl
        · rw [if_neg c4, decide_eq_true ⟨c1, Int32.not_le.mp c2, c3, Int32.not_le.mp c4⟩]; rfl
theorem X_rel {cv k : Nat} (hcv : CV cv) (hk : k < 32) (h : I cv 12 = Int32.ofNat (k + 1)) : f_X0_release (ad b cv) (lay b F E I L P nx us) = some (I (cv + 4) k, lay b F E (u2 I cv (upd (I cv) 12 (Int32.ofNat k))) L P nx us) := by
  have e0 : (0 < Int32.ofNat (k + 1)) = True := eq_true ((oN_lt (a := 0) (by omega) (by omega)).mpr (by omega))
  have e1 : Int32.ofNat (k + 1) - 1 = Int32.ofNat k := oN_pred k
  have e2 : iN (Int32.ofNat k) 32 = some k := iN_oN hk (by omega)
  rcases hcv with rfl | rfl
  · simp (decide := true) only [f_X0_release, h, e0, e1, e2, isO_s, gI_s, gA_s, gL_s, pI_s, pZ_s, pL_s, aI_s, aL_s, aN_s, aQ_s, sI_s, sL_s, cr, LNs, Option.map_some, Option.map_none, Option.bind_some, b2, tr, lt, if_true, if_false, ckZ, X_within, M_in, inR_z, X_refuse, X_tell, X_deny, X_grant, M_refused, M_denied, M_done, M_granted, u2_same, u2_ne, u2_u2, upd_same, upd_ne, aW0, ixR_z, ixR_1, M_isWall, M_isPainter, M_isWork, X_has4, X_has10, X_at, or_false, false_or, or_true, true_or, not_true, not_false_iff, Option.isSome_some, isO_d, gI_d, gA_d, pI_d, ne_eq, not_false_eq_true, u2_hi, u2_hj, u2_dyn, u2_dynj, Nat.reduceAdd, mX_r, mX_rD, mX_rDj, mM_r, mX_u, mX_uM, mX_uD, mX_uDj, mM_u, mM_uX, mM_uD, mM_uDj, u2_dd, u2_d0, u2_0d]
  · simp (decide := true) only [f_X0_release, h, e0, e1, e2, isO_s, gI_s, gA_s, gL_s, pI_s, pZ_s, pL_s, aI_s, aL_s, aN_s, aQ_s, sI_s, sL_s, cr, LNs, Option.map_some, Option.map_none, Option.bind_some, b2, tr, lt, if_true, if_false, ckZ, X_within, M_in, inR_z, X_refuse, X_tell, X_deny, X_grant, M_refused, M_denied, M_done, M_granted, u2_same, u2_ne, u2_u2, upd_same, upd_ne, aW0, ixR_z, ixR_1, M_isWall, M_isPainter, M_isWork, X_has4, X_has10, X_at, or_false, false_or, or_true, true_or, not_true, not_false_iff, Option.isSome_some, isO_d, gI_d, gA_d, pI_d, ne_eq, not_false_eq_true, u2_hi, u2_hj, u2_dyn, u2_dynj, Nat.reduceAdd, mX_r, mX_rD, mX_rDj, mM_r, mX_u, mX_uM, mX_uD, mX_uDj, mM_u, mM_uX, mM_uD, mM_uDj, u2_dd, u2_d0, u2_0d]
theorem X_note {cv nb : Nat} {wd : Int64} (hcv : CV cv) (hnb : nb ≤ 12) : ∀ (m i : Nat) (I : Nat → Nat → Int32) (fu : Nat), i + m = nb → m < fu → I cv 8 = Int32.ofNat nb → f_X0_noteShown_2 fu (ad b cv) wd (Int32.ofNat i) (lay b F E I L P nx us) = some (lay b F E (u2 I cv (upd (I cv) 6 (nsP (L 53) wd m i (I cv 6)))) L P nx us) := by
  intro m
  have h53 : ∀ (I : Nat → Nat → Int32) (i : Nat), i < 12 → ((gA 0 (lay b F E I L P nx us) (ad b cv) 7).bind fun a2 => aL (lay b F E I L P nx us) a2 (Int32.ofNat i)) = some (L 53 i) := by
    intro I i hi
    rw [gA_cr (kdf_KT (CV_k hcv)) (by decide) (show cr 0 cv 7 = some 53 from rfl), Option.bind_some, aL_s (by decide)]
    have : iN (Int32.ofNat i) (ln 53) = some i := iN_oN hi (by omega)
    rw [this]
    rfl
  induction m with
  | zero =>
    intro i I fu hi hfu h8
    obtain ⟨fu, rfl⟩ : ∃ z, fu = z + 1 := ⟨fu - 1, by omega⟩
    unfold f_X0_noteShown_2 nsP
    rw [gI_s (CV_k hcv) (by decide), Option.bind_some, h8, if_pos (oN_leL (by omega) (by omega)), u2_idd rfl]
  | succ m ih =>
    intro i I fu hi hfu h8
    obtain ⟨fu, rfl⟩ : ∃ z, fu = z + 1 := ⟨fu - 1, by omega⟩
    have hb := h53 I i (by omega)
    rw [gA_cr (kdf_KT (CV_k hcv)) (by decide) (show cr 0 cv 7 = some 53 from rfl), Option.bind_some] at hb
    unfold f_X0_noteShown_2 nsP f_X0_noteShown_33
    rw [gI_s (CV_k hcv) (by decide), Option.bind_some, h8, if_neg (fun q => by have := (oN_le (by omega) (by omega)).mp q; omega), gA_cr (kdf_KT (CV_k hcv)) (by decide) (show cr 0 cv 7 = some 53 from rfl), Option.bind_some, hb, Option.bind_some]
    by_cases c : L 53 i = wd
    · rw [if_pos ((cmp_eq _ _).mpr c), if_pos c, gI_s (CV_k hcv) (by decide), Option.bind_some, pI_s (CV_k hcv) (by decide), Option.bind_some, oN_succ, ih (i + 1) _ fu (by omega) (by omega) (by rw [u2_same, upd_ne (by decide)]; exact h8), u2_same, upd_same, u2_u2, upd_upd]
    · rw [if_neg (fun q => c ((cmp_eq _ _).mp q)), if_neg c, oN_succ, ih (i + 1) I fu (by omega) (by omega) h8]
theorem X_saying {cv c W H tv wh v len : Nat} {x y : Int32} (hcv : CV cv) (hW : W ≤ 16) (hH : H ≤ 12) (hv : tv < 8) (hl : len ≤ 8) (hv1 : v < 32 ^ len) (hv2 : 32 ^ (len - 1) ≤ v) : ∀ (m k : Nat) (an : Bool) (I : Nat → Nat → Int32) (fu : Nat), k + m = len → m < fu → I cv 1 = Int32.ofNat W → I cv 2 = Int32.ofNat H → f_X0_say_39 fu (ad b cv) (ad b c) (Int32.ofNat tv) (Int32.ofNat wh) y x (bZ an) (Int64.ofNat (v / 32 ^ k)) (Int32.ofNat k) (lay b F E I L P nx us) = f_X0_say_94 (ad b cv) (ad b c) (Int32.ofNat wh) (bZ (syP W H (I (cv + 2)) (Int32.ofNat tv) x y m k an (I (cv + 1))).1) (lay b F E (u2 I (cv + 1) (syP W H (I (cv + 2)) (Int32.ofNat tv) x y m k an (I (cv + 1))).2) L P nx us) := by
  have h40 : (32 : Nat) ^ len ≤ 32 ^ 8 := Nat.pow_le_pow_right (by decide) hl
  have e40 : (32 : Nat) ^ 8 = 1099511627776 := by decide
  intro m
  induction m with
  | zero =>
    intro k an I fu hk hfu h1 h2
    obtain ⟨fu, rfl⟩ : ∃ z, fu = z + 1 := ⟨fu - 1, by omega⟩
    unfold f_X0_say_39 syP
    rw [u2_id]
    by_cases c8 : (8 : Int32) ≤ Int32.ofNat k
    · rw [if_pos c8]
    · have hz : v / 32 ^ k = 0 := by
        rw [show k = len by omega]
        exact Nat.div_eq_of_lt hv1
      rw [if_neg c8, hz, if_pos ((cmp_eq _ _).mpr rfl)]
  | succ m ih =>
    intro k an I fu hk hfu h1 h2
    obtain ⟨fu, rfl⟩ : ∃ z, fu = z + 1 := ⟨fu - 1, by omega⟩
    have hkv : 32 ^ k ≤ v := Nat.le_trans (Nat.pow_le_pow_right (by decide) (by omega)) hv2
    have hpos : 0 < v / 32 ^ k := Nat.div_pos hkv (Nat.pow_pos (by decide))
    have hle : v / 32 ^ k ≤ v := Nat.div_le_self _ _
    have hne : ¬ lg_cmp (Int64.ofNat (v / 32 ^ k)) (Int64.ofNat 0) = 0 := fun q => by
      have := i64_inj (by omega) (by omega) ((cmp_eq _ _).mp q)
      omega
    have c8 : ¬ (8 : Int32) ≤ Int32.ofNat k := fun q => by have := (oN_le (a := 8) (by omega) (by omega)).mp q; omega
    have hsh : Int64.ofNat (v / 32 ^ k) >>> ((5 : Int32).toInt64 &&& 63) = Int64.ofNat (v / 32 ^ (k + 1)) := by
      rw [sh5 _ (by omega), Nat.div_div_eq_div_mul, Nat.pow_succ]
    unfold f_X0_say_39 syP
    rw [if_neg c8, if_neg hne, X_holds hcv h1 h2, b2_p]
    have q82 : ∀ (sn : Int32) (h : AH), f_X0_say_82 (f_X0_say_39 fu) (ad b cv) (ad b c) (Int32.ofNat tv) (Int32.ofNat wh) y x sn (Int64.ofNat (v / 32 ^ k)) (Int32.ofNat k) h = f_X0_say_39 fu (ad b cv) (ad b c) (Int32.ofNat tv) (Int32.ofNat wh) y x sn (Int64.ofNat (v / 32 ^ (k + 1))) (Int32.ofNat (k + 1)) h := by
      intro sn h
      rw [← hsh, ← oN_succ]
      rfl
    cases hin : inB W H (x + Int32.ofNat k) y with
    | false =>
      rw [if_pos (show bZ false = 0 from rfl), q82, ih (k + 1) an I fu (by omega) (by omega) h1 h2, Bool.or_false, pd_out hin]
    | true =>
      obtain ⟨kx, ky, a1, a2, a3, a4⟩ := inB_n hW hH hin
      rw [if_neg (by decide), Bool.or_true]
      have hd := X_dot (b := b) (F := F) (E := E) (I := I) (L := L) (P := P) (nx := nx) (us := us) hcv h1 a1 a2 hW hH hv
      rw [← a3, ← a4] at hd
      rw [hd, Option.bind_some, q82]
      have := ih (k + 1) true (u2 I (cv + 1) (pd W H (I (cv + 2)) (I (cv + 1)) (x + Int32.ofNat k) y (Int32.ofNat tv))) fu (by omega) (by omega) (by rw [u2_ne (by omega)]; exact h1) (by rw [u2_ne (by omega)]; exact h2)
      rw [u2_same, u2_u2, u2_ne (show cv + 2 ≠ cv + 1 by omega)] at this
      exact this
end SAY
