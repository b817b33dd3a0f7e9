/-! ===== liked, vote, shows, unlike, pale ===== -/
theorem sm_upd {f g : Nat → Int32} {k : Nat} (h : ∀ j, j ≠ k → g j = f j) : ∀ (m i : Nat), i ≤ k → k < i + m → sm g i m = sm f i m + (g k - f k) := by
  intro m
  induction m with
  | zero => intro i h1 h2; omega
  | succ m ih =>
    intro i h1 h2
    show g i + sm g (i + 1) m = f i + sm f (i + 1) m + _
    by_cases hz : i = k
    · subst hz
      rw [sm_congr m (i + 1) (f := g) (g := f) (fun j h3 h4 => h j (by omega))]
      grind
    · rw [h i hz, ih (i + 1) (by omega) (by omega), Int32.add_assoc]
theorem sm_last (f : Nat → Int32) (m : Nat) : sm f 0 (m + 1) = sm f 0 m + f m := by
  rw [sm_split, Nat.zero_add]
  show _ = sm f 0 m + f m
  congr 1
  show f m + 0 = f m
  exact Int32.add_zero _
/-- the first place with p -/
def fnd (p : Nat → Prop) [DecidablePred p] : Nat → Nat → Nat
  | i, 0 => i
  | i, m + 1 => if p i then i else fnd p (i + 1) m
theorem lp_find {β : Type} {T : Nat → Int32 → Option β} {R : Nat → Option β} {p : Nat → Prop} [DecidablePred p] {N : Nat} (h1 : ∀ n, T (n + 1) (Int32.ofNat N) = R N) (h2 : ∀ n k, k < N → T (n + 1) (Int32.ofNat k) = if p k then R k else T n (Int32.ofNat (k + 1))) : ∀ (m i : Nat) (n : Nat), i + m = N → m < n → T n (Int32.ofNat i) = R (fnd p i m) := by
  intro m
  induction m with
  | zero =>
    intro i n hi hn
    obtain ⟨n, rfl⟩ : ∃ z, n = z + 1 := ⟨n - 1, by omega⟩
    have : i = N := by omega
    subst this
    exact h1 n
  | succ m ih =>
    intro i n hi hn
    obtain ⟨n, rfl⟩ : ∃ z, n = z + 1 := ⟨n - 1, by omega⟩
    rw [h2 n i (by omega)]
    show _ = R (if p i then i else fnd p (i + 1) m)
    by_cases hp : p i
    · rw [if_pos hp, if_pos hp]
    · rw [if_neg hp, if_neg hp]
      exact ih (i + 1) n (by omega) (by omega)
theorem fnd_congr {p q : Nat → Prop} [DecidablePred p] [DecidablePred q] : ∀ (m i : Nat), (∀ k, i ≤ k → k < i + m → (p k ↔ q k)) → fnd p i m = fnd q i m := by
  intro m
  induction m with
  | zero => intro i h; rfl
  | succ m ih =>
    intro i h
    show (if p i then i else fnd p (i + 1) m) = (if q i then i else fnd q (i + 1) m)
    rw [ih (i + 1) (fun k h1 h2 => h k (by omega) (by omega))]
    by_cases hp : p i
    · rw [if_pos hp, if_pos ((h i (by omega) (by omega)).mp hp)]
    · rw [if_neg hp, if_neg (fun hq => hp ((h i (by omega) (by omega)).mpr hq))]
theorem fnd_spec {p : Nat → Prop} [DecidablePred p] : ∀ (m i : Nat), i ≤ fnd p i m ∧ fnd p i m ≤ i + m ∧ (fnd p i m < i + m → p (fnd p i m)) ∧ ∀ k, i ≤ k → k < fnd p i m → ¬ p k := by
  intro m
  induction m with
  | zero => intro i; exact ⟨Nat.le_refl _, Nat.le_refl _, fun h => absurd h (Nat.lt_irrefl _), fun k h1 h2 => absurd h2 (by show ¬ k < i; omega)⟩
  | succ m ih =>
    intro i
    show i ≤ (if p i then i else fnd p (i + 1) m) ∧ _
    have hd : fnd p i (m + 1) = if p i then i else fnd p (i + 1) m := rfl
    rw [hd]
    by_cases hp : p i
    · rw [if_pos hp]
      exact ⟨Nat.le_refl _, by omega, fun _ => hp, fun k h1 h2 => by omega⟩
    · rw [if_neg hp]
      obtain ⟨a1, a2, a3, a4⟩ := ih (i + 1)
      refine ⟨by omega, by omega, fun h => a3 (by omega), fun k h1 h2 => ?_⟩
      by_cases hk : k = i
      · subst hk; exact hp
      · exact a4 k (by omega) h2
/-- two sums in one loop -/
theorem lp_sum2 {β : Type} {T : Nat → Int32 → Int32 → Int32 → Option β} {R : Int32 → Int32 → Option β} {f g : Nat → Int32} {N : Nat} (h1 : ∀ n a c, T (n + 1) a c (Int32.ofNat N) = R a c) (h2 : ∀ n a c k, k < N → T (n + 1) a c (Int32.ofNat k) = T n (a + f k) (c + g k) (Int32.ofNat (k + 1))) : ∀ (m i : Nat) (a c : Int32) (n : Nat), i + m = N → m < n → T n a c (Int32.ofNat i) = R (a + sm f i m) (c + sm g i m) := by
  intro m
  induction m with
  | zero =>
    intro i a c n hi hn
    obtain ⟨n, rfl⟩ : ∃ z, n = z + 1 := ⟨n - 1, by omega⟩
    have : i = N := by omega
    subst this
    rw [h1, sm_zero, sm_zero]
  | succ m ih =>
    intro i a c n hi hn
    obtain ⟨n, rfl⟩ : ∃ z, n = z + 1 := ⟨n - 1, by omega⟩
    rw [h2 n a c i (by omega), ih (i + 1) _ _ n (by omega) (by omega), sm_step, sm_step]
theorem upd_id {f : RW} {k : Nat} {x : Int32} (h : f k = x) : upd f k x = f := by
  funext j
  unfold upd
  split
  · rename_i q; rw [q, h]
  · rfl
def lkS (nv : Nat) (m113 m115 m116 m117 : RW) (p w : Nat) : Int32 := 10 * m113 (16 * p + w) + sm (fun k => if m115 k = Int32.ofNat p ∧ m116 k = Int32.ofNat w then m117 k else 0) 0 nv
section Q6
variable {b : Nat} {F : Nat → Option AE} {D E : Nat → Option KD} {I : Nat → Nat → Int32} {L : Nat → Nat → Int64} {P : Nat → Nat → Option Nat} {nx us : Nat}
theorem X_likedOn {np p w : Nat} (hn : I 5 0 = Int32.ofNat np) (h10 : np ≤ 10) (hp : p < np) (hw : w < 16) : f_X4_likedOn (ad b 5) (Int32.ofNat p) (Int32.ofNat w) (lay b F E I L P nx us) = some (I 9 (16 * p + w) * 10 + I 10 (16 * p + w), (lay b F E I L P nx us)) := by
  have e1 := oN_neg (w := p) (by omega)
  have e2 := oN_leF hp (by omega)
  have e3 : Int32.ofNat np ≤ 10 := oN_leL h10 (by decide)
  have e4 : ¬ (Int32.ofNat w < 0 ∨ (16 : Int32) ≤ Int32.ofNat w) := by
    rw [oN_neg (by omega), show ((16 : Int32) ≤ Int32.ofNat w) = False from oN_leF (c := 16) hw (by omega)]
    simp
  have e5 : iN (Int32.ofNat (16 * p + w)) 160 = some (16 * p + w) := iN_oN (by omega) (by omega)
  simp (decide := true) only [f_X4_likedOn, f_X4_pairOf, X_isPair, hn, e1, e2, e3, e4, ix16', e5, isO_s, gI_s, gA_s, gL_s, pI_s, pZ_s, pL_s, aI_s, aL_s, aN_s, aQ_s, sI_s, sL_s, cr, LNs, Option.map_some, Option.map_none, Option.bind_some, b2, tr, lt, if_true, if_false, ckZ, X_within, M_in, inR_z, X_refuse, X_tell, X_deny, X_grant, M_refused, M_denied, M_done, M_granted, u2_same, u2_ne, u2_u2, upd_same, upd_ne, aW0, ixR_z, ixR_1, M_isWall, M_isPainter, M_isWork, X_has4, X_has10, X_at, or_false, false_or, or_true, true_or, not_true, not_false_iff, Option.isSome_some, isO_d, gI_d, gA_d, pI_d, ne_eq, not_false_eq_true, u2_hi, u2_hj, u2_dyn, u2_dynj, Nat.reduceAdd]
theorem M_likedOf {nv p w : Nat} (hn : I 72 59 = Int32.ofNat nv) (h300 : nv ≤ 300) (hp : p < 10) (hw : w < 16) : f_X15_likedOf (ad b 72) (Int32.ofNat p) (Int32.ofNat w) (lay b F E I L P nx us) = some (lkS nv (I 113) (I 115) (I 116) (I 117) p w, (lay b F E I L P nx us)) := by
  have e5 : iN (Int32.ofNat (16 * p + w)) 160 = some (16 * p + w) := iN_oN (by omega) (by omega)
  simp (decide := true) only [f_X15_likedOf_61, f_X15_likedOf_60, f_X15_likedOf, ix16, e5, isO_s, gI_s, gA_s, gL_s, pI_s, pZ_s, pL_s, aI_s, aL_s, aN_s, aQ_s, sI_s, sL_s, cr, LNs, Option.map_some, Option.map_none, Option.bind_some, b2, tr, lt, if_true, if_false, ckZ, X_within, M_in, inR_z, X_refuse, X_tell, X_deny, X_grant, M_refused, M_denied, M_done, M_granted, u2_same, u2_ne, u2_u2, upd_same, upd_ne, aW0, ixR_z, ixR_1, M_isWall, M_isPainter, M_isWork, X_has4, X_has10, X_at, or_false, false_or, or_true, true_or, not_true, not_false_iff, Option.isSome_some, isO_d, gI_d, gA_d, pI_d, ne_eq, not_false_eq_true, u2_hi, u2_hj, u2_dyn, u2_dynj, Nat.reduceAdd]
  have := lp_sum (T := fun n a' k => f_X15_likedOf_18 n (ad b 72) (Int32.ofNat p) (Int32.ofNat w) a' k (lay b F E I L P nx us)) (R := fun a => some (a, (lay b F E I L P nx us))) (f := fun k => if I 115 k = Int32.ofNat p ∧ I 116 k = Int32.ofNat w then I 117 k else 0) (N := nv) (by omega) ?_ ?_ nv 0 (10 * I 113 (16 * p + w)) FU (by omega) (by unfold FU; omega)
  · exact this
  · intro n' a'
    simp (decide := true) only [f_X15_likedOf_18, hn, Int32.le_refl, isO_s, gI_s, gA_s, gL_s, pI_s, pZ_s, pL_s, aI_s, aL_s, aN_s, aQ_s, sI_s, sL_s, cr, LNs, Option.map_some, Option.map_none, Option.bind_some, b2, tr, lt, if_true, if_false, ckZ, X_within, M_in, inR_z, X_refuse, X_tell, X_deny, X_grant, M_refused, M_denied, M_done, M_granted, u2_same, u2_ne, u2_u2, upd_same, upd_ne, aW0, ixR_z, ixR_1, M_isWall, M_isPainter, M_isWork, X_has4, X_has10, X_at, or_false, false_or, or_true, true_or, not_true, not_false_iff, Option.isSome_some, isO_d, gI_d, gA_d, pI_d, ne_eq, not_false_eq_true, u2_hi, u2_hj, u2_dyn, u2_dynj, Nat.reduceAdd]
  · intro n' a' k hk
    have e2 := oN_leF hk (by omega)
    have e3 : iN (Int32.ofNat k) 300 = some k := iN_oN (by omega) (by omega)
    show f_X15_likedOf_18 (n' + 1) (ad b 72) (Int32.ofNat p) (Int32.ofNat w) a' (Int32.ofNat k) (lay b F E I L P nx us) = _
    simp (decide := true) only [f_X15_likedOf_18, f_X15_likedOf_60, f_X15_likedOf_61, hn, e2, e3, oN_succ, isO_s, gI_s, gA_s, gL_s, pI_s, pZ_s, pL_s, aI_s, aL_s, aN_s, aQ_s, sI_s, sL_s, cr, LNs, Option.map_some, Option.map_none, Option.bind_some, b2, tr, lt, if_true, if_false, ckZ, X_within, M_in, inR_z, X_refuse, X_tell, X_deny, X_grant, M_refused, M_denied, M_done, M_granted, u2_same, u2_ne, u2_u2, upd_same, upd_ne, aW0, ixR_z, ixR_1, M_isWall, M_isPainter, M_isWork, X_has4, X_has10, X_at, or_false, false_or, or_true, true_or, not_true, not_false_iff, Option.isSome_some, isO_d, gI_d, gA_d, pI_d, ne_eq, not_false_eq_true, u2_hi, u2_hj, u2_dyn, u2_dynj, Nat.reduceAdd]
    by_cases h1 : I 115 k = Int32.ofNat p
    · by_cases h2 : I 116 k = Int32.ofNat w
      · simp only [h1, h2, and_self, if_true]
      · simp only [h1, h2, and_false, if_true, if_false, Int32.add_zero]
    · simp only [h1, false_and, if_false, Int32.add_zero]
theorem lk_eq {nv np nw p w : Nat} {x9 x10 x11 x12 m113 m114 m115 m116 m117 : RW} (hp : p < 10) (hw : w < 16) (hW : GWis x9 m113) (hV : GVot nv np nw x10 x11 x12 m114 m115 m116 m117) : x9 (16 * p + w) * 10 + x10 (16 * p + w) = lkS nv m113 m115 m116 m117 p w := by
  unfold lkS
  rw [← hV.2.2 p w hp hw, (hW (16 * p + w) (by omega)).1, Nat.mul_comm p 16, Int32.mul_comm]
theorem call_liked (x y : Int32) {nv np nw : Nat} {q wd hg ow : Nat → Nat} (hn : Cn np 10 (I 5 0) (I 72 58)) (hnw : Cn nw 16 (I 1 1) (I 72 4)) (hnv : Cn nv 300 (I 5 6) (I 72 59)) (hA : WA nw q wd hg ow E (P 2)) (hW : GWis (I 9) (I 113)) (hV : GVot nv np nw (I 10) (I 11) (I 12) (I 114) (I 115) (I 116) (I 117)) : Run b F E L P nx us (f_X11_liked (ad b 0) x y) (f_X15_liked (ad b 72) x y) I (th I) := by
  obtain ⟨hn1, hn2, hn3⟩ := hn
  have h10 : Int32.ofNat np ≤ 10 := oN_leL hn1 (by decide)
  rcases ixc x (n := np) (by omega) with hp | ⟨k, hk, rfl⟩
  · exact ⟨-1, I, by (simp (decide := true) only [f_X11_liked_22, f_X11_liked, h10, hn2, hp, isO_s, gI_s, gA_s, gL_s, pI_s, pZ_s, pL_s, aI_s, aL_s, aN_s, aQ_s, sI_s, sL_s, cr, LNs, Option.map_some, Option.map_none, Option.bind_some, b2, tr, lt, if_true, if_false, ckZ, X_within, M_in, inR_z, X_refuse, X_tell, X_deny, X_grant, M_refused, M_denied, M_done, M_granted, u2_same, u2_ne, u2_u2, upd_same, upd_ne, aW0, ixR_z, ixR_1, M_isWall, M_isPainter, M_isWork, X_has4, X_has10, X_at, or_false, false_or, or_true, true_or, not_true, not_false_iff, Option.isSome_some, isO_d, gI_d, gA_d, pI_d, ne_eq, not_false_eq_true, u2_hi, u2_hj, u2_dyn, u2_dynj, Nat.reduceAdd]; try exact rfl), by (simp (decide := true) only [f_X15_liked_31, f_X15_liked_30, f_X15_liked, hn3, hp, isO_s, gI_s, gA_s, gL_s, pI_s, pZ_s, pL_s, aI_s, aL_s, aN_s, aQ_s, sI_s, sL_s, cr, LNs, Option.map_some, Option.map_none, Option.bind_some, b2, tr, lt, if_true, if_false, ckZ, X_within, M_in, inR_z, X_refuse, X_tell, X_deny, X_grant, M_refused, M_denied, M_done, M_granted, u2_same, u2_ne, u2_u2, upd_same, upd_ne, aW0, ixR_z, ixR_1, M_isWall, M_isPainter, M_isWork, X_has4, X_has10, X_at, or_false, false_or, or_true, true_or, not_true, not_false_iff, Option.isSome_some, isO_d, gI_d, gA_d, pI_d, ne_eq, not_false_eq_true, u2_hi, u2_hj, u2_dyn, u2_dynj, Nat.reduceAdd]; try exact rfl)⟩
  have e1 := oN_neg (w := k) (by omega)
  have e2 := oN_leF hk (by omega)
  rcases wallCase hnw hA y with ⟨h1, h2⟩ | ⟨w, hw, rfl, h1, h2⟩
  · have h2' : (y < 0 ∨ I 72 4 ≤ y) := by rw [← ixR_z]; exact h2
    exact ⟨-1, I, by (simp (decide := true) only [f_X11_liked_22, f_X11_liked, h10, hn2, e1, e2, h1, isO_s, gI_s, gA_s, gL_s, pI_s, pZ_s, pL_s, aI_s, aL_s, aN_s, aQ_s, sI_s, sL_s, cr, LNs, Option.map_some, Option.map_none, Option.bind_some, b2, tr, lt, if_true, if_false, ckZ, X_within, M_in, inR_z, X_refuse, X_tell, X_deny, X_grant, M_refused, M_denied, M_done, M_granted, u2_same, u2_ne, u2_u2, upd_same, upd_ne, aW0, ixR_z, ixR_1, M_isWall, M_isPainter, M_isWork, X_has4, X_has10, X_at, or_false, false_or, or_true, true_or, not_true, not_false_iff, Option.isSome_some, isO_d, gI_d, gA_d, pI_d, ne_eq, not_false_eq_true, u2_hi, u2_hj, u2_dyn, u2_dynj, Nat.reduceAdd]; try exact rfl), by (simp (decide := true) only [f_X15_liked_31, f_X15_liked_30, f_X15_liked, hn3, e1, e2, h2', isO_s, gI_s, gA_s, gL_s, pI_s, pZ_s, pL_s, aI_s, aL_s, aN_s, aQ_s, sI_s, sL_s, cr, LNs, Option.map_some, Option.map_none, Option.bind_some, b2, tr, lt, if_true, if_false, ckZ, X_within, M_in, inR_z, X_refuse, X_tell, X_deny, X_grant, M_refused, M_denied, M_done, M_granted, u2_same, u2_ne, u2_u2, upd_same, upd_ne, aW0, ixR_z, ixR_1, M_isWall, M_isPainter, M_isWork, X_has4, X_has10, X_at, or_false, false_or, or_true, true_or, not_true, not_false_iff, Option.isSome_some, isO_d, gI_d, gA_d, pI_d, ne_eq, not_false_eq_true, u2_hi, u2_hj, u2_dyn, u2_dynj, Nat.reduceAdd]; try exact rfl)⟩
  have h2' : ¬ (Int32.ofNat w < 0 ∨ I 72 4 ≤ Int32.ofNat w) := by rw [← ixR_z, h2]; decide
  have hw16 : w < 16 := by have := hnw.1; omega
  have hm := M_likedOf (b := b) (F := F) (E := E) (L := L) (P := P) (nx := nx) (us := us) (I := th I) (nv := nv) (p := k) (w := w) (by simp (decide := true) only [th, isO_s, gI_s, gA_s, gL_s, pI_s, pZ_s, pL_s, aI_s, aL_s, aN_s, aQ_s, sI_s, sL_s, cr, LNs, Option.map_some, Option.map_none, Option.bind_some, b2, tr, lt, if_true, if_false, ckZ, X_within, M_in, inR_z, X_refuse, X_tell, X_deny, X_grant, M_refused, M_denied, M_done, M_granted, u2_same, u2_ne, u2_u2, upd_same, upd_ne, aW0, ixR_z, ixR_1, M_isWall, M_isPainter, M_isWork, X_has4, X_has10, X_at, or_false, false_or, or_true, true_or, not_true, not_false_iff, Option.isSome_some, isO_d, gI_d, gA_d, pI_d, ne_eq, not_false_eq_true, u2_hi, u2_hj, u2_dyn, u2_dynj, Nat.reduceAdd]; exact hnv.2.2) hnv.1 (by omega) hw16
  unfold th at hm
  refine ⟨lkS nv (I 113) (I 115) (I 116) (I 117) k w, I, ?_, ?_⟩
  · (simp (decide := true) only [f_X11_liked_22, f_X11_liked, h10, hn2, e1, e2, h1, X_likedOn hn2 hn1 hk hw16, lk_eq (p := k) (w := w) (by omega) hw16 hW hV, isO_s, gI_s, gA_s, gL_s, pI_s, pZ_s, pL_s, aI_s, aL_s, aN_s, aQ_s, sI_s, sL_s, cr, LNs, Option.map_some, Option.map_none, Option.bind_some, b2, tr, lt, if_true, if_false, ckZ, X_within, M_in, inR_z, X_refuse, X_tell, X_deny, X_grant, M_refused, M_denied, M_done, M_granted, u2_same, u2_ne, u2_u2, upd_same, upd_ne, aW0, ixR_z, ixR_1, M_isWall, M_isPainter, M_isWork, X_has4, X_has10, X_at, or_false, false_or, or_true, true_or, not_true, not_false_iff, Option.isSome_some, isO_d, gI_d, gA_d, pI_d, ne_eq, not_false_eq_true, u2_hi, u2_hj, u2_dyn, u2_dynj, Nat.reduceAdd]; try exact rfl)
  · (simp (decide := true) only [f_X15_liked_31, f_X15_liked_30, f_X15_liked, hn3, e1, e2, h2', hm, isO_s, gI_s, gA_s, gL_s, pI_s, pZ_s, pL_s, aI_s, aL_s, aN_s, aQ_s, sI_s, sL_s, cr, LNs, Option.map_some, Option.map_none, Option.bind_some, b2, tr, lt, if_true, if_false, ckZ, X_within, M_in, inR_z, X_refuse, X_tell, X_deny, X_grant, M_refused, M_denied, M_done, M_granted, u2_same, u2_ne, u2_u2, upd_same, upd_ne, aW0, ixR_z, ixR_1, M_isWall, M_isPainter, M_isWork, X_has4, X_has10, X_at, or_false, false_or, or_true, true_or, not_true, not_false_iff, Option.isSome_some, isO_d, gI_d, gA_d, pI_d, ne_eq, not_false_eq_true, u2_hi, u2_hj, u2_dyn, u2_dynj, Nat.reduceAdd]; try exact rfl)
theorem keyE {p w v p' w' v' : Nat} (hw : w < 16) (hv : v < 100) (hw' : w' < 16) (hv' : v' < 100) (hp : p < 10) (hp' : p' < 10) : Int32.ofNat ((p * 16 + w) * 100 + v) = Int32.ofNat ((p' * 16 + w') * 100 + v') ↔ p = p' ∧ w = w' ∧ v = v' := by
  rw [oN_eq (by omega) (by omega)]
  omega
theorem X_vfind (v pr ky : Int32) {nv : Nat} (hn : I 5 6 = Int32.ofNat nv) (h300 : nv ≤ 300) : f_X4_takeVote_30 FU (ad b 5) v pr ky 0 (lay b F E I L P nx us) = f_X4_takeVote_57 (ad b 5) v pr ky (Int32.ofNat (fnd (fun k => I 11 k = ky) 0 nv)) (lay b F E I L P nx us) := by
  refine lp_find (T := fun n k => f_X4_takeVote_30 n (ad b 5) v pr ky k (lay b F E I L P nx us)) (R := fun k => f_X4_takeVote_57 (ad b 5) v pr ky (Int32.ofNat k) (lay b F E I L P nx us)) (p := fun k => I 11 k = ky) (N := nv) ?_ ?_ nv 0 FU (by omega) (by unfold FU; omega)
  · intro n'
    simp (decide := true) only [f_X4_takeVote_30, hn, Int32.le_refl, isO_s, gI_s, gA_s, gL_s, pI_s, pZ_s, pL_s, aI_s, aL_s, aN_s, aQ_s, sI_s, sL_s, cr, LNs, Option.map_some, Option.map_none, Option.bind_some, b2, tr, lt, if_true, if_false, ckZ, X_within, M_in, inR_z, X_refuse, X_tell, X_deny, X_grant, M_refused, M_denied, M_done, M_granted, u2_same, u2_ne, u2_u2, upd_same, upd_ne, aW0, ixR_z, ixR_1, M_isWall, M_isPainter, M_isWork, X_has4, X_has10, X_at, or_false, false_or, or_true, true_or, not_true, not_false_iff, Option.isSome_some, isO_d, gI_d, gA_d, pI_d, ne_eq, not_false_eq_true, u2_hi, u2_hj, u2_dyn, u2_dynj, Nat.reduceAdd]
  · intro n' k hk
    have e2 := oN_leF hk (by omega)
    have e3 : iN (Int32.ofNat k) 300 = some k := iN_oN (by omega) (by omega)
    show f_X4_takeVote_30 (n' + 1) (ad b 5) v pr ky (Int32.ofNat k) (lay b F E I L P nx us) = _
    simp (decide := true) only [f_X4_takeVote_30, hn, e2, e3, oN_succ, isO_s, gI_s, gA_s, gL_s, pI_s, pZ_s, pL_s, aI_s, aL_s, aN_s, aQ_s, sI_s, sL_s, cr, LNs, Option.map_some, Option.map_none, Option.bind_some, b2, tr, lt, if_true, if_false, ckZ, X_within, M_in, inR_z, X_refuse, X_tell, X_deny, X_grant, M_refused, M_denied, M_done, M_granted, u2_same, u2_ne, u2_u2, upd_same, upd_ne, aW0, ixR_z, ixR_1, M_isWall, M_isPainter, M_isWork, X_has4, X_has10, X_at, or_false, false_or, or_true, true_or, not_true, not_false_iff, Option.isSome_some, isO_d, gI_d, gA_d, pI_d, ne_eq, not_false_eq_true, u2_hi, u2_hj, u2_dyn, u2_dynj, Nat.reduceAdd]
theorem M_vfind (u x y v : Int32) {nv : Nat} (hn : I 72 59 = Int32.ofNat nv) (h300 : nv ≤ 300) : f_X15_vote_72 FU (ad b 72) u x y v 0 (lay b F E I L P nx us) = f_X15_vote_120 (ad b 72) u x y v (Int32.ofNat (fnd (fun k => I 114 k = u ∧ I 115 k = x ∧ I 116 k = y) 0 nv)) (lay b F E I L P nx us) := by
  refine lp_find (T := fun n k => f_X15_vote_72 n (ad b 72) u x y v k (lay b F E I L P nx us)) (R := fun k => f_X15_vote_120 (ad b 72) u x y v (Int32.ofNat k) (lay b F E I L P nx us)) (p := fun k => I 114 k = u ∧ I 115 k = x ∧ I 116 k = y) (N := nv) ?_ ?_ nv 0 FU (by omega) (by unfold FU; omega)
  · intro n'
    simp (decide := true) only [f_X15_vote_72, hn, Int32.le_refl, isO_s, gI_s, gA_s, gL_s, pI_s, pZ_s, pL_s, aI_s, aL_s, aN_s, aQ_s, sI_s, sL_s, cr, LNs, Option.map_some, Option.map_none, Option.bind_some, b2, tr, lt, if_true, if_false, ckZ, X_within, M_in, inR_z, X_refuse, X_tell, X_deny, X_grant, M_refused, M_denied, M_done, M_granted, u2_same, u2_ne, u2_u2, upd_same, upd_ne, aW0, ixR_z, ixR_1, M_isWall, M_isPainter, M_isWork, X_has4, X_has10, X_at, or_false, false_or, or_true, true_or, not_true, not_false_iff, Option.isSome_some, isO_d, gI_d, gA_d, pI_d, ne_eq, not_false_eq_true, u2_hi, u2_hj, u2_dyn, u2_dynj, Nat.reduceAdd]
  · intro n' k hk
    have e2 := oN_leF hk (by omega)
    have e3 : iN (Int32.ofNat k) 300 = some k := iN_oN (by omega) (by omega)
    show f_X15_vote_72 (n' + 1) (ad b 72) u x y v (Int32.ofNat k) (lay b F E I L P nx us) = _
    simp (decide := true) only [f_X15_vote_72, f_X15_vote_114, hn, e2, e3, oN_succ, isO_s, gI_s, gA_s, gL_s, pI_s, pZ_s, pL_s, aI_s, aL_s, aN_s, aQ_s, sI_s, sL_s, cr, LNs, Option.map_some, Option.map_none, Option.bind_some, b2, tr, lt, if_true, if_false, ckZ, X_within, M_in, inR_z, X_refuse, X_tell, X_deny, X_grant, M_refused, M_denied, M_done, M_granted, u2_same, u2_ne, u2_u2, upd_same, upd_ne, aW0, ixR_z, ixR_1, M_isWall, M_isPainter, M_isWork, X_has4, X_has10, X_at, or_false, false_or, or_true, true_or, not_true, not_false_iff, Option.isSome_some, isO_d, gI_d, gA_d, pI_d, ne_eq, not_false_eq_true, u2_hi, u2_hj, u2_dyn, u2_dynj, Nat.reduceAdd]
    by_cases c1 : I 114 k = u
    · by_cases c2 : I 115 k = x
      · by_cases c3 : I 116 k = y
        · simp only [c1, c2, c3, and_self, if_true]
        · simp only [c1, c2, c3, and_false, if_true, if_false]
      · simp only [c1, c2, false_and, and_false, if_true, if_false]
    · simp only [c1, false_and, if_false]
/-- the votes behind one that was there -/
theorem GVot.old {nv np nw K p w n : Nat} {v : Int32} {x10 x11 x12 m114 m115 m116 m117 : RW} (hV : GVot nv np nw x10 x11 x12 m114 m115 m116 m117) (hK : K < nv) (hp : p < np) (h10 : np ≤ 10) (hw : w < nw) (h16 : nw ≤ 16) (hn : n < 100) (hv : 0 ≤ v ∧ v ≤ 5) (hk : x11 K = Int32.ofNat ((p * 16 + w) * 100 + n)) : GVot nv np nw (upd x10 (p * 16 + w) (x10 (p * 16 + w) + (v - x12 K))) x11 (upd x12 K v) (upd m114 K (Int32.ofNat n)) (upd m115 K (Int32.ofNat p)) (upd m116 K (Int32.ofNat w)) (upd m117 K v) := by
  obtain ⟨h1, h2, h3⟩ := hV
  obtain ⟨p', w', n', g1, g2, g3, g4, g5, g6, g7, g8, g9⟩ := h1 K hK
  rw [g7, keyE (by omega) g3 (by omega) hn (by omega) (by omega)] at hk
  obtain ⟨rfl, rfl, rfl⟩ := hk
  have e1 : upd m114 K (Int32.ofNat n') = m114 := upd_id g4
  have e2 : upd m115 K (Int32.ofNat p') = m115 := upd_id g5
  have e3 : upd m116 K (Int32.ofNat w') = m116 := upd_id g6
  rw [e1, e2, e3]
  refine ⟨?_, h2, ?_⟩
  · intro k hk
    by_cases hz : k = K
    · subst hz
      rw [upd_same, upd_same]
      exact ⟨p', w', n', g1, g2, g3, g4, g5, g6, g7, rfl, hv⟩
    · rw [upd_ne hz, upd_ne hz]
      exact h1 k hk
  · intro a c ha hc
    have hs := sm_upd (f := fun k => if m115 k = Int32.ofNat a ∧ m116 k = Int32.ofNat c then m117 k else 0) (g := fun k => if m115 k = Int32.ofNat a ∧ m116 k = Int32.ofNat c then upd m117 K v k else 0) (k := K) (fun j hj => by simp only [upd_ne hj]) nv 0 (by omega) (by omega)
    rw [hs]
    by_cases hz : a = p' ∧ c = w'
    · obtain ⟨rfl, rfl⟩ := hz
      rw [upd_same, h3 a c ha hc]
      simp only [g5, g6, and_self, if_true, upd_same, g8]
    · have hne : ¬ (m115 K = Int32.ofNat a ∧ m116 K = Int32.ofNat c) := by
        rw [g5, g6, oN_eq (by omega) (by omega), oN_eq (by omega) (by omega)]
        intro q; exact hz ⟨q.1.symm, q.2.symm⟩
      rw [upd_ne (show a * 16 + c ≠ p' * 16 + w' by omega), h3 a c ha hc]
      simp only [hne, if_false, Int32.sub_self, Int32.add_zero]
/-- the votes behind a new one -/
theorem GVot.new {nv np nw p w n : Nat} {v : Int32} {x10 x11 x12 m114 m115 m116 m117 : RW} (hV : GVot nv np nw x10 x11 x12 m114 m115 m116 m117) (hp : p < np) (h10 : np ≤ 10) (hw : w < nw) (h16 : nw ≤ 16) (hn : n < 100) (hv : 0 ≤ v ∧ v ≤ 5) (hk : ∀ k, k < nv → x11 k ≠ Int32.ofNat ((p * 16 + w) * 100 + n)) : GVot (nv + 1) np nw (upd x10 (p * 16 + w) (x10 (p * 16 + w) + (v - 0))) (upd x11 nv (Int32.ofNat ((p * 16 + w) * 100 + n))) (upd x12 nv v) (upd m114 nv (Int32.ofNat n)) (upd m115 nv (Int32.ofNat p)) (upd m116 nv (Int32.ofNat w)) (upd m117 nv v) := by
  obtain ⟨h1, h2, h3⟩ := hV
  refine ⟨?_, ?_, ?_⟩
  · intro k hk'
    by_cases hz : k = nv
    · subst hz
      simp only [upd_same]
      exact ⟨p, w, n, hp, hw, hn, rfl, rfl, rfl, rfl, trivial, hv⟩
    · simp only [upd_ne hz]
      exact h1 k (by omega)
  · intro j k hj hk'
    rw [upd_ne (show j ≠ nv by omega)]
    by_cases hz : k = nv
    · subst hz
      rw [upd_same]
      exact hk j hj
    · rw [upd_ne hz]
      exact h2 j k hj (by omega)
  · intro a c ha hc
    rw [sm_last]
    have hs : sm (fun k => if upd m115 nv (Int32.ofNat p) k = Int32.ofNat a ∧ upd m116 nv (Int32.ofNat w) k = Int32.ofNat c then upd m117 nv v k else 0) 0 nv = sm (fun k => if m115 k = Int32.ofNat a ∧ m116 k = Int32.ofNat c then m117 k else 0) 0 nv := by
      refine sm_congr _ _ ?_
      intro k _ hk'
      have : k ≠ nv := by omega
      simp only [upd_ne this]
    rw [hs, ← h3 a c ha hc]
    simp only [upd_same]
    by_cases hz : a = p ∧ c = w
    · obtain ⟨rfl, rfl⟩ := hz
      rw [upd_same]
      simp only [and_self, if_true, Int32.sub_zero]
    · have hne : ¬ (Int32.ofNat p = Int32.ofNat a ∧ Int32.ofNat w = Int32.ofNat c) := by
        rw [oN_eq (by omega) (by omega), oN_eq (by omega) (by omega)]
        intro q; exact hz ⟨q.1.symm, q.2.symm⟩
      rw [upd_ne (show a * 16 + c ≠ p * 16 + w by omega)]
      simp only [hne, if_false, Int32.add_zero]
theorem call_vote (u x y v : Int32) {nv np nw : Nat} {q wd hg ow : Nat → Nat} (hT : GTI I) (hn : Cn np 10 (I 5 0) (I 72 58)) (hnw : Cn nw 16 (I 1 1) (I 72 4)) (hnv : Cn nv 300 (I 5 6) (I 72 59)) (hA : WA nw q wd hg ow E (P 2)) (hPa : GPai np (I 6) (I 7) (I 111) (I 112)) (hV : GVot nv np nw (I 10) (I 11) (I 12) (I 114) (I 115) (I 116) (I 117)) : RunS b F E L P nx us (f_X11_vote (ad b 0) u x y v) (f_X15_vote (ad b 72) u x y v) I (fun I2 => ∃ nv2, Cn nv2 300 (I2 5 6) (I2 72 59) ∧ GVot nv2 np nw (I2 10) (I2 11) (I2 12) (I2 114) (I2 115) (I2 116) (I2 117) ∧ Fr I I2 [(0, 16), (5, 6), (72, 0), (72, 1), (72, 2), (72, 59)] [10, 11, 12, 114, 115, 116, 117]) := by
  obtain ⟨hn1, hn2, hn3⟩ := hn
  have h10 : Int32.ofNat np ≤ 10 := oN_leL hn1 (by decide)
  rcases ixc x (n := np) (by omega) with hp | ⟨p, hp, rfl⟩
  · exact Or.inl ⟨1, by decide, 0, u2 I 0 (upd (I 0) 16 1), by (simp (decide := true) only [f_X11_vote_48, f_X11_vote_22, f_X11_vote, h10, hn2, hp, isO_s, gI_s, gA_s, gL_s, pI_s, pZ_s, pL_s, aI_s, aL_s, aN_s, aQ_s, sI_s, sL_s, cr, LNs, Option.map_some, Option.map_none, Option.bind_some, b2, tr, lt, if_true, if_false, ckZ, X_within, M_in, inR_z, X_refuse, X_tell, X_deny, X_grant, M_refused, M_denied, M_done, M_granted, u2_same, u2_ne, u2_u2, upd_same, upd_ne, aW0, ixR_z, ixR_1, M_isWall, M_isPainter, M_isWork, X_has4, X_has10, X_at, or_false, false_or, or_true, true_or, not_true, not_false_iff, Option.isSome_some, isO_d, gI_d, gA_d, pI_d, ne_eq, not_false_eq_true, u2_hi, u2_hj, u2_dyn, u2_dynj, Nat.reduceAdd]; try exact rfl), by (simp (decide := true) only [f_X15_vote_120, f_X15_vote_114, f_X15_vote_47, f_X15_vote_21, f_X15_vote, hn3, hp, isO_s, gI_s, gA_s, gL_s, pI_s, pZ_s, pL_s, aI_s, aL_s, aN_s, aQ_s, sI_s, sL_s, cr, LNs, Option.map_some, Option.map_none, Option.bind_some, b2, tr, lt, if_true, if_false, ckZ, X_within, M_in, inR_z, X_refuse, X_tell, X_deny, X_grant, M_refused, M_denied, M_done, M_granted, u2_same, u2_ne, u2_u2, upd_same, upd_ne, aW0, ixR_z, ixR_1, M_isWall, M_isPainter, M_isWork, X_has4, X_has10, X_at, or_false, false_or, or_true, true_or, not_true, not_false_iff, Option.isSome_some, isO_d, gI_d, gA_d, pI_d, ne_eq, not_false_eq_true, u2_hi, u2_hj, u2_dyn, u2_dynj, Nat.reduceAdd]; try exact rfl)⟩
  have e1 := oN_neg (w := p) (by omega)
  have e2 := oN_leF hp (by omega)
  rcases wallCase hnw hA y with ⟨h1, h2⟩ | ⟨w, hw, rfl, h1, h2⟩
  · have h2' : (y < 0 ∨ I 72 4 ≤ y) := by rw [← ixR_z]; exact h2
    exact Or.inl ⟨1, by decide, 0, u2 I 0 (upd (I 0) 16 1), by (simp (decide := true) only [f_X11_vote_48, f_X11_vote_22, f_X11_vote, h10, hn2, e1, e2, h1, isO_s, gI_s, gA_s, gL_s, pI_s, pZ_s, pL_s, aI_s, aL_s, aN_s, aQ_s, sI_s, sL_s, cr, LNs, Option.map_some, Option.map_none, Option.bind_some, b2, tr, lt, if_true, if_false, ckZ, X_within, M_in, inR_z, X_refuse, X_tell, X_deny, X_grant, M_refused, M_denied, M_done, M_granted, u2_same, u2_ne, u2_u2, upd_same, upd_ne, aW0, ixR_z, ixR_1, M_isWall, M_isPainter, M_isWork, X_has4, X_has10, X_at, or_false, false_or, or_true, true_or, not_true, not_false_iff, Option.isSome_some, isO_d, gI_d, gA_d, pI_d, ne_eq, not_false_eq_true, u2_hi, u2_hj, u2_dyn, u2_dynj, Nat.reduceAdd]; try exact rfl), by (simp (decide := true) only [f_X15_vote_120, f_X15_vote_114, f_X15_vote_47, f_X15_vote_21, f_X15_vote, hn3, e1, e2, h2', isO_s, gI_s, gA_s, gL_s, pI_s, pZ_s, pL_s, aI_s, aL_s, aN_s, aQ_s, sI_s, sL_s, cr, LNs, Option.map_some, Option.map_none, Option.bind_some, b2, tr, lt, if_true, if_false, ckZ, X_within, M_in, inR_z, X_refuse, X_tell, X_deny, X_grant, M_refused, M_denied, M_done, M_granted, u2_same, u2_ne, u2_u2, upd_same, upd_ne, aW0, ixR_z, ixR_1, M_isWall, M_isPainter, M_isWork, X_has4, X_has10, X_at, or_false, false_or, or_true, true_or, not_true, not_false_iff, Option.isSome_some, isO_d, gI_d, gA_d, pI_d, ne_eq, not_false_eq_true, u2_hi, u2_hj, u2_dyn, u2_dynj, Nat.reduceAdd]; try exact rfl)⟩
  have h2' : ¬ (Int32.ofNat w < 0 ∨ I 72 4 ≤ Int32.ofNat w) := by rw [← ixR_z, h2]; decide
  by_cases hu : (u < 0 ∨ 99 < u)
  · exact Or.inl ⟨2, by decide, 0, u2 I 0 (upd (I 0) 16 2), by (simp (decide := true) only [f_X11_vote_48, f_X11_vote_22, f_X11_vote, h10, hn2, e1, e2, h1, hu, isO_s, gI_s, gA_s, gL_s, pI_s, pZ_s, pL_s, aI_s, aL_s, aN_s, aQ_s, sI_s, sL_s, cr, LNs, Option.map_some, Option.map_none, Option.bind_some, b2, tr, lt, if_true, if_false, ckZ, X_within, M_in, inR_z, X_refuse, X_tell, X_deny, X_grant, M_refused, M_denied, M_done, M_granted, u2_same, u2_ne, u2_u2, upd_same, upd_ne, aW0, ixR_z, ixR_1, M_isWall, M_isPainter, M_isWork, X_has4, X_has10, X_at, or_false, false_or, or_true, true_or, not_true, not_false_iff, Option.isSome_some, isO_d, gI_d, gA_d, pI_d, ne_eq, not_false_eq_true, u2_hi, u2_hj, u2_dyn, u2_dynj, Nat.reduceAdd]; try exact rfl), by (simp (decide := true) only [f_X15_vote_120, f_X15_vote_114, f_X15_vote_47, f_X15_vote_21, f_X15_vote, hn3, e1, e2, h2', hu, isO_s, gI_s, gA_s, gL_s, pI_s, pZ_s, pL_s, aI_s, aL_s, aN_s, aQ_s, sI_s, sL_s, cr, LNs, Option.map_some, Option.map_none, Option.bind_some, b2, tr, lt, if_true, if_false, ckZ, X_within, M_in, inR_z, X_refuse, X_tell, X_deny, X_grant, M_refused, M_denied, M_done, M_granted, u2_same, u2_ne, u2_u2, upd_same, upd_ne, aW0, ixR_z, ixR_1, M_isWall, M_isPainter, M_isWork, X_has4, X_has10, X_at, or_false, false_or, or_true, true_or, not_true, not_false_iff, Option.isSome_some, isO_d, gI_d, gA_d, pI_d, ne_eq, not_false_eq_true, u2_hi, u2_hj, u2_dyn, u2_dynj, Nat.reduceAdd]; try exact rfl)⟩
  by_cases hv : (v < 0 ∨ 5 < v)
  · exact Or.inl ⟨2, by decide, 0, u2 I 0 (upd (I 0) 16 2), by (simp (decide := true) only [f_X11_vote_48, f_X11_vote_22, f_X11_vote, h10, hn2, e1, e2, h1, hu, hv, isO_s, gI_s, gA_s, gL_s, pI_s, pZ_s, pL_s, aI_s, aL_s, aN_s, aQ_s, sI_s, sL_s, cr, LNs, Option.map_some, Option.map_none, Option.bind_some, b2, tr, lt, if_true, if_false, ckZ, X_within, M_in, inR_z, X_refuse, X_tell, X_deny, X_grant, M_refused, M_denied, M_done, M_granted, u2_same, u2_ne, u2_u2, upd_same, upd_ne, aW0, ixR_z, ixR_1, M_isWall, M_isPainter, M_isWork, X_has4, X_has10, X_at, or_false, false_or, or_true, true_or, not_true, not_false_iff, Option.isSome_some, isO_d, gI_d, gA_d, pI_d, ne_eq, not_false_eq_true, u2_hi, u2_hj, u2_dyn, u2_dynj, Nat.reduceAdd]; try exact rfl), by (simp (decide := true) only [f_X15_vote_120, f_X15_vote_114, f_X15_vote_47, f_X15_vote_21, f_X15_vote, hn3, e1, e2, h2', hu, hv, isO_s, gI_s, gA_s, gL_s, pI_s, pZ_s, pL_s, aI_s, aL_s, aN_s, aQ_s, sI_s, sL_s, cr, LNs, Option.map_some, Option.map_none, Option.bind_some, b2, tr, lt, if_true, if_false, ckZ, X_within, M_in, inR_z, X_refuse, X_tell, X_deny, X_grant, M_refused, M_denied, M_done, M_granted, u2_same, u2_ne, u2_u2, upd_same, upd_ne, aW0, ixR_z, ixR_1, M_isWall, M_isPainter, M_isWork, X_has4, X_has10, X_at, or_false, false_or, or_true, true_or, not_true, not_false_iff, Option.isSome_some, isO_d, gI_d, gA_d, pI_d, ne_eq, not_false_eq_true, u2_hi, u2_hj, u2_dyn, u2_dynj, Nat.reduceAdd]; try exact rfl)⟩
  have hw16 : w < 16 := by have := hnw.1; omega
  have e3 : iN (Int32.ofNat p) 10 = some p := iN_oN (by omega) (by omega)
  have hkin := (hPa p hp).2.1
  by_cases hk : u = I 112 p
  · subst hk
    exact Or.inl ⟨5, by decide, 0, u2 I 0 (upd (I 0) 16 5), by (simp (decide := true) only [f_X11_vote_48, f_X11_vote_22, f_X11_vote, f_X4_isKin_23, f_X4_isKin_22, f_X4_isKin, h10, hn2, e1, e2, h1, hu, hv, e3, hkin, isO_s, gI_s, gA_s, gL_s, pI_s, pZ_s, pL_s, aI_s, aL_s, aN_s, aQ_s, sI_s, sL_s, cr, LNs, Option.map_some, Option.map_none, Option.bind_some, b2, tr, lt, if_true, if_false, ckZ, X_within, M_in, inR_z, X_refuse, X_tell, X_deny, X_grant, M_refused, M_denied, M_done, M_granted, u2_same, u2_ne, u2_u2, upd_same, upd_ne, aW0, ixR_z, ixR_1, M_isWall, M_isPainter, M_isWork, X_has4, X_has10, X_at, or_false, false_or, or_true, true_or, not_true, not_false_iff, Option.isSome_some, isO_d, gI_d, gA_d, pI_d, ne_eq, not_false_eq_true, u2_hi, u2_hj, u2_dyn, u2_dynj, Nat.reduceAdd]; try exact rfl), by (simp (decide := true) only [f_X15_vote_120, f_X15_vote_114, f_X15_vote_47, f_X15_vote_21, f_X15_vote, hn3, e1, e2, h2', hu, hv, e3, isO_s, gI_s, gA_s, gL_s, pI_s, pZ_s, pL_s, aI_s, aL_s, aN_s, aQ_s, sI_s, sL_s, cr, LNs, Option.map_some, Option.map_none, Option.bind_some, b2, tr, lt, if_true, if_false, ckZ, X_within, M_in, inR_z, X_refuse, X_tell, X_deny, X_grant, M_refused, M_denied, M_done, M_granted, u2_same, u2_ne, u2_u2, upd_same, upd_ne, aW0, ixR_z, ixR_1, M_isWall, M_isPainter, M_isWork, X_has4, X_has10, X_at, or_false, false_or, or_true, true_or, not_true, not_false_iff, Option.isSome_some, isO_d, gI_d, gA_d, pI_d, ne_eq, not_false_eq_true, u2_hi, u2_hj, u2_dyn, u2_dynj, Nat.reduceAdd]; try exact rfl)⟩
  have hk' : ¬ I 112 p = u := fun q => hk q.symm
  obtain ⟨n, hn99, rfl⟩ := lo_of (n := 99) hu (by decide)
  obtain ⟨hv1, hv2, hv3⟩ := hnv
  have hnw1 := hnw.1
  have hfx := X_vfind (b := b) (F := F) (E := E) (L := L) (P := P) (nx := nx) (us := us) v (Int32.ofNat (p * 16 + w)) (Int32.ofNat ((p * 16 + w) * 100 + n)) hv2 hv1
  have hfm := M_vfind (b := b) (F := F) (E := E) (L := L) (P := P) (nx := nx) (us := us) (Int32.ofNat n) (Int32.ofNat p) (Int32.ofNat w) v hv3 hv1
  have hfe : fnd (fun k => I 114 k = Int32.ofNat n ∧ I 115 k = Int32.ofNat p ∧ I 116 k = Int32.ofNat w) 0 nv = fnd (fun k => I 11 k = Int32.ofNat ((p * 16 + w) * 100 + n)) 0 nv := by
    refine fnd_congr nv 0 ?_
    intro k _ hk
    obtain ⟨p', w', n', g1, g2, g3, g4, g5, g6, g7, -⟩ := hV.1 k (by omega)
    rw [g4, g5, g6, g7, keyE (by omega) g3 (by omega) (by omega) (by omega) (by omega), oN_eq (by omega) (by omega), oN_eq (by omega) (by omega), oN_eq (by omega) (by omega)]
    constructor
    · rintro ⟨r1, r2, r3⟩; exact ⟨r2, r3, r1⟩
    · rintro ⟨r1, r2, r3⟩; exact ⟨r3, r1, r2⟩
  have hfm2 := M_vfind (b := b) (F := F) (E := E) (L := L) (P := P) (nx := nx) (us := us) (Int32.ofNat n) (Int32.ofNat p) (Int32.ofNat w) v (I := I) hv3 hv1
  obtain ⟨s1, s2, s3, s4⟩ := fnd_spec (p := fun k => I 11 k = Int32.ofNat ((p * 16 + w) * 100 + n)) nv 0
  rw [hfe] at hfm2
  have hfm3 : ∀ J : Nat → Nat → Int32, J 72 59 = I 72 59 → J 114 = I 114 → J 115 = I 115 → J 116 = I 116 → f_X15_vote_72 FU (ad b 72) (Int32.ofNat n) (Int32.ofNat p) (Int32.ofNat w) v 0 (lay b F E J L P nx us) = f_X15_vote_120 (ad b 72) (Int32.ofNat n) (Int32.ofNat p) (Int32.ofNat w) v (Int32.ofNat (fnd (fun k => I 11 k = Int32.ofNat ((p * 16 + w) * 100 + n)) 0 nv)) (lay b F E J L P nx us) := by
    intro J j1 j2 j3 j4
    have := M_vfind (b := b) (F := F) (E := E) (L := L) (P := P) (nx := nx) (us := us) (Int32.ofNat n) (Int32.ofNat p) (Int32.ofNat w) v (I := J) (nv := nv) (by rw [j1]; exact hv3) hv1
    simp only [j2, j3, j4, hfe] at this
    exact this
  clear hfm hfm2 hfe
  generalize fnd (fun k => I 11 k = Int32.ofNat ((p * 16 + w) * 100 + n)) 0 nv = K at hfx hfm3 s1 s2 s3 s4
  have e4 : Int32.ofNat p * 16 + Int32.ofNat w = Int32.ofNat (p * 16 + w) := by rw [show (16 : Int32) = Int32.ofNat 16 from rfl, oN_mul, oN_add]
  have e5 : Int32.ofNat (p * 16 + w) * 100 + Int32.ofNat n = Int32.ofNat ((p * 16 + w) * 100 + n) := by rw [show (100 : Int32) = Int32.ofNat 100 from rfl, oN_mul, oN_add]
  have e6 : ¬ (Int32.ofNat w < 0 ∨ (16 : Int32) ≤ Int32.ofNat w) := by
    rw [oN_neg (by omega), show ((16 : Int32) ≤ Int32.ofNat w) = False from oN_leF (c := 16) hw16 (by omega)]
    simp
  have e7 : iN (Int32.ofNat (p * 16 + w)) 160 = some (p * 16 + w) := iN_oN (by omega) (by omega)
  by_cases hK : K = 300
  · subst hK
    have : nv = 300 := by omega
    subst this
    refine Or.inl ⟨3, by decide, 0, u2 I 0 (upd (I 0) 16 3), ?_, ?_⟩
    · (simp (decide := true) only [f_X11_vote_48, f_X11_vote_22, f_X11_vote, f_X4_isKin_23, f_X4_isKin_22, f_X4_isKin, f_X4_takeVote_103, f_X4_takeVote_57, f_X4_takeVote, X_isPair, f_X4_pairOf, h10, hn2, e1, e2, h1, hu, hv, e3, hkin, hk', e4, e5, e6, hfx, isO_s, gI_s, gA_s, gL_s, pI_s, pZ_s, pL_s, aI_s, aL_s, aN_s, aQ_s, sI_s, sL_s, cr, LNs, Option.map_some, Option.map_none, Option.bind_some, b2, tr, lt, if_true, if_false, ckZ, X_within, M_in, inR_z, X_refuse, X_tell, X_deny, X_grant, M_refused, M_denied, M_done, M_granted, u2_same, u2_ne, u2_u2, upd_same, upd_ne, aW0, ixR_z, ixR_1, M_isWall, M_isPainter, M_isWork, X_has4, X_has10, X_at, or_false, false_or, or_true, true_or, not_true, not_false_iff, Option.isSome_some, isO_d, gI_d, gA_d, pI_d, ne_eq, not_false_eq_true, u2_hi, u2_hj, u2_dyn, u2_dynj, Nat.reduceAdd]; try exact rfl)
    · (simp (decide := true) only [f_X15_vote_120, f_X15_vote_114, f_X15_vote_47, f_X15_vote_21, f_X15_vote, hn3, e1, e2, h2', hu, hv, e3, hk, hfm3, isO_s, gI_s, gA_s, gL_s, pI_s, pZ_s, pL_s, aI_s, aL_s, aN_s, aQ_s, sI_s, sL_s, cr, LNs, Option.map_some, Option.map_none, Option.bind_some, b2, tr, lt, if_true, if_false, ckZ, X_within, M_in, inR_z, X_refuse, X_tell, X_deny, X_grant, M_refused, M_denied, M_done, M_granted, u2_same, u2_ne, u2_u2, upd_same, upd_ne, aW0, ixR_z, ixR_1, M_isWall, M_isPainter, M_isWork, X_has4, X_has10, X_at, or_false, false_or, or_true, true_or, not_true, not_false_iff, Option.isSome_some, isO_d, gI_d, gA_d, pI_d, ne_eq, not_false_eq_true, u2_hi, u2_hj, u2_dyn, u2_dynj, Nat.reduceAdd]; try exact rfl)
  have hK3 : K < 300 := by omega
  have c1 : (Int32.ofNat K < 300) = True := oN_ltT (c := 300) hK3 (by omega)
  have c2 : (Int32.ofNat K = 300) = False := oN_ne (c := 300) hK (by omega) (by omega)
  have c3 : iN (Int32.ofNat K) 300 = some K := iN_oN hK3 (by omega)
  refine Or.inr ?_
  by_cases hKn : K = nv
  · subst hKn
    apply Exists.intro
    refine ⟨?_, ?_, K + 1, ?_, ?_, ?_⟩
    · apply Exists.intro; apply Exists.intro
      refine ⟨?_, ?_⟩
      · simp (decide := true) only [f_X11_vote_48, f_X11_vote_22, f_X11_vote, f_X4_isKin_23, f_X4_isKin_22, f_X4_isKin, f_X4_takeVote_103, f_X4_takeVote_57, f_X4_takeVote, X_isPair, f_X4_pairOf, h10, hn2, hv2, e1, e2, h1, hu, hv, e3, hkin, hk', e4, e5, e6, e7, hfx, c1, c3, oN_succ, isO_s, gI_s, gA_s, gL_s, pI_s, pZ_s, pL_s, aI_s, aL_s, aN_s, aQ_s, sI_s, sL_s, cr, LNs, Option.map_some, Option.map_none, Option.bind_some, b2, tr, lt, if_true, if_false, ckZ, X_within, M_in, inR_z, X_refuse, X_tell, X_deny, X_grant, M_refused, M_denied, M_done, M_granted, u2_same, u2_ne, u2_u2, upd_same, upd_ne, aW0, ixR_z, ixR_1, M_isWall, M_isPainter, M_isWork, X_has4, X_has10, X_at, or_false, false_or, or_true, true_or, not_true, not_false_iff, Option.isSome_some, isO_d, gI_d, gA_d, pI_d, ne_eq, not_false_eq_true, u2_hi, u2_hj, u2_dyn, u2_dynj, Nat.reduceAdd]
        exact rfl
      · simp (decide := true) only [f_X15_vote_120, f_X15_vote_114, f_X15_vote_47, f_X15_vote_21, f_X15_vote, hn3, hv3, e1, e2, h2', hu, hv, e3, hk, hfm3, c2, c3, oN_succ, isO_s, gI_s, gA_s, gL_s, pI_s, pZ_s, pL_s, aI_s, aL_s, aN_s, aQ_s, sI_s, sL_s, cr, LNs, Option.map_some, Option.map_none, Option.bind_some, b2, tr, lt, if_true, if_false, ckZ, X_within, M_in, inR_z, X_refuse, X_tell, X_deny, X_grant, M_refused, M_denied, M_done, M_granted, u2_same, u2_ne, u2_u2, upd_same, upd_ne, aW0, ixR_z, ixR_1, M_isWall, M_isPainter, M_isWork, X_has4, X_has10, X_at, or_false, false_or, or_true, true_or, not_true, not_false_iff, Option.isSome_some, isO_d, gI_d, gA_d, pI_d, ne_eq, not_false_eq_true, u2_hi, u2_hj, u2_dyn, u2_dynj, Nat.reduceAdd]
        exact rfl
    · simp (decide := true) only [GTI, u2_same, u2_ne, u2_u2, upd_same, upd_ne, mE, u2_dyn, dyn_u2, dyn_hi, u2_hi, u2_hj, u2_dynj]
      exact GT_end hT (by decide)
    · simp (decide := true) only [u2_same, u2_ne, u2_u2, upd_same, upd_ne, mE, u2_dyn, dyn_u2, dyn_hi, u2_hi, u2_hj, u2_dynj]
      refine ⟨by omega, rfl, ?_⟩
      unfold mxI
      rw [if_pos ((oN_lt (by omega) (by omega)).mpr (by omega))]
    · simp (decide := true) only [u2_same, u2_ne, u2_u2, upd_same, upd_ne, mE, u2_dyn, dyn_u2, dyn_hi, u2_hi, u2_hj, u2_dynj]
      have e8 : upd (upd (I 12) K 0) K v = upd (I 12) K v := by funext j; unfold upd; split <;> rfl
      rw [e8]
      exact hV.new hp hn1 hw hnw1 (by omega) (nI_rng hv) (fun k hk => s4 k (by omega) hk)
    · exact (by repeat (first | exact Fr.refl _ _ _ | refine Fr.whole ?_ (by decide) | refine Fr.slot ?_ (fun k hk => by (try simp (decide := true) only [mE, u2_ne, u2_same, u2_u2]); repeat rw [upd_fr (by decide) hk])))
  · have hKn2 : K < nv := by omega
    have c4 : (Int32.ofNat K = Int32.ofNat nv) = False := oN_ne hKn (by omega) (by omega)
    apply Exists.intro
    refine ⟨?_, ?_, nv, ?_, ?_, ?_⟩
    · apply Exists.intro; apply Exists.intro
      refine ⟨?_, ?_⟩
      · simp (decide := true) only [f_X11_vote_48, f_X11_vote_22, f_X11_vote, f_X4_isKin_23, f_X4_isKin_22, f_X4_isKin, f_X4_takeVote_103, f_X4_takeVote_57, f_X4_takeVote, X_isPair, f_X4_pairOf, h10, hn2, hv2, e1, e2, h1, hu, hv, e3, hkin, hk', e4, e5, e6, e7, hfx, c1, c3, c4, oN_succ, isO_s, gI_s, gA_s, gL_s, pI_s, pZ_s, pL_s, aI_s, aL_s, aN_s, aQ_s, sI_s, sL_s, cr, LNs, Option.map_some, Option.map_none, Option.bind_some, b2, tr, lt, if_true, if_false, ckZ, X_within, M_in, inR_z, X_refuse, X_tell, X_deny, X_grant, M_refused, M_denied, M_done, M_granted, u2_same, u2_ne, u2_u2, upd_same, upd_ne, aW0, ixR_z, ixR_1, M_isWall, M_isPainter, M_isWork, X_has4, X_has10, X_at, or_false, false_or, or_true, true_or, not_true, not_false_iff, Option.isSome_some, isO_d, gI_d, gA_d, pI_d, ne_eq, not_false_eq_true, u2_hi, u2_hj, u2_dyn, u2_dynj, Nat.reduceAdd]
        exact rfl
      · simp (decide := true) only [f_X15_vote_120, f_X15_vote_114, f_X15_vote_47, f_X15_vote_21, f_X15_vote, hn3, hv3, e1, e2, h2', hu, hv, e3, hk, hfm3, c2, c3, oN_succ, isO_s, gI_s, gA_s, gL_s, pI_s, pZ_s, pL_s, aI_s, aL_s, aN_s, aQ_s, sI_s, sL_s, cr, LNs, Option.map_some, Option.map_none, Option.bind_some, b2, tr, lt, if_true, if_false, ckZ, X_within, M_in, inR_z, X_refuse, X_tell, X_deny, X_grant, M_refused, M_denied, M_done, M_granted, u2_same, u2_ne, u2_u2, upd_same, upd_ne, aW0, ixR_z, ixR_1, M_isWall, M_isPainter, M_isWork, X_has4, X_has10, X_at, or_false, false_or, or_true, true_or, not_true, not_false_iff, Option.isSome_some, isO_d, gI_d, gA_d, pI_d, ne_eq, not_false_eq_true, u2_hi, u2_hj, u2_dyn, u2_dynj, Nat.reduceAdd]
        exact rfl
    · simp (decide := true) only [GTI, u2_same, u2_ne, u2_u2, upd_same, upd_ne, mE, u2_dyn, dyn_u2, dyn_hi, u2_hi, u2_hj, u2_dynj]
      exact GT_end hT (by decide)
    · simp (decide := true) only [u2_same, u2_ne, u2_u2, upd_same, upd_ne, mE, u2_dyn, dyn_u2, dyn_hi, u2_hi, u2_hj, u2_dynj]
      refine ⟨by omega, hv2, ?_⟩
      unfold mxI
      rw [if_neg (fun q => by have := (oN_lt (by omega) (by omega)).mp q; omega)]
    · simp (decide := true) only [u2_same, u2_ne, u2_u2, upd_same, upd_ne, mE, u2_dyn, dyn_u2, dyn_hi, u2_hi, u2_hj, u2_dynj]
      exact hV.old hKn2 hp hn1 hw hnw1 (by omega) (nI_rng hv) (s3 (by omega))
    · exact (by repeat (first | exact Fr.refl _ _ _ | refine Fr.whole ?_ (by decide) | refine Fr.slot ?_ (fun k hk => by (try simp (decide := true) only [mE, u2_ne, u2_same, u2_u2]); repeat rw [upd_fr (by decide) hk])))
end Q6
