/-! ===== give: the ends of both ===== -/
def gvF (ak : Nat → Nat) (s : RW) : Nat → Nat → RW → RW
  | 0, _, r => r
  | m + 1, i, r => gvF ak s m (i + 1) (upd r (ak i) (s i))
theorem gv_eq {ak : Nat → Nat} {s s' : RW} : ∀ (m i : Nat) (r r' : RW), (∀ k, i ≤ k → k < i + m → s k = s' k) → (∀ k, k < 16 → r k = r' k) → ∀ k, k < 16 → gvF ak s m i r k = gvF ak s' m i r' k := by
  intro m
  induction m with
  | zero => intro i r r' _ h; exact h
  | succ m ih =>
    intro i r r' hs h
    refine ih (i + 1) _ _ (fun k h1 h2 => hs k (by omega) (by omega)) ?_
    intro k hk
    rw [hs i (Nat.le_refl _) (by omega)]
    unfold upd
    split
    · rfl
    · exact h k hk
theorem gv_out {ak : Nat → Nat} {s : RW} {w : Nat} : ∀ (m i : Nat) (r : RW), (∀ k, i ≤ k → k < i + m → ak k ≠ w) → gvF ak s m i r w = r w := by
  intro m
  induction m with
  | zero => intro i r _; rfl
  | succ m ih =>
    intro i r h
    show gvF ak s m (i + 1) (upd r (ak i) (s i)) w = r w
    rw [ih (i + 1) _ (fun k h1 h2 => h k (by omega) (by omega)), upd_ne (fun q => h i (Nat.le_refl _) (by omega) q.symm)]
section GIVL
variable {b : Nat} {F : Nat → Option AE} {D E : Nat → Option KD} {I : Nat → Nat → Int32} {L : Nat → Nat → Int64} {P : Nat → Nat → Option Nat} {nx us : Nat}
theorem J_fillI {c n : Nat} (v : Int32) (h : D c = some (.inl (0, n))) (hn : n ≤ 100000) : f_J7_fill_53178 (ad b c) v (layD b F D I L P nx us) = some (layD b F D (u2 I c (fun k => if k < n then v else I c k)) L P nx us) := by
  have lp : ∀ (m i : Nat), i + m = n → ∀ (I : Nat → Nat → Int32) (fu : Nat), m < fu → f_J7_fill_53178_5 fu (ad b c) v (Int32.ofNat i) (Int32.ofNat n) (layD b F D I L P nx us) = some (layD b F D (u2 I c (fun k => if i ≤ k ∧ k < n then v else I c k)) L P nx us) := by
    intro m
    induction m with
    | zero =>
      intro i hi I fu hfu
      obtain ⟨fu, rfl⟩ : ∃ z, fu = z + 1 := ⟨fu - 1, by omega⟩
      have : i = n := by omega
      subst this
      have e : (fun k => if i ≤ k ∧ k < i then v else I c k) = I c := by funext k; rw [if_neg (by omega)]
      rw [e, u2_id]
      simp only [f_J7_fill_53178_5, Int32.le_refl, if_true]
    | succ m ih =>
      intro i hi I fu hfu
      obtain ⟨fu, rfl⟩ : ∃ z, fu = z + 1 := ⟨fu - 1, by omega⟩
      have e1 := oN_leF (show i < n by omega) (by omega)
      have e2 : iN (Int32.ofNat i) n = some i := iN_oN (by omega) (by omega)
      simp only [f_J7_fill_53178_5, e1, if_false, sI_lay h (by decide), e2, Option.map_some, Option.bind_some, oN_succ, aW0]
      rw [ih (i + 1) (by omega) _ fu (by omega), u2_u2, u2_same]
      congr 3
      funext k
      by_cases hz : k = i
      · subst hz; rw [if_neg (by omega), if_pos (by omega), upd_same]
      · rw [upd_ne hz]
        by_cases hk : i + 1 ≤ k ∧ k < n
        · rw [if_pos hk, if_pos (by omega)]
        · rw [if_neg hk, if_neg (by omega)]
  have := lp n 0 (by omega) I FU (by unfold FU; omega)
  unfold f_J7_fill_53178
  rw [aN_lay h]
  simp only [Option.bind_some]
  rw [show (0 : Int32) = Int32.ofNat 0 from rfl, this]
  congr 3
  funext k
  by_cases hk : k < n
  · rw [if_pos ⟨by omega, hk⟩, if_pos hk]
  · rw [if_neg (fun q => hk q.2), if_neg hk]
theorem X_97 {n : Nat} {ak : Nat → Nat} (hn6 : n ≤ 6) (ha : ∀ k, k < n → ak k < 16) : ∀ (m i : Nat), i + m = n → ∀ (fu : Nat) (I : Nat → Nat → Int32), m < fu → I 26 5 = Int32.ofNat n → (∀ k, k < n → I 27 k = Int32.ofNat (ak k)) → f_X3_giveAll_97 fu (ad b 26) (Int32.ofNat i) (lay b F E I L P nx us) = some ((I 26 10 + 64 - 1) / 64, lay b F E (u2 I 32 (gvF ak (I 31) m i (I 32))) L P nx us) := by
  intro m
  induction m with
  | zero =>
    intro i hi fu I hf hn hak
    obtain ⟨fu, rfl⟩ : ∃ f, fu = f + 1 := ⟨fu - 1, by omega⟩
    have : i = n := by omega
    subst this
    have e : u2 I 32 (gvF ak (I 31) 0 i (I 32)) = I := u2_idr
    rw [e]
    simp (decide := true) only [f_X3_giveAll_97, hn, Int32.le_refl, isO_s, gI_s, gA_s, gL_s, pI_s, pZ_s, pL_s, aI_s, aL_s, aN_s, aQ_s, sI_s, sL_s, cr, LNs, Option.map_some, Option.map_none, Option.bind_some, b2, tr, lt, if_true, if_false, ckZ, X_within, M_in, inR_z, X_refuse, X_tell, X_deny, X_grant, M_refused, M_denied, M_done, M_granted, u2_same, u2_ne, u2_u2, upd_same, upd_ne, aW0, ixR_z, ixR_1, M_isWall, M_isPainter, M_isWork, X_has4, X_has10, X_at, or_false, false_or, or_true, true_or, not_true, not_false_iff, Option.isSome_some, isO_d, gI_d, gA_d, pI_d, ne_eq, not_false_eq_true, u2_hi, u2_hj, u2_dyn, u2_dynj, Nat.reduceAdd, mX_r, mX_rD, mX_rDj, mM_r, mX_u, mX_uM, mX_uD, mX_uDj, mM_u, mM_uX, mM_uD, mM_uDj, u2_dd, u2_d0, u2_0d]
  | succ m ih =>
    intro i hi fu I hf hn hak
    obtain ⟨fu, rfl⟩ : ∃ f, fu = f + 1 := ⟨fu - 1, by omega⟩
    have hin : i < n := by omega
    have e2 := oN_leF hin (by omega)
    have e3 : iN (Int32.ofNat i) 6 = some i := iN_oN (by omega) (by omega)
    have h16 := ha i hin
    have e4 := oN_neg (w := ak i) (by omega)
    have e5 : (Int32.ofNat 16 ≤ Int32.ofNat (ak i)) = False := oN_leF (c := 16) h16 (by omega)
    have e6 : iN (Int32.ofNat (ak i)) 16 = some (ak i) := iN_oN (by omega) (by omega)
    have ih' := ih (i + 1) (by omega) fu (u2 I 32 (upd (I 32) (ak i) (I 31 i))) (by omega) (by simp (decide := true) only [u2_same, u2_ne, u2_u2, upd_same, upd_ne, mE, u2_dyn, dyn_u2, dyn_hi, u2_hi, u2_hj, u2_dynj, u2_dd, u2_d0, u2_0d]; exact hn) (by simp (decide := true) only [u2_same, u2_ne, u2_u2, upd_same, upd_ne, mE, u2_dyn, dyn_u2, dyn_hi, u2_hi, u2_hj, u2_dynj, u2_dd, u2_d0, u2_0d]; exact hak)
    simp (decide := true) only [u2_same, u2_ne, u2_u2, upd_same, upd_ne, mE, u2_dyn, dyn_u2, dyn_hi, u2_hi, u2_hj, u2_dynj, u2_dd, u2_d0, u2_0d] at ih'
    simp (decide := true) only [f_X3_giveAll_97, f_X3_giveAll_137, hn, e2, e3, hak i hin, e4, e5, e6, oN_succ, isO_s, gI_s, gA_s, gL_s, pI_s, pZ_s, pL_s, aI_s, aL_s, aN_s, aQ_s, sI_s, sL_s, cr, LNs, Option.map_some, Option.map_none, Option.bind_some, b2, tr, lt, if_true, if_false, ckZ, X_within, M_in, inR_z, X_refuse, X_tell, X_deny, X_grant, M_refused, M_denied, M_done, M_granted, u2_same, u2_ne, u2_u2, upd_same, upd_ne, aW0, ixR_z, ixR_1, M_isWall, M_isPainter, M_isWork, X_has4, X_has10, X_at, or_false, false_or, or_true, true_or, not_true, not_false_iff, Option.isSome_some, isO_d, gI_d, gA_d, pI_d, ne_eq, not_false_eq_true, u2_hi, u2_hj, u2_dyn, u2_dynj, Nat.reduceAdd, mX_r, mX_rD, mX_rDj, mM_r, mX_u, mX_uM, mX_uD, mX_uDj, mM_u, mM_uX, mM_uD, mM_uDj, u2_dd, u2_d0, u2_0d]
    exact ih'
theorem M_279 {n : Nat} {ak : Nat → Nat} (hn6 : n ≤ 6) (ha : ∀ k, k < n → ak k < 16) : ∀ (m i : Nat), i + m = n → ∀ (fu : Nat) (I : Nat → Nat → Int32), m < fu → I 72 72 = Int32.ofNat n → (∀ k, k < n → I 118 k = Int32.ofNat (ak k)) → f_X15_give_279 fu (ad b 72) (Int32.ofNat i) (lay b F E I L P nx us) = some (I 72 73, lay b F E (u2 (u2 I 121 (gvF ak (I 120) m i (I 121))) 72 (mE (I 72) 0)) L P nx us) := by
  intro m
  induction m with
  | zero =>
    intro i hi fu I hf hn hak
    obtain ⟨fu, rfl⟩ : ∃ f, fu = f + 1 := ⟨fu - 1, by omega⟩
    have : i = n := by omega
    subst this
    have e : u2 I 121 (gvF ak (I 120) 0 i (I 121)) = I := u2_idr
    rw [e]
    simp (decide := true) only [f_X15_give_279, hn, Int32.le_refl, isO_s, gI_s, gA_s, gL_s, pI_s, pZ_s, pL_s, aI_s, aL_s, aN_s, aQ_s, sI_s, sL_s, cr, LNs, Option.map_some, Option.map_none, Option.bind_some, b2, tr, lt, if_true, if_false, ckZ, X_within, M_in, inR_z, X_refuse, X_tell, X_deny, X_grant, M_refused, M_denied, M_done, M_granted, u2_same, u2_ne, u2_u2, upd_same, upd_ne, aW0, ixR_z, ixR_1, M_isWall, M_isPainter, M_isWork, X_has4, X_has10, X_at, or_false, false_or, or_true, true_or, not_true, not_false_iff, Option.isSome_some, isO_d, gI_d, gA_d, pI_d, ne_eq, not_false_eq_true, u2_hi, u2_hj, u2_dyn, u2_dynj, Nat.reduceAdd, mX_r, mX_rD, mX_rDj, mM_r, mX_u, mX_uM, mX_uD, mX_uDj, mM_u, mM_uX, mM_uD, mM_uDj, u2_dd, u2_d0, u2_0d]
  | succ m ih =>
    intro i hi fu I hf hn hak
    obtain ⟨fu, rfl⟩ : ∃ f, fu = f + 1 := ⟨fu - 1, by omega⟩
    have hin : i < n := by omega
    have e2 := oN_leF hin (by omega)
    have e3 : iN (Int32.ofNat i) 6 = some i := iN_oN (by omega) (by omega)
    have h16 := ha i hin
    have e6 : iN (Int32.ofNat (ak i)) 16 = some (ak i) := iN_oN (by omega) (by omega)
    have ih' := ih (i + 1) (by omega) fu (u2 I 121 (upd (I 121) (ak i) (I 120 i))) (by omega) (by simp (decide := true) only [u2_same, u2_ne, u2_u2, upd_same, upd_ne, mE, u2_dyn, dyn_u2, dyn_hi, u2_hi, u2_hj, u2_dynj, u2_dd, u2_d0, u2_0d]; exact hn) (by simp (decide := true) only [u2_same, u2_ne, u2_u2, upd_same, upd_ne, mE, u2_dyn, dyn_u2, dyn_hi, u2_hi, u2_hj, u2_dynj, u2_dd, u2_d0, u2_0d]; exact hak)
    simp (decide := true) only [u2_same, u2_ne, u2_u2, upd_same, upd_ne, mE, u2_dyn, dyn_u2, dyn_hi, u2_hi, u2_hj, u2_dynj, u2_dd, u2_d0, u2_0d] at ih'
    simp (decide := true) only [f_X15_give_279, hn, e2, e3, hak i hin, e6, oN_succ, isO_s, gI_s, gA_s, gL_s, pI_s, pZ_s, pL_s, aI_s, aL_s, aN_s, aQ_s, sI_s, sL_s, cr, LNs, Option.map_some, Option.map_none, Option.bind_some, b2, tr, lt, if_true, if_false, ckZ, X_within, M_in, inR_z, X_refuse, X_tell, X_deny, X_grant, M_refused, M_denied, M_done, M_granted, u2_same, u2_ne, u2_u2, upd_same, upd_ne, aW0, ixR_z, ixR_1, M_isWall, M_isPainter, M_isWork, X_has4, X_has10, X_at, or_false, false_or, or_true, true_or, not_true, not_false_iff, Option.isSome_some, isO_d, gI_d, gA_d, pI_d, ne_eq, not_false_eq_true, u2_hi, u2_hj, u2_dyn, u2_dynj, Nat.reduceAdd, mX_r, mX_rD, mX_rDj, mM_r, mX_u, mX_uM, mX_uD, mX_uDj, mM_u, mM_uX, mM_uD, mM_uDj, u2_dd, u2_d0, u2_0d]
    exact ih'
theorem wth_l {l k v : Nat} (h : v + k = 64 * l) (hl : l ≤ 10000) (hk : k ≤ 40) : (Int32.ofNat v + 64 - 1) / 64 = Int32.ofNat l := by
  have e : Int32.ofNat v + 64 - 1 = Int32.ofNat (v + 63) := by
    rw [← oN_add]
    have : (Int32.ofNat 63) = 64 - 1 := by decide
    rw [this]
    grind
  rw [e, show (64 : Int32) = Int32.ofNat 64 from rfl, oN_div (by omega) (by omega)]
  congr 1
  omega
theorem giveTail {s nw nk np nv n hc len : Nat} {q wd hg ow ak : Nat → Nat} {m85 m111 : RW} {cn : Nat → Nat → Prop} {lN : Nat → Nat → Nat} {wN : Nat → Nat} {W : Nat → Nat → Int32} {J : Nat → Nat → Int32} (hSy : GSym m85) (hGW : GvW n np cn lN wN W) (hrm : rmN wN np 0 ≤ 40) (hGX : GvX E P s nw np n hc len q wd hg ow ak m85 m111 W I) (hGM : GvM s nw nk np nv n ak m85 m111 cn lN wN J) (h10 : I 26 10 = -1) (h73 : J 72 73 = -1) (h74 : J 72 74 = 0) (h121 : ∀ k, k < 16 → J 121 k = -1) :
    ∃ v I4 J4, ((f_X3_tryFrom 8 (ad b 26) 0 0 0 (lay b F E I L P nx us)).bind fun h4 => (gA 3 h4 (ad b 26) 11).bind fun a5 => (f_J7_fill_53178 a5 (-1) h4).bind fun h6 => f_X3_giveAll_97 FU (ad b 26) 0 h6) = some (v, lay b F E I4 L P nx us) ∧
    (∀ Z, ((f_X15_gives 8 (ad b 72) 0 0 0 (lay b F E (mM Z J) L P nx us)).bind fun h4 => (pZ 15 h4 (ad b 72) 75 1).bind fun h5 => f_X15_give_279 FU (ad b 72) 0 h5) = some (v, lay b F E (mM Z J4) L P nx us)) ∧
    (∀ c, c ≠ 26 → c ≠ 30 → c ≠ 31 → c ≠ 32 → I4 c = I c) ∧ (∀ k, k ≠ 10 → I4 26 k = I 26 k) ∧ (∀ c, c ≠ 72 → c ≠ 119 → c ≠ 120 → c ≠ 121 → J4 c = J c) ∧ (∀ k, k ≠ 1 → k ≠ 2 → k ≠ 73 → k ≠ 74 → k ≠ 75 → J4 72 k = J 72 k) ∧ J4 72 1 = 0 ∧ J4 72 2 = -1 ∧ J4 72 75 = 1 ∧ ∀ w, w < 16 → I4 32 w = J4 121 w ∧ (nw ≤ w → J4 121 w = -1) := by
  have hGX' := hGX
  obtain ⟨g1, g2, g3, g4, g5, g6, g7, g8, g9, ga, gb, gc, gd, ge, gf, gg, gh, gi⟩ := hGX
  obtain ⟨I', J', z1, z2, z3, z4, L', K, V, k1, k2, k3, k4, k5, k6, k7, k8⟩ := both (b := b) (F := F) (L := L) (nx := nx) (us := us) (r := I hc) hSy hGW gi n 0 0 0 0 0 I J 8 8 (by omega) (by omega) (by omega) rfl hGX' hGM (fun j hj => by omega) (fun j hj => by omega) (fun p hp => ⟨(fun q => by rw [Nat.zero_testBit] at q; cases q), (fun ⟨j, hj, _⟩ => by omega)⟩) (Nat.two_pow_pos np) (by omega) (by omega) (by omega) (Or.inl ⟨h10, h73, h74⟩)
  have z0 : Int32.ofNat 0 = 0 := rfl
  rw [z0] at z1
  obtain ⟨f1, f2, -⟩ := z3
  have hGM2 := hGM.fr z4
  obtain ⟨-, -, -, -, -, -, -, m8, -, -, mb, -⟩ := hGM2
  have ha : ∀ k, k < n → ak k < 16 := fun k hk => by have := (g9.1 k hk).1; omega
  have hfi := J_fillI (b := b) (F := F) (D := kdf E) (I := I') (L := L) (P := P) (nx := nx) (us := us) (c := 32) (n := 16) (-1) (kdf_KT (KT_arr (show tk 32 = 0 by decide) (by decide))) (by omega)
  have hfi' : f_J7_fill_53178 (ad b 32) (-1) (lay b F E I' L P nx us) = some (lay b F E (u2 I' 32 (fun k => if k < 16 then -1 else I' 32 k)) L P nx us) := hfi
  have h97 := X_97 (b := b) (F := F) (E := E) (L := L) (P := P) (nx := nx) (us := us) g8 ha n 0 (by omega) FU (u2 I' 32 (fun k => if k < 16 then -1 else I' 32 k)) (by unfold FU; omega) (by simp (decide := true) only [u2_same, u2_ne, u2_u2, upd_same, upd_ne, mE, u2_dyn, dyn_u2, dyn_hi, u2_hi, u2_hj, u2_dynj, u2_dd, u2_d0, u2_0d]; rw [f2 5 (by decide)]; exact gb) (by simp (decide := true) only [u2_same, u2_ne, u2_u2, upd_same, upd_ne, mE, u2_dyn, dyn_u2, dyn_hi, u2_hi, u2_hj, u2_dynj, u2_dd, u2_d0, u2_0d]; rw [f1 27 (by decide) (by decide) (by decide)]; exact ga)
  rw [z0] at h97
  simp (decide := true) only [k4, u2_same, u2_ne, u2_u2, upd_same, upd_ne, mE, u2_dyn, dyn_u2, dyn_hi, u2_hi, u2_hj, u2_dynj, u2_dd, u2_d0, u2_0d] at h97
  rw [wth_l k3 k1 k2] at h97
  refine ⟨Int32.ofNat L', u2 I' 32 (gvF ak (I' 31) n 0 (fun k => if k < 16 then -1 else I' 32 k)), u2 (u2 J' 121 (gvF ak (J' 120) n 0 (J' 121))) 72 (mE (upd (J' 72) 75 1) 0), ?_, ?_, ?_, ?_, ?_, ?_, ?_, ?_, ?_, ?_⟩
  · rw [z1]
    simp (decide := true) only [hfi', isO_s, gI_s, gA_s, gL_s, pI_s, pZ_s, pL_s, aI_s, aL_s, aN_s, aQ_s, sI_s, sL_s, cr, LNs, Option.map_some, Option.map_none, Option.bind_some, b2, tr, lt, if_true, if_false, ckZ, X_within, M_in, inR_z, X_refuse, X_tell, X_deny, X_grant, M_refused, M_denied, M_done, M_granted, u2_same, u2_ne, u2_u2, upd_same, upd_ne, aW0, ixR_z, ixR_1, M_isWall, M_isPainter, M_isWork, X_has4, X_has10, X_at, or_false, false_or, or_true, true_or, not_true, not_false_iff, Option.isSome_some, isO_d, gI_d, gA_d, pI_d, ne_eq, not_false_eq_true, u2_hi, u2_hj, u2_dyn, u2_dynj, Nat.reduceAdd, mX_r, mX_rD, mX_rDj, mM_r, mX_u, mX_uM, mX_uD, mX_uDj, mM_u, mM_uX, mM_uD, mM_uDj, u2_dd, u2_d0, u2_0d]
    exact h97
  · intro Z
    have z2 := z2 Z
    rw [z0] at z2
    rw [z2]
    have h279 := M_279 (b := b) (F := F) (E := E) (L := L) (P := P) (nx := nx) (us := us) g8 ha n 0 (by omega) FU (u2 (mM Z J') 72 (upd (J' 72) 75 1)) (by unfold FU; omega) (by simp (decide := true) only [u2_same, u2_ne, u2_u2, upd_same, upd_ne, mE, u2_dyn, dyn_u2, dyn_hi, u2_hi, u2_hj, u2_dynj, u2_dd, u2_d0, u2_0d]; exact m8) (by simp (decide := true) only [mM_r, u2_same, u2_ne, u2_u2, upd_same, upd_ne, mE, u2_dyn, dyn_u2, dyn_hi, u2_hi, u2_hj, u2_dynj, u2_dd, u2_d0, u2_0d]; exact mb)
    rw [z0] at h279
    simp (decide := true) only [mM_r, u2_same, u2_ne, u2_u2, upd_same, upd_ne, mE, u2_dyn, dyn_u2, dyn_hi, u2_hi, u2_hj, u2_dynj, u2_dd, u2_d0, u2_0d] at h279
    simp (decide := true) only [isO_s, gI_s, gA_s, gL_s, pI_s, pZ_s, pL_s, aI_s, aL_s, aN_s, aQ_s, sI_s, sL_s, cr, LNs, Option.map_some, Option.map_none, Option.bind_some, b2, tr, lt, if_true, if_false, ckZ, X_within, M_in, inR_z, X_refuse, X_tell, X_deny, X_grant, M_refused, M_denied, M_done, M_granted, u2_same, u2_ne, u2_u2, upd_same, upd_ne, aW0, ixR_z, ixR_1, M_isWall, M_isPainter, M_isWork, X_has4, X_has10, X_at, or_false, false_or, or_true, true_or, not_true, not_false_iff, Option.isSome_some, isO_d, gI_d, gA_d, pI_d, ne_eq, not_false_eq_true, u2_hi, u2_hj, u2_dyn, u2_dynj, Nat.reduceAdd, mX_r, mX_rD, mX_rDj, mM_r, mX_u, mX_uM, mX_uD, mX_uDj, mM_u, mM_uX, mM_uD, mM_uDj, u2_dd, u2_d0, u2_0d]
    refine h279.trans ?_
    rw [k5]
    congr 3
    funext c
    unfold u2
    by_cases c1 : c = 72
    · subst c1; simp (decide := true) only [if_true, if_false, mE]
    · simp only [c1, if_false]
  · intro c c1 c2 c3 c4
    rw [u2_ne c4, f1 c c2 c3 c1]
  · intro k hk
    simp (decide := true) only [u2_same, u2_ne, u2_u2, upd_same, upd_ne, mE, u2_dyn, dyn_u2, dyn_hi, u2_hi, u2_hj, u2_dynj, u2_dd, u2_d0, u2_0d]
    exact f2 k hk
  · intro c c1 c2 c3 c4
    rw [u2_ne c1, u2_ne c4, z4.1 c c2 c3 c1]
  · intro k q1 q2 q3 q4 q5
    simp (decide := true) only [u2_same, u2_ne, u2_u2, upd_same, upd_ne, mE, u2_dyn, dyn_u2, dyn_hi, u2_hi, u2_hj, u2_dynj, u2_dd, u2_d0, u2_0d]
    rw [upd_ne q2, upd_ne q1, upd_ne q5, z4.2.1 k q3 q4]
  · simp (decide := true) only [u2_same, u2_ne, u2_u2, upd_same, upd_ne, mE, u2_dyn, dyn_u2, dyn_hi, u2_hi, u2_hj, u2_dynj, u2_dd, u2_d0, u2_0d]
  · simp (decide := true) only [u2_same, u2_ne, u2_u2, upd_same, upd_ne, mE, u2_dyn, dyn_u2, dyn_hi, u2_hi, u2_hj, u2_dynj, u2_dd, u2_d0, u2_0d]
  · simp (decide := true) only [u2_same, u2_ne, u2_u2, upd_same, upd_ne, mE, u2_dyn, dyn_u2, dyn_hi, u2_hi, u2_hj, u2_dynj, u2_dd, u2_d0, u2_0d]
  · intro w hw
    simp (decide := true) only [u2_same, u2_ne, u2_u2, upd_same, upd_ne, mE, u2_dyn, dyn_u2, dyn_hi, u2_hi, u2_hj, u2_dynj, u2_dd, u2_d0, u2_0d]
    have r121 : J' 121 = J 121 := z4.1 121 (by decide) (by decide) (by decide)
    refine ⟨gv_eq n 0 _ _ (fun k _ hk => k7 k (by omega)) (fun k hk => by rw [if_pos hk, r121, h121 k hk]) w hw, fun hnw => ?_⟩
    rw [gv_out n 0 _ (fun k _ hk => by have := (g9.1 k (by omega)).1; omega), r121]
    exact h121 w hw
end GIVL
