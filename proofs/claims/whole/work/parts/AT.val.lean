/-! ===== painting: the value of a sum ===== -/
def opV (sg a c : Int32) : Int32 := mxI (-9999) (mnI 9999 (if sg = 4 then a + c else if sg = 5 then a - c else if sg = 6 then a * c else if c = 0 then 0 else a / c))
def lfV (sg v : Int32) (vr : RW) (W H : Nat) : Int32 := if sg = 0 then v else if sg = 1 then vr v.toNatClampNeg else if sg = 2 then Int32.ofNat W else Int32.ofNat H
/-- the pile behind c items from i on -/
def ev (sg vv vr : RW) (W H : Nat) : Nat → Nat → RW → Nat → RW
  | 0, _, p, _ => p
  | c + 1, i, p, n => if 4 ≤ sg i then ev sg vv vr W H c (i + 1) (upd p (n - 2) (opV (sg i) (p (n - 2)) (p (n - 1)))) (n - 1) else ev sg vv vr W H c (i + 1) (upd p n (lfV (sg i) (vv i) vr W H)) (n + 1)
theorem ItOp_4 {x : Int32} (h : ItOp x) : 4 ≤ x := by rcases h with rfl | rfl | rfl | rfl <;> decide
theorem ItLf_4 {x v : Int32} (h : ItLf x v) : ¬ 4 ≤ x := by
  rcases h with ⟨rfl, -⟩ | ⟨rfl, -⟩ | rfl | rfl <;> decide
theorem ev_ag {sg vv vr : RW} {W H : Nat} : ∀ (c i n n' : Nat) (p p' : RW), dOK sg vv c i n n' → (∀ j, j < n → p j = p' j) → ∀ j, j < n' → ev sg vv vr W H c i p n j = ev sg vv vr W H c i p' n j := by
  intro c
  induction c with
  | zero =>
    intro i n n' p p' h hp j hj
    have h : n = n' := h
    exact hp j (by omega)
  | succ c ih =>
    intro i n n' p p' h hp j hj
    unfold ev
    rcases h with ⟨h1, h2, h3⟩ | ⟨h1, h2, h3⟩
    · rw [if_pos (ItOp_4 h1), if_pos (ItOp_4 h1)]
      refine ih _ _ _ _ _ h3 (fun k hk => ?_) j hj
      unfold upd
      split
      · rw [hp (n - 2) (by omega), hp (n - 1) (by omega)]
      · exact hp k (by omega)
    · rw [if_neg (ItLf_4 h1), if_neg (ItLf_4 h1)]
      refine ih _ _ _ _ _ h3 (fun k hk => ?_) j hj
      unfold upd
      split
      · rfl
      · exact hp k (by omega)
theorem lfV_ag {sg v : Int32} {vr vr' : RW} {W H : Nat} (h : ItLf sg v) (hv : ∀ k, k < 5 → vr k = vr' k) : lfV sg v vr W H = lfV sg v vr' W H := by
  unfold lfV
  rcases h with ⟨rfl, -⟩ | ⟨rfl, j, hj, rfl⟩ | rfl | rfl
  · rfl
  · rw [oN_nn (by omega), hv j hj]
  · rfl
  · rfl
theorem ev_vr {sg vv vr vr' : RW} {W H : Nat} (hv : ∀ k, k < 5 → vr k = vr' k) : ∀ (c i n n' : Nat) (p : RW), dOK sg vv c i n n' → ev sg vv vr W H c i p n = ev sg vv vr' W H c i p n := by
  intro c
  induction c with
  | zero => intro i n n' p _; rfl
  | succ c ih =>
    intro i n n' p h
    unfold ev
    rcases h with ⟨h1, h2, h3⟩ | ⟨h1, h2, h3⟩
    · rw [if_pos (ItOp_4 h1), if_pos (ItOp_4 h1)]
      exact ih _ _ _ _ h3
    · rw [if_neg (ItLf_4 h1), if_neg (ItLf_4 h1), lfV_ag h1 hv]
      exact ih _ _ _ _ h3
/-- a pile on top of another -/
theorem ev_sh {sg vv vr : RW} {W H k0 : Nat} : ∀ (c i n n' : Nat) (p : RW), dOK sg vv c i n n' → (∀ j, ev sg vv vr W H c i p (k0 + n) (k0 + j) = ev sg vv vr W H c i (fun j => p (k0 + j)) n j) ∧ ∀ j, j < k0 → ev sg vv vr W H c i p (k0 + n) j = p j := by
  intro c
  induction c with
  | zero => intro i n n' p _; exact ⟨fun _ => rfl, fun _ _ => rfl⟩
  | succ c ih =>
    intro i n n' p h
    have us : ∀ (m : Nat) (x : Int32), (fun j => upd p (k0 + m) x (k0 + j)) = upd (fun j => p (k0 + j)) m x := by
      intro m x
      funext j
      unfold upd
      by_cases hj : j = m
      · rw [if_pos (by omega), if_pos hj]
      · rw [if_neg (by omega), if_neg hj]
    unfold ev
    rcases h with ⟨h1, h2, h3⟩ | ⟨h1, h2, h3⟩
    · rw [if_pos (ItOp_4 h1), if_pos (ItOp_4 h1), show k0 + n - 2 = k0 + (n - 2) by omega, show k0 + n - 1 = k0 + (n - 1) by omega]
      obtain ⟨i1, i2⟩ := ih (i + 1) (n - 1) n' (upd p (k0 + (n - 2)) (opV (sg i) (p (k0 + (n - 2))) (p (k0 + (n - 1))))) h3
      refine ⟨fun j => ?_, fun j hj => ?_⟩
      · rw [i1 j, us]
      · rw [i2 j hj, upd_ne (by omega)]
    · rw [if_neg (ItLf_4 h1), if_neg (ItLf_4 h1), show k0 + n + 1 = k0 + (n + 1) by omega]
      obtain ⟨i1, i2⟩ := ih (i + 1) (n + 1) n' (upd p (k0 + n) (lfV (sg i) (vv i) vr W H)) h3
      refine ⟨fun j => ?_, fun j hj => ?_⟩
      · rw [i1 j, us]
      · rw [i2 j hj, upd_ne (by omega)]
def BV (x : Int32) : Prop := -9999 ≤ x ∧ x ≤ 9999
theorem BV_n {j : Nat} (h : j ≤ 9999) : BV (Int32.ofNat j) := by
  constructor
  · rw [Int32.le_iff_toInt_le, oN_toInt (by omega)]
    have : (-9999 : Int32).toInt = -9999 := by decide
    omega
  · exact oN_leL (m := 9999) h (by omega)
theorem BV_b (z : Int32) : BV (mxI (-9999) (mnI 9999 z)) := by
  have hm : mnI 9999 z ≤ 9999 := by
    unfold mnI
    split
    · rename_i h; exact Int32.le_of_lt h
    · exact Int32.le_refl _
  unfold mxI
  split
  · rename_i h
    exact ⟨Int32.le_of_lt h, hm⟩
  · exact ⟨Int32.le_refl _, by decide⟩
theorem lfV_b {sg v : Int32} {vr : RW} {W H : Nat} (h : ItLf sg v) (hv : ∀ k, k < 5 → BV (vr k)) (hW : W ≤ 16) (hH : H ≤ 12) : BV (lfV sg v vr W H) := by
  unfold lfV
  rcases h with ⟨rfl, j, hj, rfl⟩ | ⟨rfl, j, hj, rfl⟩ | rfl | rfl
  · exact BV_n (by omega)
  · rw [oN_nn (by omega)]
    exact hv j hj
  · exact BV_n (by omega)
  · exact BV_n (by omega)
theorem ev_bv {sg vv vr : RW} {W H : Nat} (hv : ∀ k, k < 5 → BV (vr k)) (hW : W ≤ 16) (hH : H ≤ 12) : ∀ (c i n n' : Nat) (p : RW), dOK sg vv c i n n' → (∀ j, j < n → BV (p j)) → ∀ j, j < n' → BV (ev sg vv vr W H c i p n j) := by
  intro c
  induction c with
  | zero =>
    intro i n n' p h hp j hj
    have h : n = n' := h
    exact hp j (by omega)
  | succ c ih =>
    intro i n n' p h hp j hj
    unfold ev
    rcases h with ⟨h1, h2, h3⟩ | ⟨h1, h2, h3⟩
    · rw [if_pos (ItOp_4 h1)]
      refine ih _ _ _ _ h3 (fun k hk => ?_) j hj
      unfold upd
      split
      · exact BV_b _
      · exact hp k (by omega)
    · rw [if_neg (ItLf_4 h1)]
      refine ih _ _ _ _ h3 (fun k hk => ?_) j hj
      unfold upd
      split
      · exact lfV_b h1 hv hW hH
      · exact hp k (by omega)
/-- the value of sum k of step s -/
def smV (R : Nat → RW) (vr : RW) (W H s k : Nat) : Int32 := ev (R 9) (R 10) vr W H ((R 8 (4 * s + k)).toNatClampNeg - (R 7 (4 * s + k)).toNatClampNeg) (R 7 (4 * s + k)).toNatClampNeg (fun _ => 0) 0 0
theorem smV_e {R : Nat → RW} {vr : RW} {W H s k a e : Nat} (h7 : R 7 (4 * s + k) = Int32.ofNat a) (h8 : R 8 (4 * s + k) = Int32.ofNat e) (ha : a ≤ e) (he : e ≤ 240) (hd : dOK (R 9) (R 10) (e - a) a 0 1) (p : RW) : smV R vr W H s k = ev (R 9) (R 10) vr W H (e - a) a p 0 0 := by
  unfold smV
  rw [h7, h8, oN_nn (by omega), oN_nn (by omega)]
  exact ev_ag _ _ _ _ _ _ hd (fun j hj => absurd hj (Nat.not_lt_zero _)) 0 (by decide)
section VAL
variable {b : Nat} {F : Nat → Option AE} {D E : Nat → Option KD} {I : Nat → Nat → Int32} {L : Nat → Nat → Int64} {P : Nat → Nat → Option Nat} {nx us : Nat}
theorem M_val15 {W H w r s k e : Nat} {ho : RW} (hK : K12 E r) (hr : RD r) (hs : s < 40) (hk : k < 4) (he : e ≤ 240) : ∀ (c i n : Nat) (I : Nat → Nat → Int32) (fu : Nat), i + c = e → c < fu → n ≤ 15 → MW W H w ho I → I (r + 8) (4 * s + k) = Int32.ofNat e → dOK (I (r + 9)) (I (r + 10)) c i n 1 → f_X15_valueOf_15 fu (ad b 72) (ad b r) (Int32.ofNat s) (Int32.ofNat k) (Int32.ofNat n) (Int32.ofNat i) (lay b F E I L P nx us) = some (ev (I (r + 9)) (I (r + 10)) (I 107) W H c i (I 108) n 0, lay b F E (u2 I 108 (ev (I (r + 9)) (I (r + 10)) (I 107) W H c i (I 108) n)) L P nx us) := by
  have hr' : r = 93 ∨ 149 ≤ r := hr
  have e4 : 4 * Int32.ofNat s + Int32.ofNat k = Int32.ofNat (4 * s + k) := by rw [show (4 : Int32) = Int32.ofNat 4 from rfl, oN_mul, oN_add]
  have l108 : ln 108 = 400 := by decide
  have g45 : ∀ I : Nat → Nat → Int32, gA 15 (lay b F E I L P nx us) (ad b 72) 45 = some (ad b 108) := fun I => by simp (decide := true) only [isO_s, gI_s, gA_s, gL_s, pI_s, pZ_s, pL_s, aI_s, aL_s, aN_s, aQ_s, sI_s, sL_s, cr, LNs, Option.map_some, Option.map_none, Option.bind_some, b2, tr, lt, if_true, if_false, ckZ, X_within, M_in, inR_z, X_refuse, X_tell, X_deny, X_grant, M_refused, M_denied, M_done, M_granted, u2_same, u2_ne, u2_u2, upd_same, upd_ne, aW0, ixR_z, ixR_1, M_isWall, M_isPainter, M_isWork, X_has4, X_has10, X_at, or_false, false_or, or_true, true_or, not_true, not_false_iff, Option.isSome_some, isO_d, gI_d, gA_d, pI_d, ne_eq, not_false_eq_true, u2_hi, u2_hj, u2_dyn, u2_dynj, Nat.reduceAdd, mX_r, mX_rD, mX_rDj, mM_r, mX_u, mX_uM, mX_uD, mX_uDj, mM_u, mM_uX, mM_uD, mM_uDj, u2_dd, u2_d0, u2_0d]
  have a108 : ∀ (I : Nat → Nat → Int32) (j : Nat), j < 240 → aI 0 (lay b F E I L P nx us) (ad b 108) (Int32.ofNat j) = some (I 108 j) := fun I j hj => by
    have e : iN (Int32.ofNat j) (ln 108) = some j := iN_oN (by rw [l108]; omega) (by omega)
    rw [aI_s (by decide), e]
    rfl
  have s108 : ∀ (I : Nat → Nat → Int32) (j : Nat) (x : Int32), j < 240 → sI 0 (lay b F E I L P nx us) (ad b 108) (Int32.ofNat j) x = some (lay b F E (u2 I 108 (upd (I 108) j x)) L P nx us) := fun I j x hj => by
    have e : iN (Int32.ofNat j) (ln 108) = some j := iN_oN (by rw [l108]; omega) (by omega)
    rw [sI_s (by decide), e]
    rfl
  intro c
  induction c with
  | zero =>
    intro i n I fu hi hfu hn h h8 hd
    obtain ⟨fu, rfl⟩ : ∃ z, fu = z + 1 := ⟨fu - 1, by omega⟩
    unfold f_X15_valueOf_15 ev
    rw [e4, M_ra hK (j := 8) rfl (by decide) (by decide) (Or.inr (Or.inl ⟨by decide, by omega⟩)), h8, if_pos (oN_leL (by omega) (by omega)), g45, Option.bind_some, u2_id]
    have := a108 I 0 (by decide)
    have this : aI 0 (lay b F E I L P nx us) (ad b 108) 0 = some (I 108 0) := this
    rw [this, Option.bind_some]
  | succ c ih =>
    intro i n I fu hi hfu hn h h8 hd
    obtain ⟨fu, rfl⟩ : ∃ z, fu = z + 1 := ⟨fu - 1, by omega⟩
    have i8 : ∀ x : RW, u2 I 108 x (r + 8) = I (r + 8) := fun x => u2_ne (by omega)
    have i9 : ∀ x : RW, u2 I 108 x (r + 9) = I (r + 9) := fun x => u2_ne (by omega)
    have ia : ∀ x : RW, u2 I 108 x (r + 10) = I (r + 10) := fun x => u2_ne (by omega)
    have i7 : ∀ x : RW, u2 I 108 x 107 = I 107 := fun x => u2_ne (by decide)
    have hW : ∀ x : RW, MW W H w ho (u2 I 108 x) := fun x => h.fr (by simp (decide := true) only [u2_same, u2_ne, u2_u2, upd_same, upd_ne, mE, u2_dyn, dyn_u2, dyn_hi, u2_hi, u2_hj, u2_dynj, u2_dd, u2_d0, u2_0d]) (by simp (decide := true) only [u2_same, u2_ne, u2_u2, upd_same, upd_ne, mE, u2_dyn, dyn_u2, dyn_hi, u2_hi, u2_hj, u2_dynj, u2_dd, u2_d0, u2_0d]) (by simp (decide := true) only [u2_same, u2_ne, u2_u2, upd_same, upd_ne, mE, u2_dyn, dyn_u2, dyn_hi, u2_hi, u2_hj, u2_dynj, u2_dd, u2_d0, u2_0d]) (by simp (decide := true) only [u2_same, u2_ne, u2_u2, upd_same, upd_ne, mE, u2_dyn, dyn_u2, dyn_hi, u2_hi, u2_hj, u2_dynj, u2_dd, u2_d0, u2_0d])
    have next : ∀ (n' : Nat) (x : RW), n' ≤ 15 → dOK (I (r + 9)) (I (r + 10)) c (i + 1) n' 1 → f_X15_valueOf_213 (f_X15_valueOf_15 fu) (ad b 72) (ad b r) (Int32.ofNat s) (Int32.ofNat k) (Int32.ofNat n') (Int32.ofNat i) (lay b F E (u2 I 108 x) L P nx us) = some (ev (I (r + 9)) (I (r + 10)) (I 107) W H c (i + 1) x n' 0, lay b F E (u2 I 108 (ev (I (r + 9)) (I (r + 10)) (I 107) W H c (i + 1) x n')) L P nx us) := by
      intro n' x hn' hd'
      have := ih (i + 1) n' (u2 I 108 x) fu (by omega) (by omega) hn' (hW x) (by rw [i8]; exact h8) (by rw [i9, ia]; exact hd')
      rw [i9, ia, i7, u2_same, u2_u2] at this
      unfold f_X15_valueOf_213
      rw [oN_succ]
      exact this
    unfold f_X15_valueOf_15 ev
    rw [e4, M_ra hK (j := 8) rfl (by decide) (by decide) (Or.inr (Or.inl ⟨by decide, by omega⟩)), h8, if_neg (fun q => by have := (oN_le (by omega) (by omega)).mp q; omega), M_ra hK (j := 9) rfl (by decide) (by decide) (Or.inr (Or.inr ⟨by decide, by omega⟩))]
    rcases hd with ⟨h1, h2, h3⟩ | ⟨h1, h2, h3⟩
    · have en : Int32.ofNat n + -1 = Int32.ofNat (n - 1) := by
        rw [show Int32.ofNat n + -1 = Int32.ofNat n - 1 by grind]
        exact oN_sub (c := 1) (by omega)
      have en2 : Int32.ofNat (n - 1) - 1 = Int32.ofNat (n - 2) := oN_sub (c := 1) (a := n - 1) (by omega)
      rw [if_pos (ItOp_4 h1), if_pos (ItOp_4 h1), g45, en, en2, Option.bind_some, a108 I (n - 2) (by omega), Option.bind_some, Option.bind_some, a108 I (n - 1) (by omega), Option.bind_some, Option.bind_some]
      have k209 : ∀ z, f_X15_valueOf_209 (f_X15_valueOf_15 fu) (ad b 72) (ad b r) (Int32.ofNat s) (Int32.ofNat k) (Int32.ofNat (n - 1)) (Int32.ofNat i) z (Int32.ofNat (n - 2)) (ad b 108) (lay b F E I L P nx us) = f_X15_valueOf_213 (f_X15_valueOf_15 fu) (ad b 72) (ad b r) (Int32.ofNat s) (Int32.ofNat k) (Int32.ofNat (n - 1)) (Int32.ofNat i) (lay b F E (u2 I 108 (upd (I 108) (n - 2) (mxI (-9999) (mnI 9999 z)))) L P nx us) := by
        intro z
        unfold f_X15_valueOf_209 f_X15_bound
        rw [b2_p, s108 I (n - 2) _ (by omega), Option.bind_some]
      unfold opV
      rcases h1 with q | q | q | q
      · rw [q, if_pos rfl, if_pos rfl, k209, next (n - 1) _ (by omega) h3]
      · rw [q, if_neg (by decide), if_pos rfl, if_neg (by decide), if_pos rfl, k209, next (n - 1) _ (by omega) h3]
      · rw [q, if_neg (by decide), if_neg (by decide), if_pos rfl, if_neg (by decide), if_neg (by decide), if_pos rfl, k209, next (n - 1) _ (by omega) h3]
      · have n4 : ¬ (7 : Int32) = 4 := by decide
        have n5 : ¬ (7 : Int32) = 5 := by decide
        have n6 : ¬ (7 : Int32) = 6 := by decide
        rw [q, if_neg n4, if_neg n5, if_neg n6, if_neg n4, if_neg n5, if_neg n6]
        by_cases c0 : I 108 (n - 1) = 0
        · rw [if_pos c0, if_pos c0, k209, next (n - 1) _ (by omega) h3]
        · have hck : ckD (I 108 (n - 1)) = some (I 108 (n - 1)) := by unfold ckD; rw [if_neg c0]
          rw [if_neg c0, if_neg c0, hck, Option.bind_some, k209, next (n - 1) _ (by omega) h3]
    · have k114 : ∀ z, f_X15_valueOf_114 (f_X15_valueOf_15 fu) (ad b 72) (ad b r) (Int32.ofNat s) (Int32.ofNat k) (Int32.ofNat n) (Int32.ofNat i) z (Int32.ofNat n) (ad b 108) (lay b F E I L P nx us) = f_X15_valueOf_213 (f_X15_valueOf_15 fu) (ad b 72) (ad b r) (Int32.ofNat s) (Int32.ofNat k) (Int32.ofNat (n + 1)) (Int32.ofNat i) (lay b F E (u2 I 108 (upd (I 108) n z)) L P nx us) := by
        intro z
        unfold f_X15_valueOf_114
        rw [s108 I n _ (by omega), Option.bind_some, oN_succ]
      rw [if_neg (ItLf_4 h1), if_neg (ItLf_4 h1), g45, Option.bind_some]
      unfold lfV
      rcases h1 with ⟨q, j, hj, qv⟩ | ⟨q, j, hj, qv⟩ | q | q
      · rw [q, if_pos rfl, if_pos rfl, M_ra hK (j := 10) rfl (by decide) (by decide) (Or.inr (Or.inr ⟨by decide, by omega⟩)), k114, next (n + 1) _ (by omega) h3]
      · have g44 : gA 15 (lay b F E I L P nx us) (ad b 72) 44 = some (ad b 107) := by simp (decide := true) only [isO_s, gI_s, gA_s, gL_s, pI_s, pZ_s, pL_s, aI_s, aL_s, aN_s, aQ_s, sI_s, sL_s, cr, LNs, Option.map_some, Option.map_none, Option.bind_some, b2, tr, lt, if_true, if_false, ckZ, X_within, M_in, inR_z, X_refuse, X_tell, X_deny, X_grant, M_refused, M_denied, M_done, M_granted, u2_same, u2_ne, u2_u2, upd_same, upd_ne, aW0, ixR_z, ixR_1, M_isWall, M_isPainter, M_isWork, X_has4, X_has10, X_at, or_false, false_or, or_true, true_or, not_true, not_false_iff, Option.isSome_some, isO_d, gI_d, gA_d, pI_d, ne_eq, not_false_eq_true, u2_hi, u2_hj, u2_dyn, u2_dynj, Nat.reduceAdd, mX_r, mX_rD, mX_rDj, mM_r, mX_u, mX_uM, mX_uD, mX_uDj, mM_u, mM_uX, mM_uD, mM_uDj, u2_dd, u2_d0, u2_0d]
        have ej : iN (Int32.ofNat j) 5 = some j := iN_oN hj (by omega)
        have a107 : aI 0 (lay b F E I L P nx us) (ad b 107) (Int32.ofNat j) = some (I 107 j) := by simp (decide := true) only [ej, isO_s, gI_s, gA_s, gL_s, pI_s, pZ_s, pL_s, aI_s, aL_s, aN_s, aQ_s, sI_s, sL_s, cr, LNs, Option.map_some, Option.map_none, Option.bind_some, b2, tr, lt, if_true, if_false, ckZ, X_within, M_in, inR_z, X_refuse, X_tell, X_deny, X_grant, M_refused, M_denied, M_done, M_granted, u2_same, u2_ne, u2_u2, upd_same, upd_ne, aW0, ixR_z, ixR_1, M_isWall, M_isPainter, M_isWork, X_has4, X_has10, X_at, or_false, false_or, or_true, true_or, not_true, not_false_iff, Option.isSome_some, isO_d, gI_d, gA_d, pI_d, ne_eq, not_false_eq_true, u2_hi, u2_hj, u2_dyn, u2_dynj, Nat.reduceAdd, mX_r, mX_rD, mX_rDj, mM_r, mX_u, mX_uM, mX_uD, mX_uDj, mM_u, mM_uX, mM_uD, mM_uDj, u2_dd, u2_d0, u2_0d]
        rw [q, if_neg (by decide), if_pos rfl, if_neg (by decide), if_pos rfl, g44, Option.bind_some, M_ra hK (j := 10) rfl (by decide) (by decide) (Or.inr (Or.inr ⟨by decide, by omega⟩)), qv, a107, Option.bind_some, k114, next (n + 1) _ (by omega) h3, oN_nn (by omega)]
      · rw [q, if_neg (by decide), if_neg (by decide), if_pos rfl, if_neg (by decide), if_neg (by decide), if_pos rfl, h.wd, k114, next (n + 1) _ (by omega) h3]
      · rw [q, if_neg (by decide), if_neg (by decide), if_neg (by decide), if_neg (by decide), if_neg (by decide), if_neg (by decide), h.hg, k114, next (n + 1) _ (by omega) h3]
/-- the reference reckons a sum -/
theorem M_val {W H w r s k o o1 : Nat} {ho dd dv : RW} (hK : K12 E r) (hr : RD r) (hs : s < 40) (hk : k < 4) (h : MW W H w ho I) (hS : SumAt (fun j => I (r + j)) dd dv s k o o1) : ∃ row, f_X15_valueOf (ad b 72) (ad b r) (Int32.ofNat s) (Int32.ofNat k) (lay b F E I L P nx us) = some (smV (fun j => I (r + j)) (I 107) W H s k, lay b F E (u2 I 108 row) L P nx us) := by
  obtain ⟨a, e, q7, q8, q1, q2, -, -, qd⟩ := hS
  have e4 : 4 * Int32.ofNat s + Int32.ofNat k = Int32.ofNat (4 * s + k) := by rw [show (4 : Int32) = Int32.ofNat 4 from rfl, oN_mul, oN_add]
  have q7' : I (r + 7) (4 * s + k) = Int32.ofNat a := q7
  have := M_val15 (b := b) (F := F) (E := E) (L := L) (P := P) (nx := nx) (us := us) hK hr hs hk q2 (e - a) a 0 I FU (by omega) (by unfold FU; omega) (by omega) h q8 qd
  refine ⟨ev (I (r + 9)) (I (r + 10)) (I 107) W H (e - a) a (I 108) 0, ?_⟩
  unfold f_X15_valueOf
  rw [if_pos (isO_s (by decide)), e4, M_ra hK (j := 7) rfl (by decide) (by decide) (Or.inr (Or.inl ⟨by decide, by omega⟩)), q7', smV_e q7 q8 q1 q2 qd (I 108)]
  exact this
end VAL
