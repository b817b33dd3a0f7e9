/-! ===== tokens: next, whole ===== -/
theorem TM0 {t r : RW} {n s : Nat} {rg : Int32} {l : Nat → Int64} (hk : kd t n s = 0) (h1 : r 29 = Int32.ofNat s) (h2 : r 28 = 1) : TM t n rg s r l := ⟨h1, fun _ => h2, fun h => by omega, fun h => by omega, fun h => by omega, fun h => by omega⟩
theorem TM1 {t r : RW} {n s : Nat} {rg : Int32} {l : Nat → Int64} (hk : kd t n s = 1) (h1 : r 29 = Int32.ofNat s) (h2 : r 28 = 0) : TM t n rg s r l := ⟨h1, fun h => by omega, fun _ => h2, fun h => by omega, fun h => by omega, fun h => by omega⟩
theorem TM2 {t r : RW} {n s : Nat} {rg : Int32} {l : Nat → Int64} (hk : kd t n s = 2) (h1 : r 29 = Int32.ofNat s) (h2 : r 28 = 2 ∧ l 37 = vl t n s ∧ r 32 = Int32.ofNat (en t n s - s) ∧ r 27 = Int32.ofNat (en t n s)) : TM t n rg s r l := ⟨h1, fun h => by omega, fun h => by omega, fun _ => h2, fun h => by omega, fun h => by omega⟩
theorem TM3 {t r : RW} {n s : Nat} {rg : Int32} {l : Nat → Int64} (hk : kd t n s = 3) (h1 : r 29 = Int32.ofNat s) (h2 : r 28 = 3 ∧ r 31 = nvR t (n - s) s 0 ∧ r 27 = Int32.ofNat (en t n s)) : TM t n rg s r l := ⟨h1, fun h => by omega, fun h => by omega, fun h => by omega, fun _ => h2, fun h => by omega⟩
theorem TM4 {t r : RW} {n s : Nat} {rg : Int32} {l : Nat → Int64} (hk : kd t n s = 4) (h1 : r 29 = Int32.ofNat s) (h2 : ((rg = 0 ∧ (t s = 44 ∨ t s = 37)) → r 28 = 0) ∧ (¬ (rg = 0 ∧ (t s = 44 ∨ t s = 37)) → r 28 = 4 ∧ r 30 = t s ∧ r 27 = Int32.ofNat (en t n s))) : TM t n rg s r l := ⟨h1, fun h => by omega, fun h => by omega, fun h => by omega, fun h => by omega, fun _ => h2⟩
def F72 (r r' : RW) : Prop := ∀ j, j ≠ 27 → j ≠ 28 → j ≠ 29 → j ≠ 30 → j ≠ 31 → j ≠ 32 → r' j = r j
section TOK3
variable {b : Nat} {F : Nat → Option AE} {D E : Nat → Option KD} {I : Nat → Nat → Int32} {L : Nat → Nat → Int64} {P : Nat → Nat → Option Nat} {nx us : Nat}
theorem M_next0 {n : Nat} {t : RW} {rg : Int32} (hn : n ≤ 400) (hB : BY t n) : ∀ (m k : Nat), k + m = n → ∀ (fu : Nat) (I : Nat → Nat → Int32), m < fu → I 72 26 = Int32.ofNat n → I 91 = t → I 72 36 = rg → I 72 27 = Int32.ofNat k → ∃ r l, f_X15_next_0 fu (ad b 72) (lay b F E I L P nx us) = some (lay b F E (u2 I 72 r) (u2 L 72 l) P nx us) ∧ F72 (I 72) r ∧ (∀ j, j ≠ 37 → l j = L 72 j) ∧ TM t n rg (rnE sB t m k) r l := by
  have idL : u2 L 72 (L 72) = L := by funext q; unfold u2; split <;> simp_all
  intro m
  induction m with
  | zero =>
    intro k hk fu I hf h26 ht h36 h27
    obtain ⟨fu, rfl⟩ : ∃ f, fu = f + 1 := ⟨fu - 1, by omega⟩
    have hkn : n ≤ k := by omega
    have hb := M_byteE (b := b) (F := F) (E := E) (I := I) (L := L) (P := P) (nx := nx) (us := us) hn hkn (by omega) h26
    have hb2 := M_byteE (b := b) (F := F) (E := E) (I := u2 I 72 (upd (upd (upd (I 72) 29 (Int32.ofNat k)) 28 0) 30 0)) (L := L) (P := P) (nx := nx) (us := us) hn hkn (by omega) (by simp (decide := true) only [u2_same, u2_ne, u2_u2, upd_same, upd_ne, mE, u2_dyn, dyn_u2, dyn_hi, u2_hi, u2_hj, u2_dynj, u2_dd, u2_d0, u2_0d]; exact h26)
    have e1 : ((-1 : Int32) = 32) = False := by decide
    have e2 : ((-1 : Int32) = 10) = False := by decide
    refine ⟨upd (upd (upd (upd (I 72) 29 (Int32.ofNat k)) 28 0) 30 0) 28 1, L 72, ?_, ?_, fun _ _ => rfl, ?_⟩
    · rw [idL]
      simp (decide := true) only [f_X15_next_0, f_X15_next_286, h27, hb, hb2, e1, e2, isO_s, gI_s, gA_s, gL_s, pI_s, pZ_s, pL_s, aI_s, aL_s, aN_s, aQ_s, sI_s, sL_s, cr, LNs, Option.map_some, Option.map_none, Option.bind_some, b2, tr, lt, if_true, if_false, ckZ, X_within, M_in, inR_z, X_refuse, X_tell, X_deny, X_grant, M_refused, M_denied, M_done, M_granted, u2_same, u2_ne, u2_u2, upd_same, upd_ne, aW0, ixR_z, ixR_1, M_isWall, M_isPainter, M_isWork, X_has4, X_has10, X_at, or_false, false_or, or_true, true_or, not_true, not_false_iff, Option.isSome_some, isO_d, gI_d, gA_d, pI_d, ne_eq, not_false_eq_true, u2_hi, u2_hj, u2_dyn, u2_dynj, Nat.reduceAdd, mX_r, mX_rD, mX_rDj, mM_r, mX_u, mX_uM, mX_uD, mX_uDj, mM_u, mM_uX, mM_uD, mM_uDj, u2_dd, u2_d0, u2_0d]
    · intro j j1 j2 j3 j4 j5 j6
      rw [upd_ne j2, upd_ne j4, upd_ne j2, upd_ne j3]
    · refine TM0 ?_ (by simp (decide := true) only [u2_same, u2_ne, u2_u2, upd_same, upd_ne, mE, u2_dyn, dyn_u2, dyn_hi, u2_hi, u2_hj, u2_dynj, u2_dd, u2_d0, u2_0d]; rfl) (by simp (decide := true) only [u2_same, u2_ne, u2_u2, upd_same, upd_ne, mE, u2_dyn, dyn_u2, dyn_hi, u2_hi, u2_hj, u2_dynj, u2_dd, u2_d0, u2_0d])
      show kd t n k = 0
      unfold kd
      rw [if_pos hkn]
  | succ m ih =>
    intro k hk fu I hf h26 ht h36 h27
    obtain ⟨fu, rfl⟩ : ∃ f, fu = f + 1 := ⟨fu - 1, by omega⟩
    have hkn : k < n := by omega
    have hnk : n - k = m + 1 := by omega
    have hb := M_byteT (b := b) (F := F) (E := E) (I := I) (L := L) (P := P) (nx := nx) (us := us) hn hkn h26
    rw [ht] at hb
    obtain ⟨x1, x2⟩ := hB k hkn
    obtain ⟨b1, b2', b3, b4, b5, b6, b7, b8, b9⟩ := by_x x1 x2
    have b1' : (t k &&& 255 = 32) = (t k = 32) := propext b1
    have b2'' : (t k &&& 255 = 10) = (t k = 10) := propext b2'
    have e10 : ((1 : Int32) = 0) = False := by decide
    by_cases hs : sB (t k) = true
    · have eR : rnE sB t (m + 1) k = rnE sB t m (k + 1) := by show (if sB (t k) = true then _ else _) = _; rw [if_pos hs]
      rw [eR]
      obtain ⟨r, l, z1, z2, z3, z4⟩ := ih (k + 1) (by omega) fu (u2 I 72 (upd (I 72) 27 (Int32.ofNat (k + 1)))) (by omega) (by simp (decide := true) only [u2_same, u2_ne, u2_u2, upd_same, upd_ne, mE, u2_dyn, dyn_u2, dyn_hi, u2_hi, u2_hj, u2_dynj, u2_dd, u2_d0, u2_0d]; exact h26) (by simp (decide := true) only [u2_same, u2_ne, u2_u2, upd_same, upd_ne, mE, u2_dyn, dyn_u2, dyn_hi, u2_hi, u2_hj, u2_dynj, u2_dd, u2_d0, u2_0d]; exact ht) (by simp (decide := true) only [u2_same, u2_ne, u2_u2, upd_same, upd_ne, mE, u2_dyn, dyn_u2, dyn_hi, u2_hi, u2_hj, u2_dynj, u2_dd, u2_d0, u2_0d]; exact h36) (by simp (decide := true) only [u2_same, u2_ne, u2_u2, upd_same, upd_ne, mE, u2_dyn, dyn_u2, dyn_hi, u2_hi, u2_hj, u2_dynj, u2_dd, u2_d0, u2_0d])
      refine ⟨r, l, ?_, ?_, z3, z4⟩
      · rw [u2_u2] at z1
        have hs' : t k = 32 ∨ t k = 10 := by
          unfold sB at hs
          rw [Bool.or_eq_true, decide_eq_true_eq, decide_eq_true_eq] at hs
          exact hs
        rcases hs' with hs' | hs'
        · rw [hs'] at hb
          have q : ((32 : Int32) &&& 255) = 32 := by decide
          rw [q] at hb
          simp (decide := true) only [f_X15_next_0, f_X15_next_26, h27, hb, oN_succ, isO_s, gI_s, gA_s, gL_s, pI_s, pZ_s, pL_s, aI_s, aL_s, aN_s, aQ_s, sI_s, sL_s, cr, LNs, Option.map_some, Option.map_none, Option.bind_some, b2, tr, lt, if_true, if_false, ckZ, X_within, M_in, inR_z, X_refuse, X_tell, X_deny, X_grant, M_refused, M_denied, M_done, M_granted, u2_same, u2_ne, u2_u2, upd_same, upd_ne, aW0, ixR_z, ixR_1, M_isWall, M_isPainter, M_isWork, X_has4, X_has10, X_at, or_false, false_or, or_true, true_or, not_true, not_false_iff, Option.isSome_some, isO_d, gI_d, gA_d, pI_d, ne_eq, not_false_eq_true, u2_hi, u2_hj, u2_dyn, u2_dynj, Nat.reduceAdd, mX_r, mX_rD, mX_rDj, mM_r, mX_u, mX_uM, mX_uD, mX_uDj, mM_u, mM_uX, mM_uD, mM_uDj, u2_dd, u2_d0, u2_0d]
          exact z1
        · rw [hs'] at hb
          have q : ((10 : Int32) &&& 255) = 10 := by decide
          rw [q] at hb
          simp (decide := true) only [f_X15_next_0, f_X15_next_26, h27, hb, oN_succ, isO_s, gI_s, gA_s, gL_s, pI_s, pZ_s, pL_s, aI_s, aL_s, aN_s, aQ_s, sI_s, sL_s, cr, LNs, Option.map_some, Option.map_none, Option.bind_some, b2, tr, lt, if_true, if_false, ckZ, X_within, M_in, inR_z, X_refuse, X_tell, X_deny, X_grant, M_refused, M_denied, M_done, M_granted, u2_same, u2_ne, u2_u2, upd_same, upd_ne, aW0, ixR_z, ixR_1, M_isWall, M_isPainter, M_isWork, X_has4, X_has10, X_at, or_false, false_or, or_true, true_or, not_true, not_false_iff, Option.isSome_some, isO_d, gI_d, gA_d, pI_d, ne_eq, not_false_eq_true, u2_hi, u2_hj, u2_dyn, u2_dynj, Nat.reduceAdd, mX_r, mX_rD, mX_rDj, mM_r, mX_u, mX_uM, mX_uD, mX_uDj, mM_u, mM_uX, mM_uD, mM_uDj, u2_dd, u2_d0, u2_0d]
          exact z1
      · intro j j1 j2 j3 j4 j5 j6
        have := z2 j j1 j2 j3 j4 j5 j6
        rw [u2_same, upd_ne j1] at this
        exact this
    · have eR : rnE sB t (m + 1) k = k := by show (if sB (t k) = true then _ else _) = _; rw [if_neg hs]
      rw [eR]
      have hs1 : ¬ t k = 32 := fun q => hs (by unfold sB; rw [q]; decide)
      have hs2 : ¬ t k = 10 := fun q => hs (by unfold sB; rw [q]; decide)
      have hb2 := M_byteT (b := b) (F := F) (E := E) (I := u2 I 72 (upd (upd (upd (I 72) 29 (Int32.ofNat k)) 28 0) 30 0)) (L := L) (P := P) (nx := nx) (us := us) hn hkn (by simp (decide := true) only [u2_same, u2_ne, u2_u2, upd_same, upd_ne, mE, u2_dyn, dyn_u2, dyn_hi, u2_hi, u2_hj, u2_dynj, u2_dd, u2_d0, u2_0d]; exact h26)
      have h91 : u2 I 72 (upd (upd (upd (I 72) 29 (Int32.ofNat k)) 28 0) 30 0) 91 = t := by simp (decide := true) only [u2_same, u2_ne, u2_u2, upd_same, upd_ne, mE, u2_dyn, dyn_u2, dyn_hi, u2_hi, u2_hj, u2_dynj, u2_dd, u2_d0, u2_0d]; exact ht
      rw [h91] at hb2
      have nle : ¬ n ≤ k := by omega
      have pre : ∀ (H : Option AH), (f_X15_next_0 (fu + 1) (ad b 72) (lay b F E I L P nx us) = H) = ((b2 (f_X15_isLetter (t k &&& 255) (lay b F E (u2 I 72 (upd (upd (upd (I 72) 29 (Int32.ofNat k)) 28 0) 30 0)) L P nx us)) fun x14 h15 => if x14 = 0 then b2 (f_X15_isDigit (t k &&& 255) h15) fun x16 h17 => if x16 = 0 then b2 (f_X15_isMark (ad b 72) (t k &&& 255) h17) fun x18 h19 => if x18 = 0 then f_X15_next_286 h19 else (pI 15 h19 (ad b 72) 28 4).bind fun h20 => (pI 15 h20 (ad b 72) 30 (t k &&& 255)).bind fun h21 => (gI 15 h21 (ad b 72) 27).bind fun x22 => (pI 15 h21 (ad b 72) 27 (x22 + 1)).bind fun h23 => f_X15_next_286 h23 else (pI 15 h17 (ad b 72) 31 0).bind fun h25 => f_X15_next_187 FU (ad b 72) 0 h25 else (pL 15 h15 (ad b 72) 37 (Int64.ofNat 0)).bind fun h27 => f_X15_next_93 FU (ad b 72) 0 h27) = H) := by
        intro H
        congr 1
        simp (decide := true) only [f_X15_next_0, h27, hb, hb2, b1', b2'', b3, hs1, hs2, isO_s, gI_s, gA_s, gL_s, pI_s, pZ_s, pL_s, aI_s, aL_s, aN_s, aQ_s, sI_s, sL_s, cr, LNs, Option.map_some, Option.map_none, Option.bind_some, b2, tr, lt, if_true, if_false, ckZ, X_within, inR_z, X_refuse, X_tell, X_deny, X_grant, M_refused, M_denied, M_done, M_granted, u2_same, u2_ne, u2_u2, upd_same, upd_ne, aW0, ixR_z, ixR_1, M_isWall, M_isPainter, M_isWork, X_has4, X_has10, X_at, or_false, false_or, or_true, true_or, not_true, not_false_iff, Option.isSome_some, isO_d, gI_d, gA_d, pI_d, ne_eq, not_false_eq_true, u2_hi, u2_hj, u2_dyn, u2_dynj, Nat.reduceAdd, mX_r, mX_rD, mX_rDj, mM_r, mX_u, mX_uM, mX_uD, mX_uDj, mM_u, mM_uX, mM_uD, mM_uDj, u2_dd, u2_d0, u2_0d]
      by_cases hl : lB (t k) = true
      · have hl1 := lB_t hl
        have hw := M_word (b := b) (F := F) (E := E) (P := P) (nx := nx) (us := us) hn hB (m + 1) k 0 hk FU (u2 I 72 (upd (upd (upd (I 72) 29 (Int32.ofNat k)) 28 0) 30 0)) (u2 L 72 (vp_updL (L 72) 37 0)) (by unfold FU; omega) (by omega) (by simp (decide := true) only [u2_same, u2_ne, u2_u2, upd_same, upd_ne, mE, u2_dyn, dyn_u2, dyn_hi, u2_hi, u2_hj, u2_dynj, u2_dd, u2_d0, u2_0d]; exact h26) h91 (by simp (decide := true) only [u2_same, u2_ne, u2_u2, upd_same, upd_ne, mE, u2_dyn, dyn_u2, dyn_hi, u2_hi, u2_hj, u2_dynj, u2_dd, u2_d0, u2_0d]; exact h27)
        rw [show Int32.ofNat 0 = 0 from rfl] at hw
        rw [← hnk] at hw
        have een : en t n k = rnE lB t (n - k) k := by unfold en; rw [if_neg nle, if_pos hl]
        have evl : vl t n k = wvR t (n - k) k 0 := by unfold vl; rw [if_pos hl]
        have ekd : kd t n k = if rnE lB t (n - k) k - k ≤ 8 then 2 else 1 := by unfold kd; rw [if_neg nle, if_pos hl]
        rw [Nat.zero_add] at hw
        have es : ∀ (f : Nat → Int64) (x : Int64), vp_updL f 37 x 37 = x := fun f x => if_pos rfl
        have ene : ∀ (f : Nat → Int64) (x : Int64) (j : Nat), j ≠ 37 → vp_updL f 37 x j = f j := fun f x j h => if_neg h
        by_cases h8 : rnE lB t (n - k) k - k ≤ 8
        · rw [if_pos h8] at ekd
          rw [if_neg (by omega)] at hw
          refine ⟨upd (upd (upd (upd (upd (upd (I 72) 29 (Int32.ofNat k)) 28 0) 30 0) 27 (Int32.ofNat (rnE lB t (n - k) k))) 32 (Int32.ofNat (rnE lB t (n - k) k - k))) 28 2, vp_updL (vp_updL (L 72) 37 0) 37 (wvM t (n - k) k 0 0), ?_, ?_, ?_, ?_⟩
          · rw [pre, M_letter, b4, hl1]
            simp (decide := true) only [f_X15_next_286, e10, isO_s, gI_s, gA_s, gL_s, pI_s, pZ_s, pL_s, aI_s, aL_s, aN_s, aQ_s, sI_s, sL_s, cr, LNs, Option.map_some, Option.map_none, Option.bind_some, b2, tr, lt, if_true, if_false, ckZ, X_within, M_in, inR_z, X_refuse, X_tell, X_deny, X_grant, M_refused, M_denied, M_done, M_granted, u2_same, u2_ne, u2_u2, upd_same, upd_ne, aW0, ixR_z, ixR_1, M_isWall, M_isPainter, M_isWork, X_has4, X_has10, X_at, or_false, false_or, or_true, true_or, not_true, not_false_iff, Option.isSome_some, isO_d, gI_d, gA_d, pI_d, ne_eq, not_false_eq_true, u2_hi, u2_hj, u2_dyn, u2_dynj, Nat.reduceAdd, mX_r, mX_rD, mX_rDj, mM_r, mX_u, mX_uM, mX_uD, mX_uDj, mM_u, mM_uX, mM_uD, mM_uDj, u2_dd, u2_d0, u2_0d] at hw ⊢
            simp (decide := true) only [es, isO_s, gI_s, gA_s, gL_s, pI_s, pZ_s, pL_s, aI_s, aL_s, aN_s, aQ_s, sI_s, sL_s, cr, LNs, Option.map_some, Option.map_none, Option.bind_some, b2, tr, lt, if_true, if_false, ckZ, X_within, M_in, inR_z, X_refuse, X_tell, X_deny, X_grant, M_refused, M_denied, M_done, M_granted, u2_same, u2_ne, u2_u2, upd_same, upd_ne, aW0, ixR_z, ixR_1, M_isWall, M_isPainter, M_isWork, X_has4, X_has10, X_at, or_false, false_or, or_true, true_or, not_true, not_false_iff, Option.isSome_some, isO_d, gI_d, gA_d, pI_d, ne_eq, not_false_eq_true, u2_hi, u2_hj, u2_dyn, u2_dynj, Nat.reduceAdd, mX_r, mX_rD, mX_rDj, mM_r, mX_u, mX_uM, mX_uD, mX_uDj, mM_u, mM_uX, mM_uD, mM_uDj, u2_dd, u2_d0, u2_0d] at hw
            exact hw
          · intro j j1 j2 j3 j4 j5 j6
            rw [upd_ne j2, upd_ne j6, upd_ne j1, upd_ne j4, upd_ne j2, upd_ne j3]
          · intro j hj
            rw [ene _ _ _ hj, ene _ _ _ hj]
          · refine TM2 ekd (by simp (decide := true) only [u2_same, u2_ne, u2_u2, upd_same, upd_ne, mE, u2_dyn, dyn_u2, dyn_hi, u2_hi, u2_hj, u2_dynj, u2_dd, u2_d0, u2_0d]) ⟨by simp (decide := true) only [u2_same, u2_ne, u2_u2, upd_same, upd_ne, mE, u2_dyn, dyn_u2, dyn_hi, u2_hi, u2_hj, u2_dynj, u2_dd, u2_d0, u2_0d], ?_, by simp (decide := true) only [een, u2_same, u2_ne, u2_u2, upd_same, upd_ne, mE, u2_dyn, dyn_u2, dyn_hi, u2_hi, u2_hj, u2_dynj, u2_dd, u2_d0, u2_0d], by simp (decide := true) only [een, u2_same, u2_ne, u2_u2, upd_same, upd_ne, mE, u2_dyn, dyn_u2, dyn_hi, u2_hi, u2_hj, u2_dynj, u2_dd, u2_d0, u2_0d]⟩
            rw [es, evl]
            exact wvM_R _ _ _ _ (by omega)
        · rw [if_neg h8] at ekd
          rw [if_pos (by omega)] at hw
          refine ⟨upd (upd (upd (upd (upd (I 72) 29 (Int32.ofNat k)) 28 0) 30 0) 27 (Int32.ofNat (rnE lB t (n - k) k))) 32 (Int32.ofNat (rnE lB t (n - k) k - k)), vp_updL (vp_updL (L 72) 37 0) 37 (wvM t (n - k) k 0 0), ?_, ?_, ?_, ?_⟩
          · rw [pre, M_letter, b4, hl1]
            simp (decide := true) only [f_X15_next_286, e10, isO_s, gI_s, gA_s, gL_s, pI_s, pZ_s, pL_s, aI_s, aL_s, aN_s, aQ_s, sI_s, sL_s, cr, LNs, Option.map_some, Option.map_none, Option.bind_some, b2, tr, lt, if_true, if_false, ckZ, X_within, M_in, inR_z, X_refuse, X_tell, X_deny, X_grant, M_refused, M_denied, M_done, M_granted, u2_same, u2_ne, u2_u2, upd_same, upd_ne, aW0, ixR_z, ixR_1, M_isWall, M_isPainter, M_isWork, X_has4, X_has10, X_at, or_false, false_or, or_true, true_or, not_true, not_false_iff, Option.isSome_some, isO_d, gI_d, gA_d, pI_d, ne_eq, not_false_eq_true, u2_hi, u2_hj, u2_dyn, u2_dynj, Nat.reduceAdd, mX_r, mX_rD, mX_rDj, mM_r, mX_u, mX_uM, mX_uD, mX_uDj, mM_u, mM_uX, mM_uD, mM_uDj, u2_dd, u2_d0, u2_0d] at hw ⊢
            simp (decide := true) only [es, isO_s, gI_s, gA_s, gL_s, pI_s, pZ_s, pL_s, aI_s, aL_s, aN_s, aQ_s, sI_s, sL_s, cr, LNs, Option.map_some, Option.map_none, Option.bind_some, b2, tr, lt, if_true, if_false, ckZ, X_within, M_in, inR_z, X_refuse, X_tell, X_deny, X_grant, M_refused, M_denied, M_done, M_granted, u2_same, u2_ne, u2_u2, upd_same, upd_ne, aW0, ixR_z, ixR_1, M_isWall, M_isPainter, M_isWork, X_has4, X_has10, X_at, or_false, false_or, or_true, true_or, not_true, not_false_iff, Option.isSome_some, isO_d, gI_d, gA_d, pI_d, ne_eq, not_false_eq_true, u2_hi, u2_hj, u2_dyn, u2_dynj, Nat.reduceAdd, mX_r, mX_rD, mX_rDj, mM_r, mX_u, mX_uM, mX_uD, mX_uDj, mM_u, mM_uX, mM_uD, mM_uDj, u2_dd, u2_d0, u2_0d] at hw
            exact hw
          · intro j j1 j2 j3 j4 j5 j6
            rw [upd_ne j6, upd_ne j1, upd_ne j4, upd_ne j2, upd_ne j3]
          · intro j hj
            rw [ene _ _ _ hj, ene _ _ _ hj]
          · exact TM1 ekd (by simp (decide := true) only [u2_same, u2_ne, u2_u2, upd_same, upd_ne, mE, u2_dyn, dyn_u2, dyn_hi, u2_hi, u2_hj, u2_dynj, u2_dd, u2_d0, u2_0d]) (by simp (decide := true) only [u2_same, u2_ne, u2_u2, upd_same, upd_ne, mE, u2_dyn, dyn_u2, dyn_hi, u2_hi, u2_hj, u2_dynj, u2_dd, u2_d0, u2_0d])
      · have hl0 := lB_f hl
        by_cases hd : dB (t k) = true
        · have hd1 := dB_t hd
          have hw := M_num (b := b) (F := F) (E := E) (L := L) (P := P) (nx := nx) (us := us) hn hB (m + 1) k 0 hk FU (u2 I 72 (upd (upd (upd (upd (I 72) 29 (Int32.ofNat k)) 28 0) 30 0) 31 0)) (by unfold FU; omega) (by omega) (by simp (decide := true) only [u2_same, u2_ne, u2_u2, upd_same, upd_ne, mE, u2_dyn, dyn_u2, dyn_hi, u2_hi, u2_hj, u2_dynj, u2_dd, u2_d0, u2_0d]; exact h26) (by simp (decide := true) only [u2_same, u2_ne, u2_u2, upd_same, upd_ne, mE, u2_dyn, dyn_u2, dyn_hi, u2_hi, u2_hj, u2_dynj, u2_dd, u2_d0, u2_0d]; exact ht) (by simp (decide := true) only [u2_same, u2_ne, u2_u2, upd_same, upd_ne, mE, u2_dyn, dyn_u2, dyn_hi, u2_hi, u2_hj, u2_dynj, u2_dd, u2_d0, u2_0d]; exact h27)
          rw [show Int32.ofNat 0 = 0 from rfl] at hw
          rw [← hnk] at hw
          have een : en t n k = rnE dB t (n - k) k := by unfold en; rw [if_neg nle, if_neg hl, if_pos hd]
          have ekd : kd t n k = if rnE dB t (n - k) k - k ≤ 3 then 3 else 1 := by unfold kd; rw [if_neg nle, if_neg hl, if_pos hd]
          rw [Nat.zero_add] at hw
          by_cases h8 : rnE dB t (n - k) k - k ≤ 3
          · rw [if_pos h8] at ekd
            rw [if_neg (by omega)] at hw
            refine ⟨upd (upd (upd (upd (upd (upd (upd (I 72) 29 (Int32.ofNat k)) 28 0) 30 0) 31 0) 27 (Int32.ofNat (rnE dB t (n - k) k))) 31 (nvM t (n - k) k 0 0)) 28 3, L 72, ?_, ?_, fun _ _ => rfl, ?_⟩
            · rw [idL, pre, M_letter, b4, hl0]
              simp (decide := true) only [f_X15_next_286, M_digit, b5, hd1, e10, isO_s, gI_s, gA_s, gL_s, pI_s, pZ_s, pL_s, aI_s, aL_s, aN_s, aQ_s, sI_s, sL_s, cr, LNs, Option.map_some, Option.map_none, Option.bind_some, b2, tr, lt, if_true, if_false, ckZ, X_within, M_in, X_refuse, X_tell, X_deny, X_grant, M_refused, M_denied, M_done, M_granted, u2_same, u2_ne, u2_u2, upd_same, upd_ne, aW0, ixR_z, ixR_1, M_isWall, M_isPainter, M_isWork, X_has4, X_has10, X_at, or_false, false_or, or_true, true_or, not_true, not_false_iff, Option.isSome_some, isO_d, gI_d, gA_d, pI_d, ne_eq, not_false_eq_true, u2_hi, u2_hj, u2_dyn, u2_dynj, Nat.reduceAdd, mX_r, mX_rD, mX_rDj, mM_r, mX_u, mX_uM, mX_uD, mX_uDj, mM_u, mM_uX, mM_uD, mM_uDj, u2_dd, u2_d0, u2_0d] at hw ⊢
              exact hw
            · intro j j1 j2 j3 j4 j5 j6
              rw [upd_ne j2, upd_ne j5, upd_ne j1, upd_ne j5, upd_ne j4, upd_ne j2, upd_ne j3]
            · refine TM3 ekd (by simp (decide := true) only [u2_same, u2_ne, u2_u2, upd_same, upd_ne, mE, u2_dyn, dyn_u2, dyn_hi, u2_hi, u2_hj, u2_dynj, u2_dd, u2_d0, u2_0d]) ⟨by simp (decide := true) only [u2_same, u2_ne, u2_u2, upd_same, upd_ne, mE, u2_dyn, dyn_u2, dyn_hi, u2_hi, u2_hj, u2_dynj, u2_dd, u2_d0, u2_0d], ?_, by simp (decide := true) only [een, u2_same, u2_ne, u2_u2, upd_same, upd_ne, mE, u2_dyn, dyn_u2, dyn_hi, u2_hi, u2_hj, u2_dynj, u2_dd, u2_d0, u2_0d]⟩
              simp (decide := true) only [u2_same, u2_ne, u2_u2, upd_same, upd_ne, mE, u2_dyn, dyn_u2, dyn_hi, u2_hi, u2_hj, u2_dynj, u2_dd, u2_d0, u2_0d]
              exact nvM_R _ _ _ _ (by omega)
          · rw [if_neg h8] at ekd
            rw [if_pos (by omega)] at hw
            refine ⟨upd (upd (upd (upd (upd (upd (I 72) 29 (Int32.ofNat k)) 28 0) 30 0) 31 0) 27 (Int32.ofNat (rnE dB t (n - k) k))) 31 (nvM t (n - k) k 0 0), L 72, ?_, ?_, fun _ _ => rfl, ?_⟩
            · rw [idL, pre, M_letter, b4, hl0]
              simp (decide := true) only [f_X15_next_286, M_digit, b5, hd1, e10, isO_s, gI_s, gA_s, gL_s, pI_s, pZ_s, pL_s, aI_s, aL_s, aN_s, aQ_s, sI_s, sL_s, cr, LNs, Option.map_some, Option.map_none, Option.bind_some, b2, tr, lt, if_true, if_false, ckZ, X_within, M_in, X_refuse, X_tell, X_deny, X_grant, M_refused, M_denied, M_done, M_granted, u2_same, u2_ne, u2_u2, upd_same, upd_ne, aW0, ixR_z, ixR_1, M_isWall, M_isPainter, M_isWork, X_has4, X_has10, X_at, or_false, false_or, or_true, true_or, not_true, not_false_iff, Option.isSome_some, isO_d, gI_d, gA_d, pI_d, ne_eq, not_false_eq_true, u2_hi, u2_hj, u2_dyn, u2_dynj, Nat.reduceAdd, mX_r, mX_rD, mX_rDj, mM_r, mX_u, mX_uM, mX_uD, mX_uDj, mM_u, mM_uX, mM_uD, mM_uDj, u2_dd, u2_d0, u2_0d] at hw ⊢
              exact hw
            · intro j j1 j2 j3 j4 j5 j6
              rw [upd_ne j5, upd_ne j1, upd_ne j5, upd_ne j4, upd_ne j2, upd_ne j3]
            · exact TM1 ekd (by simp (decide := true) only [u2_same, u2_ne, u2_u2, upd_same, upd_ne, mE, u2_dyn, dyn_u2, dyn_hi, u2_hi, u2_hj, u2_dynj, u2_dd, u2_d0, u2_0d]) (by simp (decide := true) only [u2_same, u2_ne, u2_u2, upd_same, upd_ne, mE, u2_dyn, dyn_u2, dyn_hi, u2_hi, u2_hj, u2_dynj, u2_dd, u2_d0, u2_0d])
        · have hd0 := dB_f hd
          have een : en t n k = k + 1 := by unfold en; rw [if_neg nle, if_neg hl, if_neg hd]
          have ekd : kd t n k = if gB (t k) = true then 4 else 1 := by unfold kd; rw [if_neg nle, if_neg hl, if_neg hd]
          by_cases hg : gB (t k) = true
          · rw [if_pos hg] at ekd
            by_cases hr : rg = 0 ∧ (t k = 44 ∨ t k = 37)
            · have hm := M_markF (b := b) (F := F) (E := E) (I := u2 I 72 (upd (upd (upd (I 72) 29 (Int32.ofNat k)) 28 0) 30 0)) (L := L) (P := P) (nx := nx) (us := us) (x := t k) (rg := rg) (by simp (decide := true) only [u2_same, u2_ne, u2_u2, upd_same, upd_ne, mE, u2_dyn, dyn_u2, dyn_hi, u2_hi, u2_hj, u2_dynj, u2_dd, u2_d0, u2_0d]; exact h36) (Or.inr hr)
              refine ⟨upd (upd (upd (I 72) 29 (Int32.ofNat k)) 28 0) 30 0, L 72, ?_, ?_, fun _ _ => rfl, ?_⟩
              · rw [idL, pre, M_letter, b4, hl0, b8 hg]
                simp (decide := true) only [f_X15_next_286, M_digit, hd0, hm, isO_s, gI_s, gA_s, gL_s, pI_s, pZ_s, pL_s, aI_s, aL_s, aN_s, aQ_s, sI_s, sL_s, cr, LNs, Option.map_some, Option.map_none, Option.bind_some, b2, tr, lt, if_true, if_false, ckZ, X_within, M_in, X_refuse, X_tell, X_deny, X_grant, M_refused, M_denied, M_done, M_granted, u2_same, u2_ne, u2_u2, upd_same, upd_ne, aW0, ixR_z, ixR_1, M_isWall, M_isPainter, M_isWork, X_has4, X_has10, X_at, or_false, false_or, or_true, true_or, not_true, not_false_iff, Option.isSome_some, isO_d, gI_d, gA_d, pI_d, ne_eq, not_false_eq_true, u2_hi, u2_hj, u2_dyn, u2_dynj, Nat.reduceAdd, mX_r, mX_rD, mX_rDj, mM_r, mX_u, mX_uM, mX_uD, mX_uDj, mM_u, mM_uX, mM_uD, mM_uDj, u2_dd, u2_d0, u2_0d]
              · intro j j1 j2 j3 j4 j5 j6
                rw [upd_ne j4, upd_ne j2, upd_ne j3]
              · exact TM4 ekd (by simp (decide := true) only [u2_same, u2_ne, u2_u2, upd_same, upd_ne, mE, u2_dyn, dyn_u2, dyn_hi, u2_hi, u2_hj, u2_dynj, u2_dd, u2_d0, u2_0d]) ⟨fun _ => by simp (decide := true) only [u2_same, u2_ne, u2_u2, upd_same, upd_ne, mE, u2_dyn, dyn_u2, dyn_hi, u2_hi, u2_hj, u2_dynj, u2_dd, u2_d0, u2_0d], fun q => absurd hr q⟩
            · have hm := M_markT (b := b) (F := F) (E := E) (I := u2 I 72 (upd (upd (upd (I 72) 29 (Int32.ofNat k)) 28 0) 30 0)) (L := L) (P := P) (nx := nx) (us := us) (x := t k) (rg := rg) (by simp (decide := true) only [u2_same, u2_ne, u2_u2, upd_same, upd_ne, mE, u2_dyn, dyn_u2, dyn_hi, u2_hi, u2_hj, u2_dynj, u2_dd, u2_d0, u2_0d]; exact h36) hg hr
              refine ⟨upd (upd (upd (upd (upd (upd (I 72) 29 (Int32.ofNat k)) 28 0) 30 0) 28 4) 30 (t k)) 27 (Int32.ofNat (k + 1)), L 72, ?_, ?_, fun _ _ => rfl, ?_⟩
              · rw [idL, pre, M_letter, b4, hl0, b8 hg]
                simp (decide := true) only [f_X15_next_286, M_digit, hd0, hm, e10, h27, oN_succ, isO_s, gI_s, gA_s, gL_s, pI_s, pZ_s, pL_s, aI_s, aL_s, aN_s, aQ_s, sI_s, sL_s, cr, LNs, Option.map_some, Option.map_none, Option.bind_some, b2, tr, lt, if_true, if_false, ckZ, X_within, M_in, X_refuse, X_tell, X_deny, X_grant, M_refused, M_denied, M_done, M_granted, u2_same, u2_ne, u2_u2, upd_same, upd_ne, aW0, ixR_z, ixR_1, M_isWall, M_isPainter, M_isWork, X_has4, X_has10, X_at, or_false, false_or, or_true, true_or, not_true, not_false_iff, Option.isSome_some, isO_d, gI_d, gA_d, pI_d, ne_eq, not_false_eq_true, u2_hi, u2_hj, u2_dyn, u2_dynj, Nat.reduceAdd, mX_r, mX_rD, mX_rDj, mM_r, mX_u, mX_uM, mX_uD, mX_uDj, mM_u, mM_uX, mM_uD, mM_uDj, u2_dd, u2_d0, u2_0d]
              · intro j j1 j2 j3 j4 j5 j6
                rw [upd_ne j1, upd_ne j4, upd_ne j2, upd_ne j4, upd_ne j2, upd_ne j3]
              · exact TM4 ekd (by simp (decide := true) only [u2_same, u2_ne, u2_u2, upd_same, upd_ne, mE, u2_dyn, dyn_u2, dyn_hi, u2_hi, u2_hj, u2_dynj, u2_dd, u2_d0, u2_0d]) ⟨fun q => absurd q hr, fun _ => ⟨by simp (decide := true) only [u2_same, u2_ne, u2_u2, upd_same, upd_ne, mE, u2_dyn, dyn_u2, dyn_hi, u2_hi, u2_hj, u2_dynj, u2_dd, u2_d0, u2_0d], by simp (decide := true) only [u2_same, u2_ne, u2_u2, upd_same, upd_ne, mE, u2_dyn, dyn_u2, dyn_hi, u2_hi, u2_hj, u2_dynj, u2_dd, u2_d0, u2_0d], by simp (decide := true) only [een, u2_same, u2_ne, u2_u2, upd_same, upd_ne, mE, u2_dyn, dyn_u2, dyn_hi, u2_hi, u2_hj, u2_dynj, u2_dd, u2_d0, u2_0d]⟩⟩
          · rw [if_neg hg] at ekd
            have hg' : gB (t k) = false := by revert hg; cases gB (t k) <;> decide
            have hm := M_markF (b := b) (F := F) (E := E) (I := u2 I 72 (upd (upd (upd (I 72) 29 (Int32.ofNat k)) 28 0) 30 0)) (L := L) (P := P) (nx := nx) (us := us) (x := t k &&& 255) (rg := rg) (by simp (decide := true) only [u2_same, u2_ne, u2_u2, upd_same, upd_ne, mE, u2_dyn, dyn_u2, dyn_hi, u2_hi, u2_hj, u2_dynj, u2_dd, u2_d0, u2_0d]; exact h36) (Or.inl (b9 hg'))
            refine ⟨upd (upd (upd (I 72) 29 (Int32.ofNat k)) 28 0) 30 0, L 72, ?_, ?_, fun _ _ => rfl, ?_⟩
            · rw [idL, pre, M_letter, b4, hl0]
              simp (decide := true) only [f_X15_next_286, M_digit, b5, hd0, hm, isO_s, gI_s, gA_s, gL_s, pI_s, pZ_s, pL_s, aI_s, aL_s, aN_s, aQ_s, sI_s, sL_s, cr, LNs, Option.map_some, Option.map_none, Option.bind_some, b2, tr, lt, if_true, if_false, ckZ, X_within, M_in, X_refuse, X_tell, X_deny, X_grant, M_refused, M_denied, M_done, M_granted, u2_same, u2_ne, u2_u2, upd_same, upd_ne, aW0, ixR_z, ixR_1, M_isWall, M_isPainter, M_isWork, X_has4, X_has10, X_at, or_false, false_or, or_true, true_or, not_true, not_false_iff, Option.isSome_some, isO_d, gI_d, gA_d, pI_d, ne_eq, not_false_eq_true, u2_hi, u2_hj, u2_dyn, u2_dynj, Nat.reduceAdd, mX_r, mX_rD, mX_rDj, mM_r, mX_u, mX_uM, mX_uD, mX_uDj, mM_u, mM_uX, mM_uD, mM_uDj, u2_dd, u2_d0, u2_0d]
            · intro j j1 j2 j3 j4 j5 j6
              rw [upd_ne j4, upd_ne j2, upd_ne j3]
            · exact TM1 ekd (by simp (decide := true) only [u2_same, u2_ne, u2_u2, upd_same, upd_ne, mE, u2_dyn, dyn_u2, dyn_hi, u2_hi, u2_hj, u2_dynj, u2_dd, u2_d0, u2_0d]) (by simp (decide := true) only [u2_same, u2_ne, u2_u2, upd_same, upd_ne, mE, u2_dyn, dyn_u2, dyn_hi, u2_hi, u2_hj, u2_dynj, u2_dd, u2_d0, u2_0d])
theorem M_next {n k : Nat} {t : RW} {rg : Int32} (hn : n ≤ 400) (hB : BY t n) (hk : k ≤ n) (h26 : I 72 26 = Int32.ofNat n) (ht : I 91 = t) (h36 : I 72 36 = rg) (h27 : I 72 27 = Int32.ofNat k) : ∃ r l, f_X15_next (ad b 72) (lay b F E I L P nx us) = some (lay b F E (u2 I 72 r) (u2 L 72 l) P nx us) ∧ F72 (I 72) r ∧ (∀ j, j ≠ 37 → l j = L 72 j) ∧ TM t n rg (sk t n k) r l := by
  obtain ⟨r, l, h⟩ := M_next0 (b := b) (F := F) (E := E) (L := L) (P := P) (nx := nx) (us := us) (rg := rg) hn hB (n - k) k (by omega) FU I (by unfold FU; omega) h26 ht h36 h27
  refine ⟨r, l, ?_, h.2⟩
  simp (decide := true) only [f_X15_next, isO_s, gI_s, gA_s, gL_s, pI_s, pZ_s, pL_s, aI_s, aL_s, aN_s, aQ_s, sI_s, sL_s, cr, LNs, Option.map_some, Option.map_none, Option.bind_some, b2, tr, lt, if_true, if_false, ckZ, X_within, M_in, inR_z, X_refuse, X_tell, X_deny, X_grant, M_refused, M_denied, M_done, M_granted, u2_same, u2_ne, u2_u2, upd_same, upd_ne, aW0, ixR_z, ixR_1, M_isWall, M_isPainter, M_isWork, X_has4, X_has10, X_at, or_false, false_or, or_true, true_or, not_true, not_false_iff, Option.isSome_some, isO_d, gI_d, gA_d, pI_d, ne_eq, not_false_eq_true, u2_hi, u2_hj, u2_dyn, u2_dynj, Nat.reduceAdd, mX_r, mX_rD, mX_rDj, mM_r, mX_u, mX_uM, mX_uD, mX_uDj, mM_u, mM_uX, mM_uD, mM_uDj, u2_dd, u2_d0, u2_0d]
  exact h.1
end TOK3
