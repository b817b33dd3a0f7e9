/-! ===== tokens: the class's cutting, whole ===== -/
def TX (t : RW) (n la : Nat) (I : Nat → Nat → Int32) (L : Nat → Nat → Int64) : Prop := la ≤ 400 ∧ I 40 3 = Int32.ofNat la ∧ (∀ i, i ≤ la → I 41 i = Int32.ofNat (kd t n (pl t n i)) ∧ I 42 i = Int32.ofNat (pl t n i) ∧ (kd t n (pl t n i) ≠ 0 → L 43 i = vl t n (pl t n i))) ∧ (∀ i, i < la → kd t n (pl t n i) ≠ 0 ∧ kd t n (pl t n i) ≠ 1) ∧ (kd t n (pl t n la) = 0 ∨ kd t n (pl t n la) = 1) ∧ ∀ i, i ≤ la → kd t n (pl t n i) = 2 → I 148 i = nmV (vl t n (pl t n i))
theorem rnE_1 {q : Int32 → Bool} {t : RW} {n k : Nat} (hk : k < n) (h : q (t k) = true) : k < rnE q t (n - k) k := by
  rw [show n - k = (n - k - 1) + 1 by omega]
  unfold rnE
  rw [if_pos h]
  have := (rnE_ge (q := q) (t := t) (n - k - 1) (k + 1)).1
  omega
theorem en_gt {t : RW} {n k : Nat} (hk : k < n) : k < en t n k ∧ en t n k ≤ n := by
  unfold en
  rw [if_neg (by omega)]
  split
  · rename_i h
    have := (rnE_ge (q := lB) (t := t) (n - k) k).2
    exact ⟨rnE_1 hk h, by omega⟩
  · split
    · rename_i h
      have := (rnE_ge (q := dB) (t := t) (n - k) k).2
      exact ⟨rnE_1 hk h, by omega⟩
    · omega
theorem sk_le {t : RW} {n k : Nat} (hk : k ≤ n) : k ≤ sk t n k ∧ sk t n k ≤ n := by
  unfold sk
  have := rnE_ge (q := sB) (t := t) (n - k) k
  omega
theorem ps_le {t : RW} {n : Nat} : ∀ i, ps t n i ≤ n := by
  intro i
  induction i with
  | zero => exact Nat.zero_le _
  | succ i ih =>
    show en t n (sk t n (ps t n i)) ≤ n
    have h1 := sk_le (t := t) ih
    by_cases h : sk t n (ps t n i) < n
    · exact (en_gt h).2
    · unfold en
      rw [if_pos (by omega)]
      exact h1.2
theorem pl_le {t : RW} {n i : Nat} : pl t n i ≤ n := (sk_le (ps_le i)).2
theorem ps_s {t : RW} {n i : Nat} (h : i ≤ ps t n i) (h2 : pl t n i < n) : i + 1 ≤ ps t n (i + 1) := by
  have h1 := (sk_le (t := t) (ps_le (t := t) (n := n) i)).1
  have h3 := (en_gt (t := t) h2).1
  show i + 1 ≤ en t n (pl t n i)
  unfold pl at h3 ⊢
  omega
theorem nmR_ne {t : RW} {n k i j : Nat} {r : RW} (h : j ≠ i) : nmR t n k i r j = r j := by
  unfold nmR
  split
  · exact upd_ne h
  · rfl
theorem nmR_s {t : RW} {n k i : Nat} {r : RW} (h : kd t n k = 2) : nmR t n k i r i = nmV (vl t n k) := by
  have hl : lB (t k) = true := by
    unfold kd at h
    split at h
    · omega
    · split at h
      · assumption
      · split at h
        · split at h <;> omega
        · split at h <;> omega
  unfold nmR
  rw [if_pos hl, upd_same]
section TOK5
variable {b : Nat} {F : Nat → Option AE} {D E : Nat → Option KD} {I : Nat → Nat → Int32} {L : Nat → Nat → Int64} {P : Nat → Nat → Option Nat} {nx us : Nat}
theorem X_cut47 {z : ZX} {n : Nat} {t : RW} {k39 : Nat → Nat → Int32 → Int32 → Int32 → AH → Option AH} {i5 : Int32} (hn : n ≤ 400) (ht : I 39 = t) : ∀ (m k : Nat), k + m = n → ∀ fu, m < fu → f_X7_cut_47 z k39 fu (ad b 40) (ad b 39) (Int32.ofNat n) (Int32.ofNat k) i5 (lay b F E I L P nx us) = f_X7_cut_77 z k39 (ad b 40) (ad b 39) (Int32.ofNat n) (Int32.ofNat (rnE sB t m k)) i5 (lay b F E I L P nx us) := by
  intro m
  induction m with
  | zero =>
    intro k hk fu hf
    obtain ⟨fu, rfl⟩ : ∃ f, fu = f + 1 := ⟨fu - 1, by omega⟩
    have : k = n := by omega
    subst this
    unfold f_X7_cut_47
    rw [if_pos (Int32.le_refl _)]
    rfl
  | succ m ih =>
    intro k hk fu hf
    obtain ⟨fu, rfl⟩ : ∃ f, fu = f + 1 := ⟨fu - 1, by omega⟩
    have e2 := oN_leF (show k < n by omega) (by omega)
    have e3 : iN (Int32.ofNat k) 400 = some k := iN_oN (by omega) (by omega)
    have ih' := ih (k + 1) (by omega) fu (by omega)
    unfold rnE
    by_cases hs : sB (t k) = true
    · rw [if_pos hs]
      have hs' : t k = 32 ∨ t k = 10 := by
        unfold sB at hs
        rw [Bool.or_eq_true, decide_eq_true_eq, decide_eq_true_eq] at hs
        exact hs
      rcases hs' with hs' | hs'
      · simp (decide := true) only [f_X7_cut_47, f_X7_cut_71, e2, e3, ht, hs', oN_succ, isO_s, gI_s, gA_s, gL_s, pI_s, pZ_s, pL_s, aI_s, aL_s, aN_s, aQ_s, sI_s, sL_s, cr, LNs, Option.map_some, Option.map_none, Option.bind_some, b2, tr, lt, if_true, if_false, ckZ, X_within, M_in, inR_z, X_refuse, X_tell, X_deny, X_grant, M_refused, M_denied, M_done, M_granted, u2_same, u2_ne, u2_u2, upd_same, upd_ne, aW0, ixR_z, ixR_1, M_isWall, M_isPainter, M_isWork, X_has4, X_has10, X_at, or_false, false_or, or_true, true_or, not_true, not_false_iff, Option.isSome_some, isO_d, gI_d, gA_d, pI_d, ne_eq, not_false_eq_true, u2_hi, u2_hj, u2_dyn, u2_dynj, Nat.reduceAdd, mX_r, mX_rD, mX_rDj, mM_r, mX_u, mX_uM, mX_uD, mX_uDj, mM_u, mM_uX, mM_uD, mM_uDj, u2_dd, u2_d0, u2_0d]
        exact ih'
      · simp (decide := true) only [f_X7_cut_47, f_X7_cut_71, e2, e3, ht, hs', oN_succ, isO_s, gI_s, gA_s, gL_s, pI_s, pZ_s, pL_s, aI_s, aL_s, aN_s, aQ_s, sI_s, sL_s, cr, LNs, Option.map_some, Option.map_none, Option.bind_some, b2, tr, lt, if_true, if_false, ckZ, X_within, M_in, inR_z, X_refuse, X_tell, X_deny, X_grant, M_refused, M_denied, M_done, M_granted, u2_same, u2_ne, u2_u2, upd_same, upd_ne, aW0, ixR_z, ixR_1, M_isWall, M_isPainter, M_isWork, X_has4, X_has10, X_at, or_false, false_or, or_true, true_or, not_true, not_false_iff, Option.isSome_some, isO_d, gI_d, gA_d, pI_d, ne_eq, not_false_eq_true, u2_hi, u2_hj, u2_dyn, u2_dynj, Nat.reduceAdd, mX_r, mX_rD, mX_rDj, mM_r, mX_u, mX_uM, mX_uD, mX_uDj, mM_u, mM_uX, mM_uD, mM_uDj, u2_dd, u2_d0, u2_0d]
        exact ih'
    · rw [if_neg hs]
      have hs1 : ¬ t k = 32 := fun q => hs (by unfold sB; rw [q]; decide)
      have hs2 : ¬ t k = 10 := fun q => hs (by unfold sB; rw [q]; decide)
      simp (decide := true) only [f_X7_cut_47, e2, e3, ht, hs1, hs2, isO_s, gI_s, gA_s, gL_s, pI_s, pZ_s, pL_s, aI_s, aL_s, aN_s, aQ_s, sI_s, sL_s, cr, LNs, Option.map_some, Option.map_none, Option.bind_some, b2, tr, lt, if_true, if_false, ckZ, X_within, M_in, inR_z, X_refuse, X_tell, X_deny, X_grant, M_refused, M_denied, M_done, M_granted, u2_same, u2_ne, u2_u2, upd_same, upd_ne, aW0, ixR_z, ixR_1, M_isWall, M_isPainter, M_isWork, X_has4, X_has10, X_at, or_false, false_or, or_true, true_or, not_true, not_false_iff, Option.isSome_some, isO_d, gI_d, gA_d, pI_d, ne_eq, not_false_eq_true, u2_hi, u2_hj, u2_dyn, u2_dynj, Nat.reduceAdd, mX_r, mX_rD, mX_rDj, mM_r, mX_u, mX_uM, mX_uD, mX_uDj, mM_u, mM_uX, mM_uD, mM_uDj, u2_dd, u2_d0, u2_0d]
theorem X_cut39 {z : ZX} {n : Nat} {t : RW} (hz : GZ b F z) (hn : n ≤ 400) (hB : BY t n) : ∀ (d i : Nat), i + d = 400 → ∀ (fu : Nat) (I : Nat → Nat → Int32) (L : Nat → Nat → Int64), d < fu → I 39 = t → i ≤ ps t n i → (∀ j, j < i → I 41 j = Int32.ofNat (kd t n (pl t n j)) ∧ I 42 j = Int32.ofNat (pl t n j) ∧ L 43 j = vl t n (pl t n j) ∧ kd t n (pl t n j) ≠ 0 ∧ kd t n (pl t n j) ≠ 1 ∧ (kd t n (pl t n j) = 2 → I 148 j = nmV (vl t n (pl t n j)))) → ∃ la I' L', f_X7_cut_39 z fu (ad b 40) (ad b 39) (Int32.ofNat n) (Int32.ofNat (ps t n i)) (Int32.ofNat i) (lay b F E I L P nx us) = some (lay b F E I' L' P nx us) ∧ TX t n la I' L' ∧ (∀ c, c ≠ 40 → c ≠ 41 → c ≠ 42 → c ≠ 148 → I' c = I c) ∧ (∀ k, k ≠ 3 → I' 40 k = I 40 k) ∧ ∀ c, c ≠ 43 → L' c = L c := by
  intro d
  have hdone : ∀ (i : Nat) (fu : Nat) (I : Nat → Nat → Int32) (L : Nat → Nat → Int64), i ≤ 400 → I 39 = t → ¬ pl t n i < n → (∀ j, j < i → I 41 j = Int32.ofNat (kd t n (pl t n j)) ∧ I 42 j = Int32.ofNat (pl t n j) ∧ L 43 j = vl t n (pl t n j) ∧ kd t n (pl t n j) ≠ 0 ∧ kd t n (pl t n j) ≠ 1 ∧ (kd t n (pl t n j) = 2 → I 148 j = nmV (vl t n (pl t n j)))) → ∃ la I' L', f_X7_cut_39 z (fu + 1) (ad b 40) (ad b 39) (Int32.ofNat n) (Int32.ofNat (ps t n i)) (Int32.ofNat i) (lay b F E I L P nx us) = some (lay b F E I' L' P nx us) ∧ TX t n la I' L' ∧ (∀ c, c ≠ 40 → c ≠ 41 → c ≠ 42 → c ≠ 148 → I' c = I c) ∧ (∀ k, k ≠ 3 → I' 40 k = I 40 k) ∧ ∀ c, c ≠ 43 → L' c = L c := by
    intro i fu I L hi ht hnl hP
    have h4 : ((400 : Int32) < Int32.ofNat i) = False := eq_false (fun z => absurd ((oN_lt (a := 400) (by omega) (by omega)).mp z) (by omega))
    have e4 : iN (Int32.ofNat i) 401 = some i := iN_oN (by omega) (by omega)
    have hle := pl_le (t := t) (n := n) (i := i)
    have hpl : rnE sB t (n - ps t n i) (ps t n i) = pl t n i := rfl
    have h47 := X_cut47 (b := b) (F := F) (E := E) (I := I) (L := L) (P := P) (nx := nx) (us := us) (z := z) (k39 := f_X7_cut_39 z fu) (i5 := Int32.ofNat i) hn ht (n - ps t n i) (ps t n i) (by have := ps_le (t := t) (n := n) i; omega) FU (by unfold FU; omega)
    rw [hpl] at h47
    have hlt : (Int32.ofNat (pl t n i) < Int32.ofNat n) = False := eq_false (fun z => hnl ((oN_lt (by omega) (by omega)).mp z))
    have ek : kd t n (pl t n i) = 0 := by unfold kd; rw [if_pos (by omega)]
    refine ⟨i, u2 (u2 (u2 I 40 (upd (I 40) 3 (Int32.ofNat i))) 42 (upd (I 42) i (Int32.ofNat (pl t n i)))) 41 (upd (I 41) i 0), L, ?_, ?_, ?_, ?_, fun _ _ => rfl⟩
    · unfold f_X7_cut_39
      rw [if_neg (fun q => of_eq_false h4 q), h47]
      simp (decide := true) only [f_X7_cut_77, e4, hlt, isO_s, gI_s, gA_s, gL_s, pI_s, pZ_s, pL_s, aI_s, aL_s, aN_s, aQ_s, sI_s, sL_s, cr, LNs, Option.map_some, Option.map_none, Option.bind_some, b2, tr, lt, if_true, if_false, ckZ, X_within, M_in, inR_z, X_refuse, X_tell, X_deny, X_grant, M_refused, M_denied, M_done, M_granted, u2_same, u2_ne, u2_u2, upd_same, upd_ne, aW0, ixR_z, ixR_1, M_isWall, M_isPainter, M_isWork, X_has4, X_has10, X_at, or_false, false_or, or_true, true_or, not_true, not_false_iff, Option.isSome_some, isO_d, gI_d, gA_d, pI_d, ne_eq, not_false_eq_true, u2_hi, u2_hj, u2_dyn, u2_dynj, Nat.reduceAdd, mX_r, mX_rD, mX_rDj, mM_r, mX_u, mX_uM, mX_uD, mX_uDj, mM_u, mM_uX, mM_uD, mM_uDj, u2_dd, u2_d0, u2_0d]
    · refine ⟨hi, by simp (decide := true) only [u2_same, u2_ne, u2_u2, upd_same, upd_ne, mE, u2_dyn, dyn_u2, dyn_hi, u2_hi, u2_hj, u2_dynj, u2_dd, u2_d0, u2_0d], ?_, ?_, ?_⟩
      · intro j hj
        simp (decide := true) only [u2_same, u2_ne, u2_u2, upd_same, upd_ne, mE, u2_dyn, dyn_u2, dyn_hi, u2_hi, u2_hj, u2_dynj, u2_dd, u2_d0, u2_0d]
        by_cases hji : j = i
        · subst hji
          rw [upd_same, upd_same, ek]
          exact ⟨rfl, rfl, fun q => absurd rfl q⟩
        · rw [upd_ne hji, upd_ne hji]
          obtain ⟨a1, a2, a3, -⟩ := hP j (by omega)
          exact ⟨a1, a2, fun _ => a3⟩
      · exact fun j hj => ⟨(hP j hj).2.2.2.1, (hP j hj).2.2.2.2.1⟩
      · refine ⟨Or.inl ek, fun j hj hk => ?_⟩
        simp (decide := true) only [u2_same, u2_ne, u2_u2, upd_same, upd_ne, mE, u2_dyn, dyn_u2, dyn_hi, u2_hi, u2_hj, u2_dynj, u2_dd, u2_d0, u2_0d]
        exact (hP j (by rcases Nat.lt_or_ge j i with q | q; exact q; exfalso; rw [show j = i by omega] at hk; omega)).2.2.2.2.2 hk
    · intro c c1 c2 c3 c4
      rw [u2_ne c2, u2_ne c3, u2_ne c1]
    · intro k hk
      simp (decide := true) only [u2_same, u2_ne, u2_u2, upd_same, upd_ne, mE, u2_dyn, dyn_u2, dyn_hi, u2_hi, u2_hj, u2_dynj, u2_dd, u2_d0, u2_0d]
      exact upd_ne hk
  induction d with
  | zero =>
    intro i hi fu I L hf ht hge hP
    obtain ⟨fu, rfl⟩ : ∃ f, fu = f + 1 := ⟨fu - 1, by omega⟩
    have h1 := (sk_le (t := t) (ps_le (t := t) (n := n) i)).1
    have hx : pl t n i = sk t n (ps t n i) := rfl
    exact hdone i fu I L (by omega) ht (by omega) hP
  | succ d ih =>
    intro i hi fu I L hf ht hge hP
    obtain ⟨fu, rfl⟩ : ∃ f, fu = f + 1 := ⟨fu - 1, by omega⟩
    by_cases hnl : pl t n i < n
    · have h4 : ((400 : Int32) < Int32.ofNat i) = False := eq_false (fun z => absurd ((oN_lt (a := 400) (by omega) (by omega)).mp z) (by omega))
      have e4 : iN (Int32.ofNat i) 401 = some i := iN_oN (by omega) (by omega)
      have hpl : rnE sB t (n - ps t n i) (ps t n i) = pl t n i := rfl
      have h47 := X_cut47 (b := b) (F := F) (E := E) (I := I) (L := L) (P := P) (nx := nx) (us := us) (z := z) (k39 := f_X7_cut_39 z fu) (i5 := Int32.ofNat i) hn ht (n - ps t n i) (ps t n i) (by have := ps_le (t := t) (n := n) i; omega) FU (by unfold FU; omega)
      rw [hpl] at h47
      have hlt : (Int32.ofNat (pl t n i) < Int32.ofNat n) = True := eq_true ((oN_lt (by omega) (by omega)).mpr hnl)
      have htk := X_take (b := b) (F := F) (E := E) (I := u2 (u2 I 40 (upd (I 40) 3 (Int32.ofNat i))) 42 (upd (I 42) i (Int32.ofNat (pl t n i)))) (L := L) (P := P) (nx := nx) (us := us) (i := i) hz hn hB hnl (by omega) (by simp (decide := true) only [u2_same, u2_ne, u2_u2, upd_same, upd_ne, mE, u2_dyn, dyn_u2, dyn_hi, u2_hi, u2_hj, u2_dynj, u2_dd, u2_d0, u2_0d]; exact ht) (by simp (decide := true) only [u2_same, u2_ne, u2_u2, upd_same, upd_ne, mE, u2_dyn, dyn_u2, dyn_hi, u2_hi, u2_hj, u2_dynj, u2_dd, u2_d0, u2_0d])
      simp (decide := true) only [u2_same, u2_ne, u2_u2, upd_same, upd_ne, mE, u2_dyn, dyn_u2, dyn_hi, u2_hi, u2_hj, u2_dynj, u2_dd, u2_d0, u2_0d] at htk
      have es : ∀ (f : Nat → Int64) (x : Int64), vp_updL f i x i = x := fun f x => if_pos rfl
      have ene : ∀ (f : Nat → Int64) (x : Int64) (j : Nat), j ≠ i → vp_updL f i x j = f j := fun f x j h => if_neg h
      have ek0 : kd t n (pl t n i) ≠ 0 := by
        unfold kd
        rw [if_neg (by omega)]
        repeat' split
        all_goals omega
      have ek4 : kd t n (pl t n i) < 10 := by
        unfold kd
        repeat' split
        all_goals omega
      by_cases hb : kd t n (pl t n i) = 1
      · refine ⟨i, u2 (u2 (u2 (u2 I 40 (upd (I 40) 3 (Int32.ofNat i))) 42 (upd (I 42) i (Int32.ofNat (pl t n i)))) 41 (upd (I 41) i (Int32.ofNat (kd t n (pl t n i))))) 148 (nmR t n (pl t n i) i (I 148)), u2 L 43 (vp_updL (L 43) i (vl t n (pl t n i))), ?_, ?_, ?_, ?_, fun c hc => u2_ne hc⟩
        · unfold f_X7_cut_39
          rw [if_neg (fun q => of_eq_false h4 q), h47]
          have e1 : (Int32.ofNat 1 = 1) = True := eq_true rfl
          simp (decide := true) only [f_X7_cut_77, e4, hlt, htk, hb, e1, isO_s, gI_s, gA_s, gL_s, pI_s, pZ_s, pL_s, aI_s, aL_s, aN_s, aQ_s, sI_s, sL_s, cr, LNs, Option.map_some, Option.map_none, Option.bind_some, b2, tr, lt, if_true, if_false, ckZ, X_within, M_in, inR_z, X_refuse, X_tell, X_deny, X_grant, M_refused, M_denied, M_done, M_granted, u2_same, u2_ne, u2_u2, upd_same, upd_ne, aW0, ixR_z, ixR_1, M_isWall, M_isPainter, M_isWork, X_has4, X_has10, X_at, or_false, false_or, or_true, true_or, not_true, not_false_iff, Option.isSome_some, isO_d, gI_d, gA_d, pI_d, ne_eq, not_false_eq_true, u2_hi, u2_hj, u2_dyn, u2_dynj, Nat.reduceAdd, mX_r, mX_rD, mX_rDj, mM_r, mX_u, mX_uM, mX_uD, mX_uDj, mM_u, mM_uX, mM_uD, mM_uDj, u2_dd, u2_d0, u2_0d]
        · refine ⟨by omega, by simp (decide := true) only [u2_same, u2_ne, u2_u2, upd_same, upd_ne, mE, u2_dyn, dyn_u2, dyn_hi, u2_hi, u2_hj, u2_dynj, u2_dd, u2_d0, u2_0d], ?_, ?_, ?_⟩
          · intro j hj
            simp (decide := true) only [u2_same, u2_ne, u2_u2, upd_same, upd_ne, mE, u2_dyn, dyn_u2, dyn_hi, u2_hi, u2_hj, u2_dynj, u2_dd, u2_d0, u2_0d]
            by_cases hji : j = i
            · subst hji
              rw [upd_same, upd_same, es]
              exact ⟨rfl, rfl, fun q => rfl⟩
            · rw [upd_ne hji, upd_ne hji, ene _ _ _ hji]
              obtain ⟨a1, a2, a3, -⟩ := hP j (by omega)
              exact ⟨a1, a2, fun _ => a3⟩
          · exact fun j hj => ⟨(hP j hj).2.2.2.1, (hP j hj).2.2.2.2.1⟩
          · refine ⟨Or.inr hb, fun j hj hk => ?_⟩
            have hji : j ≠ i := fun q => by rw [q] at hk; omega
            simp (decide := true) only [u2_same, u2_ne, u2_u2, upd_same, upd_ne, mE, u2_dyn, dyn_u2, dyn_hi, u2_hi, u2_hj, u2_dynj, u2_dd, u2_d0, u2_0d]
            rw [nmR_ne hji]
            exact (hP j (by omega)).2.2.2.2.2 hk
        · intro c c1 c2 c3 c4
          rw [u2_ne c4, u2_ne c2, u2_ne c3, u2_ne c1]
        · intro k hk
          simp (decide := true) only [u2_same, u2_ne, u2_u2, upd_same, upd_ne, mE, u2_dyn, dyn_u2, dyn_hi, u2_hi, u2_hj, u2_dynj, u2_dd, u2_d0, u2_0d]
          exact upd_ne hk
      · have hb' : (Int32.ofNat (kd t n (pl t n i)) = 1) = False := eq_false (fun q => hb ((oN_eq (c := 1) (by omega) (by omega)).mp q))
        obtain ⟨la, I', L', z1, z2, z3, z4, z5⟩ := ih (i + 1) (by omega) fu (u2 (u2 (u2 (u2 I 40 (upd (I 40) 3 (Int32.ofNat i))) 42 (upd (I 42) i (Int32.ofNat (pl t n i)))) 41 (upd (I 41) i (Int32.ofNat (kd t n (pl t n i))))) 148 (nmR t n (pl t n i) i (I 148))) (u2 L 43 (vp_updL (L 43) i (vl t n (pl t n i)))) (by omega) (by simp (decide := true) only [u2_same, u2_ne, u2_u2, upd_same, upd_ne, mE, u2_dyn, dyn_u2, dyn_hi, u2_hi, u2_hj, u2_dynj, u2_dd, u2_d0, u2_0d]; exact ht) (ps_s hge hnl) (by
          intro j hj
          simp (decide := true) only [u2_same, u2_ne, u2_u2, upd_same, upd_ne, mE, u2_dyn, dyn_u2, dyn_hi, u2_hi, u2_hj, u2_dynj, u2_dd, u2_d0, u2_0d]
          by_cases hji : j = i
          · subst hji
            rw [upd_same, upd_same, es]
            exact ⟨rfl, rfl, rfl, ek0, hb, fun hk => nmR_s hk⟩
          · rw [upd_ne hji, upd_ne hji, ene _ _ _ hji, nmR_ne hji]
            exact hP j (by omega))
        refine ⟨la, I', L', ?_, z2, ?_, ?_, ?_⟩
        · unfold f_X7_cut_39
          rw [if_neg (fun q => of_eq_false h4 q), h47]
          simp (decide := true) only [f_X7_cut_77, e4, hlt, htk, hb', oN_succ, isO_s, gI_s, gA_s, gL_s, pI_s, pZ_s, pL_s, aI_s, aL_s, aN_s, aQ_s, sI_s, sL_s, cr, LNs, Option.map_some, Option.map_none, Option.bind_some, b2, tr, lt, if_true, if_false, ckZ, X_within, M_in, inR_z, X_refuse, X_tell, X_deny, X_grant, M_refused, M_denied, M_done, M_granted, u2_same, u2_ne, u2_u2, upd_same, upd_ne, aW0, ixR_z, ixR_1, M_isWall, M_isPainter, M_isWork, X_has4, X_has10, X_at, or_false, false_or, or_true, true_or, not_true, not_false_iff, Option.isSome_some, isO_d, gI_d, gA_d, pI_d, ne_eq, not_false_eq_true, u2_hi, u2_hj, u2_dyn, u2_dynj, Nat.reduceAdd, mX_r, mX_rD, mX_rDj, mM_r, mX_u, mX_uM, mX_uD, mX_uDj, mM_u, mM_uX, mM_uD, mM_uDj, u2_dd, u2_d0, u2_0d]
          exact z1
        · intro c c1 c2 c3 c4
          rw [z3 c c1 c2 c3 c4, u2_ne c4, u2_ne c2, u2_ne c3, u2_ne c1]
        · intro k hk
          rw [z4 k hk]
          simp (decide := true) only [u2_same, u2_ne, u2_u2, upd_same, upd_ne, mE, u2_dyn, dyn_u2, dyn_hi, u2_hi, u2_hj, u2_dynj, u2_dd, u2_d0, u2_0d]
          exact upd_ne hk
        · intro c hc
          rw [z5 c hc, u2_ne hc]
    · exact hdone i fu I L (by omega) ht hnl hP
theorem X_cut {z : ZX} {n : Nat} {t : RW} (hz : GZ b F z) (hn : n ≤ 400) (hB : BY t n) (ht : I 39 = t) : ∃ la I' L', f_X7_cut z (ad b 40) (ad b 39) (Int32.ofNat n) (lay b F E I L P nx us) = some (lay b F E I' L' P nx us) ∧ TX t n la I' L' ∧ (∀ c, c ≠ 40 → c ≠ 41 → c ≠ 42 → c ≠ 148 → I' c = I c) ∧ I' 40 4 = 0 ∧ I' 40 5 = 0 ∧ I' 40 6 = -1 ∧ ∀ c, c ≠ 43 → L' c = L c := by
  obtain ⟨la, I', L', z1, z2, z3, z4, z5⟩ := X_cut39 (b := b) (F := F) (E := E) (P := P) (nx := nx) (us := us) hz hn hB 400 0 rfl FU (u2 I 40 (upd (upd (upd (upd (I 40) 3 (-1)) 4 0) 5 0) 6 (-1))) L (by unfold FU; omega) (by simp (decide := true) only [u2_same, u2_ne, u2_u2, upd_same, upd_ne, mE, u2_dyn, dyn_u2, dyn_hi, u2_hi, u2_hj, u2_dynj, u2_dd, u2_d0, u2_0d]; exact ht) (Nat.zero_le _) (fun j hj => by omega)
  have hm : mnI (Int32.ofNat n) (mnI (Int32.ofNat 400) 400) = Int32.ofNat n := by
    have e1 : mnI (Int32.ofNat 400) 400 = Int32.ofNat 400 := by decide
    rw [e1]
    unfold mnI
    rw [if_neg (fun q => by have := (oN_lt (by omega) (by omega)).mp q; omega)]
  refine ⟨la, I', L', ?_, z2, ?_, ?_, ?_, ?_, z5⟩
  · rw [show Int32.ofNat (ps t n 0) = 0 from rfl, show Int32.ofNat 0 = 0 from rfl] at z1
    simp (decide := true) only [f_X7_cut, hm, isO_s, gI_s, gA_s, gL_s, pI_s, pZ_s, pL_s, aI_s, aL_s, aN_s, aQ_s, sI_s, sL_s, cr, LNs, Option.map_some, Option.map_none, Option.bind_some, b2, tr, lt, if_true, if_false, ckZ, X_within, M_in, inR_z, X_refuse, X_tell, X_deny, X_grant, M_refused, M_denied, M_done, M_granted, u2_same, u2_ne, u2_u2, upd_same, upd_ne, aW0, ixR_z, ixR_1, M_isWall, M_isPainter, M_isWork, X_has4, X_has10, X_at, or_false, false_or, or_true, true_or, not_true, not_false_iff, Option.isSome_some, isO_d, gI_d, gA_d, pI_d, ne_eq, not_false_eq_true, u2_hi, u2_hj, u2_dyn, u2_dynj, Nat.reduceAdd, mX_r, mX_rD, mX_rDj, mM_r, mX_u, mX_uM, mX_uD, mX_uDj, mM_u, mM_uX, mM_uD, mM_uDj, u2_dd, u2_d0, u2_0d]
    exact z1
  · intro c c1 c2 c3 c4
    rw [z3 c c1 c2 c3 c4, u2_ne c1]
  · rw [z4 4 (by decide)]; simp (decide := true) only [u2_same, u2_ne, u2_u2, upd_same, upd_ne, mE, u2_dyn, dyn_u2, dyn_hi, u2_hi, u2_hj, u2_dynj, u2_dd, u2_d0, u2_0d]
  · rw [z4 5 (by decide)]; simp (decide := true) only [u2_same, u2_ne, u2_u2, upd_same, upd_ne, mE, u2_dyn, dyn_u2, dyn_hi, u2_hi, u2_hj, u2_dynj, u2_dd, u2_d0, u2_0d]
  · rw [z4 6 (by decide)]; simp (decide := true) only [u2_same, u2_ne, u2_u2, upd_same, upd_ne, mE, u2_dyn, dyn_u2, dyn_hi, u2_hi, u2_hj, u2_dynj, u2_dd, u2_d0, u2_0d]
end TOK5
