/-! ===== right: both up to their ends; a new spare right ===== -/
theorem rg_c {t : RW} {n : Nat} : ∀ (f i k : Nat) (tot : Int32) (w p : RW) (c : Int32) (j : Nat), f + k = 9 → k ≤ 8 → rgS t n f i k tot w p = .inl (c, j) → c ≠ 0 := by
  intro f
  induction f with
  | zero => intro i k tot w p c j h1 h2; omega
  | succ f ih =>
    intro i k tot w p c j h1 h2 h
    have hE : ∀ (j' : Nat) (tot' : Int32) (w' p' : RW), k ≠ 8 → rgE t n j' (rgS t n f (j' + 1) (k + 1) tot' w' p') (.inr (k + 1, w', p')) = .inl (c, j) → c ≠ 0 := by
      intro j' tot' w' p' hk8 h
      unfold rgE at h
      split at h
      · exact ih _ _ _ _ _ _ _ (by omega) (by omega) h
      · split at h
        · cases h
        · cases h; decide
    unfold rgS at h
    split at h
    · cases h; decide
    · split at h
      · cases h; decide
      · split at h
        · cases h; decide
        · rename_i hk8
          split at h
          · exact hE _ _ _ _ hk8 h
          · split at h
            · cases h; decide
            · split at h
              · cases h; decide
              · split at h
                · cases h; decide
                · exact hE _ _ _ _ hk8 h
theorem GTap_BY {x m : RW} {n : Nat} (h : GTap x m) (hn : n ≤ 400) : BY x n := fun k hk => by
  obtain ⟨h1, h2, h3⟩ := h k (by omega)
  rw [h1]
  exact ⟨h2, h3⟩
section RGT4
variable {b : Nat} {F : Nat → Option AE} {D E : Nat → Option KD} {I : Nat → Nat → Int32} {L : Nat → Nat → Int64} {P : Nat → Nat → Option Nat} {nx us : Nat}
theorem X_rightR {z : ZX} {nr n : Nat} (hz : GZ b F z) (hn : n ≤ 400) (hG : GTap (I 39) (I 91)) (hr : nr ≤ 8) (h1 : I 54 1 = Int32.ofNat nr) : ∃ J M C, f_X7_cut z (ad b 40) (ad b 39) (Int32.ofNat n) (lay b F E (u2 I 0 (upd (I 0) 6 0)) L P nx us) = some (lay b F E C M P nx us) ∧ f_X5_read (ad b 54) (lay b F E C M P nx us) = some (lay b F E J M P nx us) ∧ (∀ c, c ≠ 43 → M c = L c) ∧ (∀ c, c ≠ 0 → c ≠ 40 → c ≠ 41 → c ≠ 42 → c ≠ 54 → c ≠ 55 → c ≠ 56 → c ≠ 57 → c ≠ 148 → J c = I c) ∧ J 0 = upd (I 0) 6 0 ∧ (∀ k, k ≠ 5 → J 54 k = I 54 k) ∧ (∀ j, j ≠ nr → J 55 j = I 55 j) ∧ (∀ x, x < 8 * nr → J 56 x = I 56 x ∧ J 57 x = I 57 x) ∧ RX nr (I 39) n (rgS (I 39) n 9 0 0 0 (fun _ => 0) (fun _ => 0)) J := by
  obtain ⟨la, Ic, Lc, z1, z2, z3, z4, z5, z6, z7⟩ := X_cut (b := b) (F := F) (E := E) (L := L) (P := P) (nx := nx) (us := us) (I := u2 I 0 (upd (I 0) 6 0)) (n := n) (t := I 39) hz hn (GTap_BY hG hn) (by simp (decide := true) only [u2_same, u2_ne, u2_u2, upd_same, upd_ne, mE, u2_dyn, dyn_u2, dyn_hi, u2_hi, u2_hj, u2_dynj, u2_dd, u2_d0, u2_0d])
  have c54 : Ic 54 = I 54 := by rw [z3 54 (by decide) (by decide) (by decide) (by decide)]; simp (decide := true) only [u2_same, u2_ne, u2_u2, upd_same, upd_ne, mE, u2_dyn, dyn_u2, dyn_hi, u2_hi, u2_hj, u2_dynj, u2_dd, u2_d0, u2_0d]
  have c0 : Ic 0 = upd (I 0) 6 0 := by rw [z3 0 (by decide) (by decide) (by decide) (by decide)]; simp (decide := true) only [u2_same, u2_ne, u2_u2, upd_same, upd_ne, mE, u2_dyn, dyn_u2, dyn_hi, u2_hi, u2_hj, u2_dynj, u2_dd, u2_d0, u2_0d]
  have cc : ∀ c, c ≠ 0 → c ≠ 40 → c ≠ 41 → c ≠ 42 → c ≠ 148 → Ic c = I c := fun c c1 c2 c3 c4 c5 => by rw [z3 c c2 c3 c4 c5, u2_ne c1]
  have enr : iN (Int32.ofNat nr) 9 = some nr := iN_oN (by omega) (by omega)
  have e8 : (Int32.ofNat nr ≤ 8) = True := eq_true (oN_leL hr (by decide))
  obtain ⟨J, y1, y2, y3⟩ := X_rd (b := b) (F := F) (E := E) (L := Lc) (P := P) (nx := nx) (us := us) (z := z) (nr := nr) (n := n) (la := la) (t := I 39) hz hr 9 0 0 0 (fun _ => 0) (fun _ => 0) (u2 (u2 Ic 55 (upd (Ic 55) nr 0)) 54 (upd (Ic 54) 5 0)) FU rfl (by omega) (by unfold FU; omega) (z2.fr (by simp (decide := true) only [u2_same, u2_ne, u2_u2, upd_same, upd_ne, mE, u2_dyn, dyn_u2, dyn_hi, u2_hi, u2_hj, u2_dynj, u2_dd, u2_d0, u2_0d]) (by simp (decide := true) only [u2_same, u2_ne, u2_u2, upd_same, upd_ne, mE, u2_dyn, dyn_u2, dyn_hi, u2_hi, u2_hj, u2_dynj, u2_dd, u2_d0, u2_0d]) (by simp (decide := true) only [u2_same, u2_ne, u2_u2, upd_same, upd_ne, mE, u2_dyn, dyn_u2, dyn_hi, u2_hi, u2_hj, u2_dynj, u2_dd, u2_d0, u2_0d]) (by simp (decide := true) only [u2_same, u2_ne, u2_u2, upd_same, upd_ne, mE, u2_dyn, dyn_u2, dyn_hi, u2_hi, u2_hj, u2_dynj, u2_dd, u2_d0, u2_0d])) (Nat.zero_le _) (by simp (decide := true) only [u2_same, u2_ne, u2_u2, upd_same, upd_ne, mE, u2_dyn, dyn_u2, dyn_hi, u2_hi, u2_hj, u2_dynj, u2_dd, u2_d0, u2_0d]; exact z4) (by simp (decide := true) only [u2_same, u2_ne, u2_u2, upd_same, upd_ne, mE, u2_dyn, dyn_u2, dyn_hi, u2_hi, u2_hj, u2_dynj, u2_dd, u2_d0, u2_0d]; exact z5) (by simp (decide := true) only [u2_same, u2_ne, u2_u2, upd_same, upd_ne, mE, u2_dyn, dyn_u2, dyn_hi, u2_hi, u2_hj, u2_dynj, u2_dd, u2_d0, u2_0d]; rw [c54]; exact h1) (by simp (decide := true) only [u2_same, u2_ne, u2_u2, upd_same, upd_ne, mE, u2_dyn, dyn_u2, dyn_hi, u2_hi, u2_hj, u2_dynj, u2_dd, u2_d0, u2_0d]) (by simp (decide := true) only [u2_same, u2_ne, u2_u2, upd_same, upd_ne, mE, u2_dyn, dyn_u2, dyn_hi, u2_hi, u2_hj, u2_dynj, u2_dd, u2_d0, u2_0d]) (fun l hl => by omega)
  obtain ⟨f1, f2, f3, f4, f5⟩ := y2
  refine ⟨J, Lc, Ic, z1, ?_, z7, ?_, ?_, ?_, ?_, ?_, y3⟩
  · rw [show Int32.ofNat 0 = 0 from rfl] at y1
    have h54 : Ic 54 1 = Int32.ofNat nr := by rw [c54]; exact h1
    simp (decide := true) only [f_X5_read_72, f_X5_read, h54, e8, enr, isO_s, gI_s, gA_s, gL_s, pI_s, pZ_s, pL_s, aI_s, aL_s, aN_s, aQ_s, sI_s, sL_s, cr, LNs, Option.map_some, Option.map_none, Option.bind_some, b2, tr, lt, if_true, if_false, ckZ, X_within, M_in, inR_z, X_refuse, X_tell, X_deny, X_grant, M_refused, M_denied, M_done, M_granted, u2_same, u2_ne, u2_u2, upd_same, upd_ne, aW0, ixR_z, ixR_1, M_isWall, M_isPainter, M_isWork, X_has4, X_has10, X_at, or_false, false_or, or_true, true_or, not_true, not_false_iff, Option.isSome_some, isO_d, gI_d, gA_d, pI_d, ne_eq, not_false_eq_true, u2_hi, u2_hj, u2_dyn, u2_dynj, Nat.reduceAdd, mX_r, mX_rD, mX_rDj, mM_r, mX_u, mX_uM, mX_uD, mX_uDj, mM_u, mM_uX, mM_uD, mM_uDj, u2_dd, u2_d0, u2_0d]
    exact y1
  · intro c c1 c2 c3 c4 c5 c6 c7 c8 c9
    rw [f1 c c2 c5 c6 c7 c8, u2_ne c5, u2_ne c6, cc c c1 c2 c3 c4 c9]
  · rw [f1 0 (by decide) (by decide) (by decide) (by decide) (by decide)]; simp (decide := true) only [u2_same, u2_ne, u2_u2, upd_same, upd_ne, mE, u2_dyn, dyn_u2, dyn_hi, u2_hi, u2_hj, u2_dynj, u2_dd, u2_d0, u2_0d]; exact c0
  · intro k hk
    rw [f3 k hk]; simp (decide := true) only [u2_same, u2_ne, u2_u2, upd_same, upd_ne, mE, u2_dyn, dyn_u2, dyn_hi, u2_hi, u2_hj, u2_dynj, u2_dd, u2_d0, u2_0d]
    rw [upd_ne hk, c54]
  · intro j hj
    rw [f4 j hj]; simp (decide := true) only [u2_same, u2_ne, u2_u2, upd_same, upd_ne, mE, u2_dyn, dyn_u2, dyn_hi, u2_hi, u2_hj, u2_dynj, u2_dd, u2_d0, u2_0d]
    rw [upd_ne hj, cc 55 (by decide) (by decide) (by decide) (by decide) (by decide)]
  · intro x hx
    obtain ⟨a1, a2⟩ := f5 x hx
    rw [a1, a2]; simp (decide := true) only [u2_same, u2_ne, u2_u2, upd_same, upd_ne, mE, u2_dyn, dyn_u2, dyn_hi, u2_hi, u2_hj, u2_dynj, u2_dd, u2_d0, u2_0d]
    rw [cc 56 (by decide) (by decide) (by decide) (by decide) (by decide), cc 57 (by decide) (by decide) (by decide) (by decide) (by decide)]
    exact ⟨rfl, rfl⟩
theorem M_rightR {z : ZX} {sp n tp : Nat} {t : RW} (hz : GZ b F z) (hn : n ≤ 400) (hB : BY t n) (ht : ∀ k, k < n → I 91 k = t k) (hsp : 145 ≤ sp) (hP : P 72 105 = some sp) (k0 : kdf E sp = some (.inr (13, true))) (k1 : kdf E (sp + 1) = some (.inl (0, 8))) (k2 : kdf E (sp + 2) = some (.inl (0, 8))) : ∃ o J M, f_X15_readRight z (ad b 72) (lay b F E (u2 I 72 (upd (upd (upd (upd (upd (upd (I 72) 0 0) 26 (Int32.ofNat n)) 25 0) 27 0) 3 0) 36 1)) L P nx us) = some (o, lay b F E J M P nx us) ∧ (∀ c, c ≠ 72 → M c = L c) ∧ (∀ j, j ≠ 37 → M 72 j = L 72 j) ∧ (∀ c, c ≠ 72 → c ≠ 90 → c ≠ sp → c ≠ sp + 1 → c ≠ sp + 2 → J c = I c) ∧ F72 (upd (upd (upd (upd (upd (upd (I 72) 0 0) 26 (Int32.ofNat n)) 25 0) 27 0) 3 0) 36 1) (J 72) ∧ (∀ k, k ≠ 6 → k ≠ 7 → J 90 k = I 90 k) ∧ RM b sp t n (rgS t n 9 0 0 0 (fun _ => 0) (fun _ => 0)) o J := by
  obtain ⟨r, l, z1, z2, z3, z4⟩ := M_nx0 (b := b) (F := F) (E := E) (L := L) (P := P) (nx := nx) (us := us) (I := u2 (u2 I 72 (upd (upd (upd (upd (upd (upd (I 72) 0 0) 26 (Int32.ofNat n)) 25 0) 27 0) 3 0) 36 1)) sp (upd (I sp) 0 0)) (n := n) (t := t) (rg := 1) hn hB (by rw [u2_ne (by omega)]; simp (decide := true) only [u2_same, u2_ne, u2_u2, upd_same, upd_ne, mE, u2_dyn, dyn_u2, dyn_hi, u2_hi, u2_hj, u2_dynj, u2_dd, u2_d0, u2_0d]) (by rw [u2_ne (by omega)]; simp (decide := true) only [u2_same, u2_ne, u2_u2, upd_same, upd_ne, mE, u2_dyn, dyn_u2, dyn_hi, u2_hi, u2_hj, u2_dynj, u2_dd, u2_d0, u2_0d]; exact ht) (by rw [u2_ne (by omega)]; simp (decide := true) only [u2_same, u2_ne, u2_u2, upd_same, upd_ne, mE, u2_dyn, dyn_u2, dyn_hi, u2_hi, u2_hj, u2_dynj, u2_dd, u2_d0, u2_0d]) (by rw [u2_ne (by omega)]; simp (decide := true) only [u2_same, u2_ne, u2_u2, upd_same, upd_ne, mE, u2_dyn, dyn_u2, dyn_hi, u2_hi, u2_hj, u2_dynj, u2_dd, u2_d0, u2_0d])
  rw [u2_ne (show 72 ≠ sp by omega), u2_same] at z2
  let Mb : Nat → Nat → Int32 := u2 (u2 I 72 (upd (upd (upd (upd (upd (upd (I 72) 0 0) 26 (Int32.ofNat n)) 25 0) 27 0) 3 0) 36 1)) sp (upd (I sp) 0 0)
  have hQ : QM t n 1 0 (u2 Mb 72 r) (u2 L 72 l) := by
    refine ⟨by rw [u2_same, u2_same]; exact z4, ?_, ?_, ?_⟩
    · rw [u2_same, z2 26 (by decide) (by decide) (by decide) (by decide) (by decide) (by decide)]; simp (decide := true) only [u2_same, u2_ne, u2_u2, upd_same, upd_ne, mE, u2_dyn, dyn_u2, dyn_hi, u2_hi, u2_hj, u2_dynj, u2_dd, u2_d0, u2_0d]
    · rw [u2_ne (by decide)]
      show ∀ k, k < n → u2 (u2 I 72 _) sp _ 91 k = t k
      rw [u2_ne (by omega), u2_ne (by decide)]
      exact ht
    · rw [u2_same, z2 36 (by decide) (by decide) (by decide) (by decide) (by decide) (by decide)]; simp (decide := true) only [u2_same, u2_ne, u2_u2, upd_same, upd_ne, mE, u2_dyn, dyn_u2, dyn_hi, u2_hi, u2_hj, u2_dynj, u2_dd, u2_d0, u2_0d]
  obtain ⟨o, J, M, y1, y2, y3, y4, y5⟩ := M_rd (b := b) (F := F) (E := E) (P := P) (nx := nx) (us := us) (z := z) hz hn hB hsp k0 k1 k2 9 0 0 0 (fun _ => 0) (fun _ => 0) (u2 Mb 72 r) (u2 L 72 l) (FU - 1) rfl (by omega) (by unfold FU; omega) hQ (by rw [u2_ne (by omega)]; show u2 (u2 I 72 _) sp _ sp 0 = _; rw [u2_same, upd_same]; rfl) (fun l hl => by omega)
  refine ⟨o, J, M, ?_, ?_, ?_, ?_, ?_, ?_, y5⟩
  · have hg : gA 15 (lay b F E (u2 I 72 (upd (upd (upd (upd (upd (upd (I 72) 0 0) 26 (Int32.ofNat n)) 25 0) 27 0) 3 0) 36 1)) L P nx us) (ad b 72) 105 = some (ad b sp) := by rw [gA_sP (by decide) (by decide) (by decide), hP]; rfl
    have hpi : pI 13 (lay b F E (u2 I 72 (upd (upd (upd (upd (upd (upd (I 72) 0 0) 26 (Int32.ofNat n)) 25 0) 27 0) 3 0) 36 1)) L P nx us) (ad b sp) 0 0 = some (lay b F E Mb L P nx us) := by
      rw [pI_d k0 (by decide), u2_ne (by omega)]
    rw [show FU - 1 + 1 = FU from rfl] at y1
    have z1' : f_X15_next (ad b 72) (lay b F E Mb L P nx us) = some (lay b F E (u2 Mb 72 r) (u2 L 72 l) P nx us) := z1
    simp (decide := true) only [f_X15_readRight, hg, hpi, z1', isO_s, gI_s, gL_s, pZ_s, pL_s, aI_s, aL_s, aN_s, aQ_s, sI_s, sL_s, cr, LNs, Option.map_some, Option.map_none, Option.bind_some, b2, tr, lt, if_true, if_false, ckZ, X_within, M_in, inR_z, X_refuse, X_tell, X_deny, X_grant, M_refused, M_denied, M_done, M_granted, u2_same, u2_ne, u2_u2, upd_same, upd_ne, aW0, ixR_z, ixR_1, M_isWall, M_isPainter, M_isWork, X_has4, X_has10, X_at, or_false, false_or, or_true, true_or, not_true, not_false_iff, Option.isSome_some, isO_d, gI_d, gA_d, ne_eq, not_false_eq_true, u2_hi, u2_hj, u2_dyn, u2_dynj, Nat.reduceAdd, mX_r, mX_rD, mX_rDj, mM_r, mX_u, mX_uM, mX_uD, mX_uDj, mM_u, mM_uX, mM_uD, mM_uDj, u2_dd, u2_d0, u2_0d]
    exact y1
  · intro c hc
    rw [y3 c hc, u2_ne hc]
  · intro j hj
    rw [y4 j hj, u2_same]
    exact z3 j hj
  · intro c c1 c2 c3 c4 c5
    rw [y2.1 c c1 c2 c3 c4 c5, u2_ne c1]
    show u2 (u2 I 72 _) sp _ c = _
    rw [u2_ne c3, u2_ne c1]
  · have h := y2.2.1
    rw [u2_same] at h
    exact z2.trans h
  · intro k k1' k2'
    rw [y2.2.2 k k1' k2', u2_ne (by decide)]
    show u2 (u2 I 72 _) sp _ 90 k = _
    rw [u2_ne (by omega), u2_ne (by decide)]
end RGT4
