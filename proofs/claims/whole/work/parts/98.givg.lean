/-! ===== give: all hopes ===== -/
/-- the hopes bound what can be, from place k on -/
def HBd (W : Nat → Nat → Int32) (np n k : Nat) (r : RW) : Prop := (∀ v, v < 2 ^ np → r (n * 2 ^ np + v) = 0) ∧ (∀ a, k ≤ a → a ≤ n → ∀ v, v < 2 ^ np → ∃ h, h ≤ (n - a) * 101760 ∧ r (a * 2 ^ np + v) = Int32.ofNat h) ∧ ∀ a, k ≤ a → a < n → ∀ v, v < 2 ^ np → r ((a + 1) * 2 ^ np + v) ≤ r (a * 2 ^ np + v) ∧ ∀ p, p < np → v.testBit p = false → ¬ W a p ≤ 0 → W a p + r ((a + 1) * 2 ^ np + (v ||| 2 ^ p)) ≤ r (a * 2 ^ np + v)
theorem hmF_bd {W : RW} {H : Nat → Int32} {u B : Nat} : ∀ (m i : Nat) (acc : Int32), (∃ x, x ≤ B ∧ acc = Int32.ofNat x) → (∀ p, i ≤ p → p < i + m → u.testBit p = false → ¬ W p ≤ 0 → ∃ y, y ≤ B ∧ W p + H (u ||| 2 ^ p) = Int32.ofNat y) → ∃ z, z ≤ B ∧ hmF W H u m i acc = Int32.ofNat z := by
  intro m
  induction m with
  | zero => intro i acc h _; exact h
  | succ m ih =>
    intro i acc h hp
    unfold hmF
    refine ih (i + 1) _ ?_ (fun p h1 h2 => hp p (by omega) (by omega))
    split
    · rename_i hc
      have h2 := hp i (Nat.le_refl _) (by omega) hc.1 hc.2
      unfold mxI
      split
      · first | exact h | exact h2
      · first | exact h2 | exact h
    · exact h
theorem h5R_out {W : RW} {np at0 : Nat} {H : Nat → Int32} {r : RW} {x : Nat} (h : (at0 + 1) * 2 ^ np ≤ x) : h5R W np at0 0 (2 ^ np) H r x = r x := by
  unfold h5R
  rw [Nat.succ_mul] at h
  rw [if_neg (by omega)]
theorem h5R_in {W : RW} {np at0 : Nat} {H : Nat → Int32} {r : RW} {v : Nat} (h : v < 2 ^ np) : h5R W np at0 0 (2 ^ np) H r (at0 * 2 ^ np + v) = hmF W H v np 0 (H v) := by
  unfold h5R
  rw [if_pos (by omega), show at0 * 2 ^ np + v - at0 * 2 ^ np = v by omega]
theorem HBd_s {W : Nat → Nat → Int32} {np n k : Nat} {r : RW} (hk : k < n) (hW : ∀ p, p < np → ∃ w, w ≤ 101760 ∧ W k p = Int32.ofNat w) (h : HBd W np n (k + 1) r) : HBd W np n k (h5R (W k) np k 0 (2 ^ np) (fun v => r ((k + 1) * 2 ^ np + v)) r) := by
  have ho : ∀ a v, k < a → h5R (W k) np k 0 (2 ^ np) (fun v => r ((k + 1) * 2 ^ np + v)) r (a * 2 ^ np + v) = r (a * 2 ^ np + v) := by
    intro a v ha
    refine h5R_out ?_
    have : (k + 1) * 2 ^ np ≤ a * 2 ^ np := Nat.mul_le_mul_right _ (by omega)
    omega
  refine ⟨fun v hv => by rw [ho n v hk]; exact h.1 v hv, ?_, ?_⟩
  · intro a ha han v hv
    by_cases e : a = k
    · subst e
      rw [h5R_in hv]
      have hm : (n - a) * 101760 = (n - (a + 1)) * 101760 + 101760 := by rw [show n - a = n - (a + 1) + 1 by omega, Nat.succ_mul]
      refine hmF_bd np 0 _ ?_ ?_
      · obtain ⟨x, hx, ex⟩ := h.2.1 (a + 1) (Nat.le_refl _) (by omega) v hv
        exact ⟨x, Nat.le_trans hx (by rw [hm]; exact Nat.le_add_right _ _), ex⟩
      · intro p _ hp hb _
        obtain ⟨w, hw, ew⟩ := hW p (by omega)
        obtain ⟨x, hx, ex⟩ := h.2.1 (a + 1) (Nat.le_refl _) (by omega) (v ||| 2 ^ p) (Nat.or_lt_two_pow hv (Nat.pow_lt_pow_right (by omega) (by omega)))
        refine ⟨w + x, by rw [hm, Nat.add_comm w x]; exact Nat.add_le_add hx hw, ?_⟩
        show W a p + r ((a + 1) * 2 ^ np + (v ||| 2 ^ p)) = _
        rw [ew, ex, oN_add]
    · rw [ho a v (by omega)]
      exact h.2.1 a (by omega) han v hv
  intro a ha han v hv
  by_cases e : a = k
  · subst e
    rw [h5R_in hv, ho (a + 1) v (by omega)]
    refine ⟨hmF_ge np 0 _, ?_⟩
    intro p hp hb hw
    rw [ho (a + 1) _ (by omega)]
    exact hmF_at (W := W a) (H := fun v => r ((a + 1) * 2 ^ np + v)) np 0 _ p (by omega) (by omega) hb hw
  · rw [ho a v (by omega), ho (a + 1) v (by omega)]
    obtain ⟨g1, g2⟩ := h.2.2 a (by omega) han v hv
    refine ⟨g1, ?_⟩
    intro p hp hb hw
    rw [ho (a + 1) _ (by omega)]
    exact g2 p hp hb hw
section GIVG
variable {b : Nat} {F : Nat → Option AE} {D E : Nat → Option KD} {I : Nat → Nat → Int32} {L : Nat → Nat → Int64} {P : Nat → Nat → Option Nat} {nx us : Nat}
theorem X_h50 {np n hc len : Nat} (hp : I 5 0 = Int32.ofNat np) (hp1 : np ≤ 10) (hn6 : n ≤ 6) (hP : P 26 7 = some hc) (hK : kdf E hc = some (.inl (0, len))) (hlen : (n + 1) * 2 ^ np ≤ len) (hl2 : len ≤ 100000) (hc5 : hc ≠ 5) (hc28 : hc ≠ 28) (hW : ∀ a p, a < n → p < np → ∃ w, w ≤ 101760 ∧ I 28 (10 * a + p) = Int32.ofNat w) : ∀ (k : Nat), k ≤ n → ∀ (fu : Nat) (r : RW), k < fu → HBd (fun a p => I 28 (10 * a + p)) np n k r → ∃ r', f_X3_reckonHopes_50 fu (ad b 26) (Int32.ofNat (2 ^ np)) (Int32.ofNat k - 1) (lay b F E (u2 I hc r) L P nx us) = some (lay b F E (u2 I hc r') L P nx us) ∧ HBd (fun a p => I 28 (10 * a + p)) np n 0 r' := by
  intro k
  induction k with
  | zero =>
    intro hk fu r hf hB
    obtain ⟨fu, rfl⟩ : ∃ f, fu = f + 1 := ⟨fu - 1, by omega⟩
    have e : (Int32.ofNat 0 - 1 < 0) = True := eq_true (by decide)
    refine ⟨r, ?_, hB⟩
    simp (decide := true) only [f_X3_reckonHopes_50, e, isO_s, gI_s, gA_s, gL_s, pI_s, pZ_s, pL_s, aI_s, aL_s, aN_s, aQ_s, sI_s, sL_s, cr, LNs, Option.map_some, Option.map_none, Option.bind_some, b2, tr, lt, if_true, if_false, ckZ, X_within, M_in, inR_z, X_refuse, X_tell, X_deny, X_grant, M_refused, M_denied, M_done, M_granted, u2_same, u2_ne, u2_u2, upd_same, upd_ne, aW0, ixR_z, ixR_1, M_isWall, M_isPainter, M_isWork, X_has4, X_has10, X_at, or_false, false_or, or_true, true_or, not_true, not_false_iff, Option.isSome_some, isO_d, gI_d, gA_d, pI_d, ne_eq, not_false_eq_true, u2_hi, u2_hj, u2_dyn, u2_dynj, Nat.reduceAdd, mX_r, mX_rD, mX_rDj, mM_r, mX_u, mX_uM, mX_uD, mX_uDj, mM_u, mM_uX, mM_uD, mM_uDj, u2_dd, u2_d0, u2_0d]
  | succ k ih =>
    intro hk fu r hf hB
    obtain ⟨fu, rfl⟩ : ∃ f, fu = f + 1 := ⟨fu - 1, by omega⟩
    have e2 := (shl_at np (by omega) k (by omega)).2
    have e := oN_neg (w := k) (by omega)
    have h1 := X_h57 (b := b) (F := F) (E := E) (L := L) (P := P) (nx := nx) (us := us) (I := I) (at0 := k) (k50 := f_X3_reckonHopes_50 fu) (H := fun v => r ((k + 1) * 2 ^ np + v)) hp hp1 hn6 hP hK hlen hl2 (by omega) hc5 hc28 (2 ^ np) 0 (by omega) FU r (by unfold FU; omega) (fun v => rfl)
    obtain ⟨r', g1, g2⟩ := ih (by omega) fu _ (by omega) (HBd_s (W := fun a p => I 28 (10 * a + p)) (by omega) (fun p hp => hW k p (by omega) hp) hB)
    refine ⟨r', ?_, g2⟩
    have em : Int32.ofNat k + (-1) = Int32.ofNat k - 1 := by grind
    rw [em] at h1
    rw [oN_pred]
    simp (decide := true) only [f_X3_reckonHopes_50, e, isO_s, gI_s, gA_s, gL_s, pI_s, pZ_s, pL_s, aI_s, aL_s, aN_s, aQ_s, sI_s, sL_s, cr, LNs, Option.map_some, Option.map_none, Option.bind_some, b2, tr, lt, if_true, if_false, ckZ, X_within, M_in, inR_z, X_refuse, X_tell, X_deny, X_grant, M_refused, M_denied, M_done, M_granted, u2_same, u2_ne, u2_u2, upd_same, upd_ne, aW0, ixR_z, ixR_1, M_isWall, M_isPainter, M_isWork, X_has4, X_has10, X_at, or_false, false_or, or_true, true_or, not_true, not_false_iff, Option.isSome_some, isO_d, gI_d, gA_d, pI_d, ne_eq, not_false_eq_true, u2_hi, u2_hj, u2_dyn, u2_dynj, Nat.reduceAdd, mX_r, mX_rD, mX_rDj, mM_r, mX_u, mX_uM, mX_uD, mX_uDj, mM_u, mM_uX, mM_uD, mM_uDj, u2_dd, u2_d0, u2_0d]
    exact h1.trans g1
end GIVG
