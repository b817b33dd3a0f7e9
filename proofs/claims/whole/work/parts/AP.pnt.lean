/-! ===== painting: dots ===== -/
/-- a dot, if it lies on the wall and on no hole -/
def pd (W H : Nat) (ho r : RW) (x y t : Int32) : RW := if ¬ x < 0 ∧ x < Int32.ofNat W ∧ ¬ y < 0 ∧ y < Int32.ofNat H ∧ ho (y.toNatClampNeg * W + x.toNatClampNeg) = 0 then upd r (y.toNatClampNeg * W + x.toNatClampNeg) t else r
/-- rows that agree on the canvas -/
def A192 (r r' : RW) : Prop := ∀ k, k < 192 → r k = r' k
theorem pd_A {W H : Nat} {ho r r' : RW} {x y t : Int32} (h : A192 r r') : A192 (pd W H ho r x y t) (pd W H ho r' x y t) := by
  intro k hk
  unfold pd
  split
  · unfold upd
    split
    · rfl
    · exact h k hk
  · exact h k hk
theorem pd_in {W H kx ky : Nat} {ho r : RW} {t : Int32} (hx : kx < W) (hy : ky < H) (hW : W ≤ 16) (hH : H ≤ 12) : pd W H ho r (Int32.ofNat kx) (Int32.ofNat ky) t = if ho (ky * W + kx) = 0 then upd r (ky * W + kx) t else r := by
  have nn : ∀ k, k < 2147483648 → ¬ Int32.ofNat k < 0 := fun k hk q => by have := (oN_lt (c := 0) hk (by omega)).mp q; omega
  unfold pd
  rw [oN_nn (by omega), oN_nn (by omega)]
  by_cases h : ho (ky * W + kx) = 0
  · rw [if_pos ⟨nn kx (by omega), (oN_lt (by omega) (by omega)).mpr hx, nn ky (by omega), (oN_lt (by omega) (by omega)).mpr hy, h⟩, if_pos h]
  · rw [if_neg (fun q => h q.2.2.2.2), if_neg h]
theorem cell_lt {W H kx ky : Nat} (hx : kx < W) (hy : ky < H) (hW : W ≤ 16) (hH : H ≤ 12) : ky * W + kx < 192 := by
  have h1 : (ky + 1) * W ≤ 12 * 16 := Nat.mul_le_mul (by omega) hW
  rw [Nat.add_mul, Nat.one_mul] at h1
  omega
theorem cell_l2 {W H kx ky : Nat} (hx : kx < W) (hy : ky < H) : ky * W + kx < W * H := by
  have h1 : (ky + 1) * W ≤ H * W := Nat.mul_le_mul_right W (by omega)
  rw [Nat.add_mul, Nat.one_mul, Nat.mul_comm H W] at h1
  omega
theorem tint8 : ∀ v, v < 8 → aW 1 (Int32.ofNat v).toInt8.toInt32 = Int32.ofNat v := by decide +kernel
/-- the cells of a canvas of the class -/
def CV (cv : Nat) : Prop := cv = 58 ∨ cv = 65
section PNT
variable {b : Nat} {F : Nat → Option AE} {D E : Nat → Option KD} {I : Nat → Nat → Int32} {L : Nat → Nat → Int64} {P : Nat → Nat → Option Nat} {nx us : Nat}
theorem X_dot {cv W H kx ky v : Nat} (hcv : CV cv) (h1 : I cv 1 = Int32.ofNat W) (hx : kx < W) (hy : ky < H) (hW : W ≤ 16) (hH : H ≤ 12) (hv : v < 8) : f_X0_dot (ad b cv) (Int32.ofNat kx) (Int32.ofNat ky) (Int32.ofNat v) (lay b F E I L P nx us) = some (lay b F E (u2 I (cv + 1) (pd W H (I (cv + 2)) (I (cv + 1)) (Int32.ofNat kx) (Int32.ofNat ky) (Int32.ofNat v))) L P nx us) := by
  have hc := cell_lt hx hy hW hH
  have e1 : Int32.ofNat ky * Int32.ofNat W + Int32.ofNat kx = Int32.ofNat (ky * W + kx) := by rw [oN_mul, oN_add]
  have e2 : (Int32.ofNat (ky * W + kx) < 0) = False := eq_false (fun q => by have := (oN_lt (c := 0) (by omega) (by omega)).mp q; omega)
  have e3 : (Int32.ofNat 192 ≤ Int32.ofNat (ky * W + kx)) = False := eq_false (fun q => by have := (oN_le (a := 192) (by omega) (by omega)).mp q; omega)
  have e4 : iN (Int32.ofNat (ky * W + kx)) 192 = some (ky * W + kx) := iN_oN hc (by omega)
  have ev := tint8 v hv
  rw [pd_in hx hy hW hH]
  rcases hcv with rfl | rfl
  · by_cases hh : I 60 (ky * W + kx) = 0
    · rw [if_pos hh]
      simp (decide := true) only [f_X0_dot_44, f_X0_dot, h1, e1, e2, e3, e4, hh, ev, isO_s, gI_s, gA_s, gL_s, pI_s, pZ_s, pL_s, aI_s, aL_s, aN_s, aQ_s, sI_s, sL_s, cr, LNs, Option.map_some, Option.map_none, Option.bind_some, b2, tr, lt, if_true, if_false, ckZ, X_within, M_in, inR_z, X_refuse, X_tell, X_deny, X_grant, M_refused, M_denied, M_done, M_granted, u2_same, u2_ne, u2_u2, upd_same, upd_ne, aW0, ixR_z, ixR_1, M_isWall, M_isPainter, M_isWork, X_has4, X_has10, X_at, or_false, false_or, or_true, true_or, not_true, not_false_iff, Option.isSome_some, isO_d, gI_d, gA_d, pI_d, ne_eq, not_false_eq_true, u2_hi, u2_hj, u2_dyn, u2_dynj, Nat.reduceAdd, mX_r, mX_rD, mX_rDj, mM_r, mX_u, mX_uM, mX_uD, mX_uDj, mM_u, mM_uX, mM_uD, mM_uDj, u2_dd, u2_d0, u2_0d]
    · rw [if_neg hh, u2_id]
      simp (decide := true) only [f_X0_dot_44, f_X0_dot, h1, e1, e2, e3, e4, hh, isO_s, gI_s, gA_s, gL_s, pI_s, pZ_s, pL_s, aI_s, aL_s, aN_s, aQ_s, sI_s, sL_s, cr, LNs, Option.map_some, Option.map_none, Option.bind_some, b2, tr, lt, if_true, if_false, ckZ, X_within, M_in, inR_z, X_refuse, X_tell, X_deny, X_grant, M_refused, M_denied, M_done, M_granted, u2_same, u2_ne, u2_u2, upd_same, upd_ne, aW0, ixR_z, ixR_1, M_isWall, M_isPainter, M_isWork, X_has4, X_has10, X_at, or_false, false_or, or_true, true_or, not_true, not_false_iff, Option.isSome_some, isO_d, gI_d, gA_d, pI_d, ne_eq, not_false_eq_true, u2_hi, u2_hj, u2_dyn, u2_dynj, Nat.reduceAdd, mX_r, mX_rD, mX_rDj, mM_r, mX_u, mX_uM, mX_uD, mX_uDj, mM_u, mM_uX, mM_uD, mM_uDj, u2_dd, u2_d0, u2_0d]
  · by_cases hh : I 67 (ky * W + kx) = 0
    · rw [if_pos hh]
      simp (decide := true) only [f_X0_dot_44, f_X0_dot, h1, e1, e2, e3, e4, hh, ev, isO_s, gI_s, gA_s, gL_s, pI_s, pZ_s, pL_s, aI_s, aL_s, aN_s, aQ_s, sI_s, sL_s, cr, LNs, Option.map_some, Option.map_none, Option.bind_some, b2, tr, lt, if_true, if_false, ckZ, X_within, M_in, inR_z, X_refuse, X_tell, X_deny, X_grant, M_refused, M_denied, M_done, M_granted, u2_same, u2_ne, u2_u2, upd_same, upd_ne, aW0, ixR_z, ixR_1, M_isWall, M_isPainter, M_isWork, X_has4, X_has10, X_at, or_false, false_or, or_true, true_or, not_true, not_false_iff, Option.isSome_some, isO_d, gI_d, gA_d, pI_d, ne_eq, not_false_eq_true, u2_hi, u2_hj, u2_dyn, u2_dynj, Nat.reduceAdd, mX_r, mX_rD, mX_rDj, mM_r, mX_u, mX_uM, mX_uD, mX_uDj, mM_u, mM_uX, mM_uD, mM_uDj, u2_dd, u2_d0, u2_0d]
    · rw [if_neg hh, u2_id]
      simp (decide := true) only [f_X0_dot_44, f_X0_dot, h1, e1, e2, e3, e4, hh, isO_s, gI_s, gA_s, gL_s, pI_s, pZ_s, pL_s, aI_s, aL_s, aN_s, aQ_s, sI_s, sL_s, cr, LNs, Option.map_some, Option.map_none, Option.bind_some, b2, tr, lt, if_true, if_false, ckZ, X_within, M_in, inR_z, X_refuse, X_tell, X_deny, X_grant, M_refused, M_denied, M_done, M_granted, u2_same, u2_ne, u2_u2, upd_same, upd_ne, aW0, ixR_z, ixR_1, M_isWall, M_isPainter, M_isWork, X_has4, X_has10, X_at, or_false, false_or, or_true, true_or, not_true, not_false_iff, Option.isSome_some, isO_d, gI_d, gA_d, pI_d, ne_eq, not_false_eq_true, u2_hi, u2_hj, u2_dyn, u2_dynj, Nat.reduceAdd, mX_r, mX_rD, mX_rDj, mM_r, mX_u, mX_uM, mX_uD, mX_uDj, mM_u, mM_uX, mM_uD, mM_uDj, u2_dd, u2_d0, u2_0d]
theorem M_dot {W H w : Nat} {ho : RW} (hW1 : 1 ≤ W) (hW : W ≤ 16) (hH1 : 1 ≤ H) (hH : H ≤ 12) (hw : w < 16) (h47 : I 72 47 = Int32.ofNat w) (h73 : I 73 w = Int32.ofNat W) (h74 : I 74 w = Int32.ofNat H) (hho : ∀ c, c < W * H → (I 84 (192 * w + c) = 0 ↔ ho c = 0)) (x y t : Int32) : f_X15_dot (ad b 72) x y t (lay b F E I L P nx us) = some (lay b F E (u2 I 106 (pd W H ho (I 106) x y t)) L P nx us) := by
  have ew : iN (Int32.ofNat w) 16 = some w := iN_oN hw (by omega)
  have eW : Int32.ofNat W - 1 = Int32.ofNat (W - 1) := by
    obtain ⟨k, rfl⟩ : ∃ k, W = k + 1 := ⟨W - 1, by omega⟩
    exact oN_pred k
  have eH : Int32.ofNat H - 1 = Int32.ofNat (H - 1) := by
    obtain ⟨k, rfl⟩ : ∃ k, H = k + 1 := ⟨H - 1, by omega⟩
    exact oN_pred k
  have out : ∀ (p : Int32) (m : Nat), 1 ≤ m → m ≤ 16 → (p < 0 ∨ Int32.ofNat (m - 1) < p) → ¬ (¬ p < 0 ∧ p < Int32.ofNat m) := by
    intro p m m1 m2 h1 h2
    obtain ⟨k, hk, rfl⟩ := nn_oN h2.1
    have h3 := (oN_lt hk (by omega)).mp h2.2
    rcases h1 with h1 | h1
    · exact h2.1 h1
    · have := (oN_lt (by omega) hk).mp h1
      omega
  by_cases hx : x < 0 ∨ Int32.ofNat (W - 1) < x
  · have : pd W H ho (I 106) x y t = I 106 := if_neg (fun q => out x W hW1 hW hx ⟨q.1, q.2.1⟩)
    rw [this, u2_id]
    simp (decide := true) only [f_X15_dot_56, f_X15_dot, h47, ew, h73, eW, hx, isO_s, gI_s, gA_s, gL_s, pI_s, pZ_s, pL_s, aI_s, aL_s, aN_s, aQ_s, sI_s, sL_s, cr, LNs, Option.map_some, Option.map_none, Option.bind_some, b2, tr, lt, if_true, if_false, ckZ, X_within, M_in, inR_z, X_refuse, X_tell, X_deny, X_grant, M_refused, M_denied, M_done, M_granted, u2_same, u2_ne, u2_u2, upd_same, upd_ne, aW0, ixR_z, ixR_1, M_isWall, M_isPainter, M_isWork, X_has4, X_has10, X_at, or_false, false_or, or_true, true_or, not_true, not_false_iff, Option.isSome_some, isO_d, gI_d, gA_d, pI_d, ne_eq, not_false_eq_true, u2_hi, u2_hj, u2_dyn, u2_dynj, Nat.reduceAdd, mX_r, mX_rD, mX_rDj, mM_r, mX_u, mX_uM, mX_uD, mX_uDj, mM_u, mM_uX, mM_uD, mM_uDj, u2_dd, u2_d0, u2_0d]
  · obtain ⟨kx, hkx, rfl⟩ := lo_of hx (by omega)
    by_cases hy : y < 0 ∨ Int32.ofNat (H - 1) < y
    · have : pd W H ho (I 106) (Int32.ofNat kx) y t = I 106 := if_neg (fun q => out y H hH1 (by omega) hy ⟨q.2.2.1, q.2.2.2.1⟩)
      rw [this, u2_id]
      simp (decide := true) only [f_X15_dot_56, f_X15_dot, h47, ew, h73, h74, eW, eH, hx, hy, isO_s, gI_s, gA_s, gL_s, pI_s, pZ_s, pL_s, aI_s, aL_s, aN_s, aQ_s, sI_s, sL_s, cr, LNs, Option.map_some, Option.map_none, Option.bind_some, b2, tr, lt, if_true, if_false, ckZ, X_within, M_in, inR_z, X_refuse, X_tell, X_deny, X_grant, M_refused, M_denied, M_done, M_granted, u2_same, u2_ne, u2_u2, upd_same, upd_ne, aW0, ixR_z, ixR_1, M_isWall, M_isPainter, M_isWork, X_has4, X_has10, X_at, or_false, false_or, or_true, true_or, not_true, not_false_iff, Option.isSome_some, isO_d, gI_d, gA_d, pI_d, ne_eq, not_false_eq_true, u2_hi, u2_hj, u2_dyn, u2_dynj, Nat.reduceAdd, mX_r, mX_rD, mX_rDj, mM_r, mX_u, mX_uM, mX_uD, mX_uDj, mM_u, mM_uX, mM_uD, mM_uDj, u2_dd, u2_d0, u2_0d]
    · obtain ⟨ky, hky, rfl⟩ := lo_of hy (by omega)
      have hc := cell_lt (show kx < W by omega) (show ky < H by omega) hW hH
      have hcw := cell_l2 (show kx < W by omega) (show ky < H by omega)
      have e1 : 192 * Int32.ofNat w + Int32.ofNat W * Int32.ofNat ky + Int32.ofNat kx = Int32.ofNat (192 * w + (ky * W + kx)) := by
        rw [show (192 : Int32) = Int32.ofNat 192 from rfl, oN_mul, oN_mul, oN_add, oN_add, Nat.mul_comm W ky, Nat.add_assoc]
      have e2 : Int32.ofNat W * Int32.ofNat ky + Int32.ofNat kx = Int32.ofNat (ky * W + kx) := by rw [oN_mul, oN_add, Nat.mul_comm W ky]
      have e4 : iN (Int32.ofNat (ky * W + kx)) 192 = some (ky * W + kx) := iN_oN hc (by omega)
      have e5 : iN (Int32.ofNat (192 * w + (ky * W + kx))) 3072 = some (192 * w + (ky * W + kx)) := iN_oN (by omega) (by omega)
      rw [pd_in (by omega) (by omega) hW hH]
      by_cases hh : ho (ky * W + kx) = 0
      · have hh2 := (hho _ hcw).mpr hh
        rw [if_pos hh]
        simp (decide := true) only [f_X15_dot_56, f_X15_dot, f_X15_cellOf, h47, ew, h73, h74, eW, eH, hx, hy, e1, e2, e4, e5, hh2, isO_s, gI_s, gA_s, gL_s, pI_s, pZ_s, pL_s, aI_s, aL_s, aN_s, aQ_s, sI_s, sL_s, cr, LNs, Option.map_some, Option.map_none, Option.bind_some, b2, tr, lt, if_true, if_false, ckZ, X_within, M_in, inR_z, X_refuse, X_tell, X_deny, X_grant, M_refused, M_denied, M_done, M_granted, u2_same, u2_ne, u2_u2, upd_same, upd_ne, aW0, ixR_z, ixR_1, M_isWall, M_isPainter, M_isWork, X_has4, X_has10, X_at, or_false, false_or, or_true, true_or, not_true, not_false_iff, Option.isSome_some, isO_d, gI_d, gA_d, pI_d, ne_eq, not_false_eq_true, u2_hi, u2_hj, u2_dyn, u2_dynj, Nat.reduceAdd, mX_r, mX_rD, mX_rDj, mM_r, mX_u, mX_uM, mX_uD, mX_uDj, mM_u, mM_uX, mM_uD, mM_uDj, u2_dd, u2_d0, u2_0d]
      · have hh2 : ¬ I 84 (192 * w + (ky * W + kx)) = 0 := fun q => hh ((hho _ hcw).mp q)
        rw [if_neg hh, u2_id]
        simp (decide := true) only [f_X15_dot_56, f_X15_dot, f_X15_cellOf, h47, ew, h73, h74, eW, eH, hx, hy, e1, e2, e4, e5, hh2, isO_s, gI_s, gA_s, gL_s, pI_s, pZ_s, pL_s, aI_s, aL_s, aN_s, aQ_s, sI_s, sL_s, cr, LNs, Option.map_some, Option.map_none, Option.bind_some, b2, tr, lt, if_true, if_false, ckZ, X_within, M_in, inR_z, X_refuse, X_tell, X_deny, X_grant, M_refused, M_denied, M_done, M_granted, u2_same, u2_ne, u2_u2, upd_same, upd_ne, aW0, ixR_z, ixR_1, M_isWall, M_isPainter, M_isWork, X_has4, X_has10, X_at, or_false, false_or, or_true, true_or, not_true, not_false_iff, Option.isSome_some, isO_d, gI_d, gA_d, pI_d, ne_eq, not_false_eq_true, u2_hi, u2_hj, u2_dyn, u2_dynj, Nat.reduceAdd, mX_r, mX_rD, mX_rDj, mM_r, mX_u, mX_uM, mX_uD, mX_uDj, mM_u, mM_uX, mM_uD, mM_uDj, u2_dd, u2_d0, u2_0d]
end PNT
