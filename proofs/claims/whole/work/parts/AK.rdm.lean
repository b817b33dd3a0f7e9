/-! ===== drawing: the reference, up to its ends ===== -/
/-- the reference's end when the text is good -/
def dTl (b : Nat) (h18 : AH) : Option (Int32 × AH) := (gI 15 h18 (ad b 72) 38).bind fun x21 => if x21 = 12 then b2 (f_X15_refused (ad b 72) 3 h18) fun x35 h36 => some (x35, h36) else (gA 15 h18 (ad b 72) 39).bind fun a22 => (gI 15 h18 (ad b 72) 38).bind fun x23 => (gA 15 h18 (ad b 72) 40).bind fun a24 => (sQ 7 12 h18 a22 x23 a24).bind fun h25 => b2 (nwO 12 13 dX12 h25) fun a26 h27 => (f_X12_init a26 h27).bind fun h28 => (pQ 15 h28 (ad b 72) 40 (some a26)).bind fun h29 => (gI 15 h29 (ad b 72) 38).bind fun x30 => (pI 15 h29 (ad b 72) 38 (x30 + 1)).bind fun h31 => (gI 15 h31 (ad b 72) 38).bind fun x32 => b2 (f_X15_done (ad b 72) (x32 - 1) h31) fun x33 h34 => some (x33, h34)
def dTf (b : Nat) (h18 : AH) (a19 : Nat) : Option (Int32 × AH) := (ckO 14 h18 a19).bind fun _ => b2 (f_X15_faulty (ad b 72) a19 h18) fun x44 h45 => some (x44, h45)
def dTm (z : ZX) (b : Nat) (h15 : AH) : Option (Int32 × AH) := (f_X15_next (ad b 72) h15).bind fun h16 => b2 (f_X15_readText z 8 (ad b 72) h16) fun q17 h18 => tr q17 ((gI 15 h18 (ad b 72) 28).bind fun x20 => if x20 = 1 then dTl b h18 else b2 (f_X15_stop (ad b 72) 1 h18) fun q38 h39 => tr q38 none fun a40 => dTf b h39 a40) fun a19 => dTf b h18 a19
theorem dT_eq (z : ZX) (b : Nat) (p1 : Int32) (h : AH) : f_X15_drawing z (ad b 72) p1 h = if isO 15 h (ad b 72) = true then (pI 15 h (ad b 72) 0 0).bind fun h1 => b2 (f_X15_isTaped (ad b 72) p1 h1) fun x2 h3 => if x2 = 0 then b2 (f_X15_refused (ad b 72) 2 h3) fun x46 h47 => some (x46, h47) else (pI 15 h3 (ad b 72) 26 p1).bind fun h4 => (pI 15 h4 (ad b 72) 25 0).bind fun h5 => (pI 15 h5 (ad b 72) 27 0).bind fun h6 => (pI 15 h6 (ad b 72) 3 0).bind fun h7 => (pZ 15 h7 (ad b 72) 36 0).bind fun h8 => (pI 15 h8 (ad b 72) 33 0).bind fun h9 => (pI 15 h9 (ad b 72) 34 0).bind fun h10 => (pI 15 h10 (ad b 72) 35 0).bind fun h11 => (gA 15 h11 (ad b 72) 40).bind fun a12 => (pI 12 h11 a12 0 0).bind fun h13 => (gA 15 h13 (ad b 72) 40).bind fun a14 => (pI 12 h13 a14 1 0).bind fun h15 => dTm z b h15 else none := rfl
/-- the reference's state before it reads -/
def mB (I : Nat → Nat → Int32) (nd n : Nat) : Nat → Nat → Int32 := u2 (u2 I 72 (upd (upd (upd (upd (upd (upd (upd (upd (upd (I 72) 0 0) 26 (Int32.ofNat n)) 25 0) 27 0) 3 0) 36 0) 33 0) 34 0) 35 0)) nd (upd (upd (I nd) 0 0) 1 0)
def mD (I : Nat → Nat → Int32) (L : Nat → Nat → Int64) (nd : Nat) : DSt := (0, 0, 0, fun j => if 1 ≤ j ∧ j ≤ 10 then I (nd + j) else fun _ => 0, L (nd + 11))
section RDM
variable {b : Nat} {F : Nat → Option AE} {D E : Nat → Option KD} {I : Nat → Nat → Int32} {L : Nat → Nat → Int64} {P : Nat → Nat → Option Nat} {nx us : Nat}
theorem M_drawR {z : ZX} {nd n la : Nat} {t : RW} (hz : GZ b F z) (hn : n ≤ 400) (hB : BY t n) (ht : ∀ k, k < n → I 91 k = t k) (hnd : 93 ≤ nd) (hP : P 72 40 = some nd) (hK : K12 E nd) (hLA : LA t n la) (hla : la ≤ 400) : match dAll t n (mD I L nd) with
    | .inl (c, j) => ∃ J M, dTm z b (lay b F E (mB I nd n) L P nx us) = dTf b (lay b F E J M P nx us) (ad b 90) ∧ J 90 6 = c ∧ J 90 7 = Int32.ofNat (pl t n j) ∧ FDd nd (mB I nd n) J L M
    | .inr (_, D1) => ∃ J M, dTm z b (lay b F E (mB I nd n) L P nx us) = dTl b (lay b F E J M P nx us) ∧ FDd nd (mB I nd n) J L M ∧ J nd 0 = Int32.ofNat D1.1 ∧ J nd 1 = Int32.ofNat D1.2.2.1 ∧ (∀ j, 1 ≤ j → j ≤ 10 → J (nd + j) = D1.2.2.2.1 j) ∧ M (nd + 11) = D1.2.2.2.2 := by
  have b72 : mB I nd n 72 = upd (upd (upd (upd (upd (upd (upd (upd (upd (I 72) 0 0) 26 (Int32.ofNat n)) 25 0) 27 0) 3 0) 36 0) 33 0) 34 0) 35 0 := by unfold mB; rw [u2_ne (by omega), u2_same]
  have bnd : mB I nd n nd = upd (upd (I nd) 0 0) 1 0 := by unfold mB; rw [u2_same]
  have bc : ∀ c, c ≠ 72 → c ≠ nd → mB I nd n c = I c := fun c c1 c2 => by unfold mB; rw [u2_ne c2, u2_ne c1]
  generalize hQ : mB I nd n = Q at *
  obtain ⟨r, l, z1, z2, z3, z4⟩ := M_nx0 (b := b) (F := F) (E := E) (L := L) (P := P) (nx := nx) (us := us) (I := Q) (n := n) (t := t) (rg := 0) hn hB (by rw [b72]; simp (decide := true) only [u2_same, u2_ne, u2_u2, upd_same, upd_ne, mE, u2_dyn, dyn_u2, dyn_hi, u2_hi, u2_hj, u2_dynj, u2_dd, u2_d0, u2_0d]) (by rw [bc 91 (by decide) (by omega)]; exact ht) (by rw [b72]; simp (decide := true) only [u2_same, u2_ne, u2_u2, upd_same, upd_ne, mE, u2_dyn, dyn_u2, dyn_hi, u2_hi, u2_hj, u2_dynj, u2_dd, u2_d0, u2_0d]) (by rw [b72]; simp (decide := true) only [u2_same, u2_ne, u2_u2, upd_same, upd_ne, mE, u2_dyn, dyn_u2, dyn_hi, u2_hi, u2_hj, u2_dynj, u2_dd, u2_d0, u2_0d])
  have zr : ∀ k, k ≠ 27 → k ≠ 28 → k ≠ 29 → k ≠ 30 → k ≠ 31 → k ≠ 32 → r k = Q 72 k := z2
  have hfd : FDd nd Q (u2 Q 72 r) L (u2 L 72 l) := by
    refine ⟨fun c c1 _ _ => u2_ne c1, fun j hj => ?_, fun c c1 _ => u2_ne c1, fun j hj => ?_⟩
    · rw [u2_same]; exact zr j (by omega) (by omega) (by omega) (by omega) (by omega) (by omega)
    · rw [u2_same]; exact z3 j hj
  have hMD : MD t n nd 0 0 (mD I L nd) (u2 Q 72 r) (u2 L 72 l) := by
    refine ⟨⟨by rw [u2_same, u2_same]; exact z4, ?_, ?_, ?_⟩, ?_, ?_, ?_, ?_, ?_, ?_, ?_⟩
    · rw [u2_same, zr 26 (by decide) (by decide) (by decide) (by decide) (by decide) (by decide), b72]; simp (decide := true) only [u2_same, u2_ne, u2_u2, upd_same, upd_ne, mE, u2_dyn, dyn_u2, dyn_hi, u2_hi, u2_hj, u2_dynj, u2_dd, u2_d0, u2_0d]
    · rw [u2_ne (by decide), bc 91 (by decide) (by omega)]; exact ht
    · rw [u2_same, zr 36 (by decide) (by decide) (by decide) (by decide) (by decide) (by decide), b72]; simp (decide := true) only [u2_same, u2_ne, u2_u2, upd_same, upd_ne, mE, u2_dyn, dyn_u2, dyn_hi, u2_hi, u2_hj, u2_dynj, u2_dd, u2_d0, u2_0d]
    · rw [u2_same, zr 33 (by decide) (by decide) (by decide) (by decide) (by decide) (by decide), b72]; simp (decide := true) only [u2_same, u2_ne, u2_u2, upd_same, upd_ne, mE, u2_dyn, dyn_u2, dyn_hi, u2_hi, u2_hj, u2_dynj, u2_dd, u2_d0, u2_0d]
    · rw [u2_same, zr 34 (by decide) (by decide) (by decide) (by decide) (by decide) (by decide), b72]; simp (decide := true) only [u2_same, u2_ne, u2_u2, upd_same, upd_ne, mE, u2_dyn, dyn_u2, dyn_hi, u2_hi, u2_hj, u2_dynj, u2_dd, u2_d0, u2_0d]
    · rw [u2_same, zr 35 (by decide) (by decide) (by decide) (by decide) (by decide) (by decide), b72]; simp (decide := true) only [u2_same, u2_ne, u2_u2, upd_same, upd_ne, mE, u2_dyn, dyn_u2, dyn_hi, u2_hi, u2_hj, u2_dynj, u2_dd, u2_d0, u2_0d]; rfl
    · rw [u2_ne (by omega), bnd]; simp (decide := true) only [u2_same, u2_ne, u2_u2, upd_same, upd_ne, mE, u2_dyn, dyn_u2, dyn_hi, u2_hi, u2_hj, u2_dynj, u2_dd, u2_d0, u2_0d]; rfl
    · rw [u2_ne (by omega), bnd]; simp (decide := true) only [u2_same, u2_ne, u2_u2, upd_same, upd_ne, mE, u2_dyn, dyn_u2, dyn_hi, u2_hi, u2_hj, u2_dynj, u2_dd, u2_d0, u2_0d]; rfl
    · intro j h1 h2
      rw [u2_ne (by omega), bc (nd + j) (by omega) (by omega)]
      exact (if_pos ⟨h1, h2⟩).symm
    · rw [u2_ne (by omega)]
      rfl
  have hDB : DB la 0 (mD I L nd) := ⟨Nat.zero_le _, Nat.zero_le _, Nat.zero_le _, Nat.zero_le _⟩
  have hmu : muD la 0 0 ≤ 5000 := by show 2 * (la - 0) + 2 ≤ 5000; omega
  obtain ⟨o, J, M, y1, y2, y3⟩ := (M_text (b := b) (F := F) (E := E) (P := P) (nx := nx) (us := us) hz hn hB hnd hP hK hLA hla 5000 (Nat.le_refl _) 0 (by decide)).1 7 FU 0 (mD I L nd) (u2 Q 72 r) (u2 L 72 l) (by decide) (by unfold FU; omega) hmu hDB hMD
  have hT : f_X15_readText z 8 (ad b 72) (lay b F E (u2 Q 72 r) (u2 L 72 l) P nx us) = some (o, lay b F E J M P nx us) := by
    show f_X15_readText_b z (f_X15_readText z 7) (ad b 72) _ = _
    unfold f_X15_readText_b
    rw [if_pos (isO_s (by decide))]
    exact y1
  have hm : dTm z b (lay b F E Q L P nx us) = tr o ((gI 15 (lay b F E J M P nx us) (ad b 72) 28).bind fun x20 => if x20 = 1 then dTl b (lay b F E J M P nx us) else b2 (f_X15_stop (ad b 72) 1 (lay b F E J M P nx us)) fun q38 h39 => tr q38 none fun a40 => dTf b h39 a40) fun a19 => dTf b (lay b F E J M P nx us) a19 := by
    unfold dTm
    rw [z1, Option.bind_some, hT, b2_p]
  have hf2 := hfd.trans y2
  rw [hm]
  unfold dAll
  cases hout : dS t n 5000 0 0 0 (mD I L nd) with
  | inl e =>
    obtain ⟨c, j⟩ := e
    rw [hout] at y3
    obtain ⟨rfl, w1, w2⟩ := y3
    exact ⟨J, M, rfl, w1, w2, hf2⟩
  | inr q =>
    obtain ⟨i, D1⟩ := q
    rw [hout] at y3
    obtain ⟨rfl, w⟩ := y3
    have hsrt := (M_srt w.1.1).2.2.1
    have hg : gI 15 (lay b F E J M P nx us) (ad b 72) 28 = some (J 72 28) := by simp (decide := true) only [isO_s, gI_s, gA_s, gL_s, pI_s, pZ_s, pL_s, aI_s, aL_s, aN_s, aQ_s, sI_s, sL_s, cr, LNs, Option.map_some, Option.map_none, Option.bind_some, b2, tr, lt, if_true, if_false, ckZ, X_within, M_in, inR_z, X_refuse, X_tell, X_deny, X_grant, M_refused, M_denied, M_done, M_granted, u2_same, u2_ne, u2_u2, upd_same, upd_ne, aW0, ixR_z, ixR_1, M_isWall, M_isPainter, M_isWork, X_has4, X_has10, X_at, or_false, false_or, or_true, true_or, not_true, not_false_iff, Option.isSome_some, isO_d, gI_d, gA_d, pI_d, ne_eq, not_false_eq_true, u2_hi, u2_hj, u2_dyn, u2_dynj, Nat.reduceAdd, mX_r, mX_rD, mX_rDj, mM_r, mX_u, mX_uM, mX_uD, mX_uDj, mM_u, mM_uX, mM_uD, mM_uDj, u2_dd, u2_d0, u2_0d]
    have htr : ∀ (A : Option (Int32 × AH)) (B : Nat → Option (Int32 × AH)), tr none A B = A := fun _ _ => rfl
    rw [dt_i, htr, hg, Option.bind_some]
    by_cases hk : kd t n (pl t n i) = 0
    · rw [if_pos hk]
      refine ⟨J, M, ?_, hf2, w.2.2.2.2.1, w.2.2.2.2.2.1, w.2.2.2.2.2.2.1, w.2.2.2.2.2.2.2⟩
      rw [if_pos (hsrt.mpr hk)]
    · rw [if_neg hk]
      refine ⟨sF J 1 (pl t n i), M, ?_, ?_, ?_, hf2.trans (FDd_S hnd)⟩
      · rw [if_neg (fun q => hk (hsrt.mp q)), M_stopF 1 w.1]
        rfl
      · unfold sF; simp (decide := true) only [u2_same, u2_ne, u2_u2, upd_same, upd_ne, mE, u2_dyn, dyn_u2, dyn_hi, u2_hi, u2_hj, u2_dynj, u2_dd, u2_d0, u2_0d]
      · unfold sF; simp (decide := true) only [u2_same, u2_ne, u2_u2, upd_same, upd_ne, mE, u2_dyn, dyn_u2, dyn_hi, u2_hi, u2_hj, u2_dynj, u2_dd, u2_d0, u2_0d]
end RDM
