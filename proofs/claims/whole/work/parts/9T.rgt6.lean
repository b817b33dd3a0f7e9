/-! ===== right: the call ===== -/
/-- the spare right, and where the rights lie -/
def GRs (nr : Nat) (rc : Nat → Nat) (sp : Nat) (E : Nat → Option KD) (P : Nat → Nat → Option Nat) (ow : Nat → Nat) : Prop := P 72 105 = some sp ∧ 145 ≤ sp ∧ kdf E sp = some (.inr (13, true)) ∧ kdf E (sp + 1) = some (.inl (0, 8)) ∧ kdf E (sp + 2) = some (.inl (0, 8)) ∧ (sp = 145 ∨ ∃ d, sp = 149 + d ∧ ow d = 9 ∧ ow (d + 1) = 9 ∧ ow (d + 2) = 9) ∧ ∀ r, r < nr → (rc r + 3 ≤ sp ∨ sp + 3 ≤ rc r) ∧ (rc r = 145 ∨ ∃ d, rc r = 149 + d ∧ ow d = 9 ∧ ow (d + 1) = 9 ∧ ow (d + 2) = 9)
/-- the reference's end when the text is good -/
def rTl (b : Nat) (h10 : AH) : Option (Int32 × AH) := (gI 15 h10 (ad b 72) 103).bind fun x12 => if x12 = 8 then b2 (f_X15_refused (ad b 72) 3 h10) fun x26 h27 => some (x26, h27) else (gA 15 h10 (ad b 72) 104).bind fun a13 => (gI 15 h10 (ad b 72) 103).bind fun x14 => (gA 15 h10 (ad b 72) 105).bind fun a15 => (sQ 8 13 h10 a13 x14 a15).bind fun h16 => b2 (nwO 13 3 dX13 h16) fun a17 h18 => (f_X13_init a17 h18).bind fun h19 => (pQ 15 h19 (ad b 72) 105 (some a17)).bind fun h20 => (gI 15 h20 (ad b 72) 103).bind fun x21 => (pI 15 h20 (ad b 72) 103 (x21 + 1)).bind fun h22 => (gI 15 h22 (ad b 72) 103).bind fun x23 => b2 (f_X15_done (ad b 72) (x23 - 1) h22) fun x24 h25 => some (x24, h25)
/-- and when it is not -/
def rTf (b : Nat) (h10 : AH) (a11 : Nat) : Option (Int32 × AH) := (ckO 14 h10 a11).bind fun _ => b2 (f_X15_faulty (ad b 72) a11 h10) fun x29 h30 => some (x29, h30)
theorem rT_eq (z : ZX) (b : Nat) (p1 : Int32) (h : AH) : f_X15_right z (ad b 72) p1 h = if isO 15 h (ad b 72) = true then (pI 15 h (ad b 72) 0 0).bind fun h1 => b2 (f_X15_isTaped (ad b 72) p1 h1) fun x2 h3 => if x2 = 0 then b2 (f_X15_refused (ad b 72) 2 h3) fun x31 h32 => some (x31, h32) else (pI 15 h3 (ad b 72) 26 p1).bind fun h4 => (pI 15 h4 (ad b 72) 25 0).bind fun h5 => (pI 15 h5 (ad b 72) 27 0).bind fun h6 => (pI 15 h6 (ad b 72) 3 0).bind fun h7 => (pZ 15 h7 (ad b 72) 36 1).bind fun h8 => b2 (f_X15_readRight z (ad b 72) h8) fun q9 h10 => tr q9 (rTl b h10) fun a11 => rTf b h10 a11 else none := rfl
section RGT6
variable {b : Nat} {F : Nat → Option AE} {D E : Nat → Option KD} {I : Nat → Nat → Int32} {L : Nat → Nat → Int64} {P : Nat → Nat → Option Nat} {nx us : Nat}
theorem M_keepR {nr sp a : Nat} (hnr : nr < 8) (h103 : I 72 103 = Int32.ofNat nr) (hP : P 72 105 = some sp) (k0 : kdf E sp = some (.inr (13, true))) (r1 : a + 3 + 149 ≤ 601024) (r2 : us + 19 ≤ 7293034) : ∃ L2 P2, rTl b (lay b F E I L P (149 + a) us) = some (Int32.ofNat nr, lay b F (nrE E a) (u2 (nrI I a) 72 (mE (upd (I 72) 103 (Int32.ofNat (nr + 1))) 0)) L2 P2 (149 + a + 3) (us + 19)) ∧ (∀ c, c < 149 + a → L2 c = L c) ∧ (∀ c, c < 149 + a → c ≠ 72 → c ≠ 144 → P2 c = P c) ∧ P2 144 = va_up (P 144) nr (some sp) ∧ P2 72 = va_up (P 72) 105 (some (149 + a)) := by
  obtain ⟨L2, P3, z1, z2⟩ := M_newRight (b := b) (F := F) (E := E) (I := I) (L := L) (P := u2 P 144 (va_up (P 144) nr (some sp))) (us := us) (a := a) r1 r2
  have e8 : (Int32.ofNat nr = 8) = False := oN_ne (c := 8) (by omega) (by omega) (by omega)
  have enr : iN (Int32.ofNat nr) 8 = some nr := iN_oN (by omega) (by omega)
  have hg : gA 15 (lay b F E I L P (149 + a) us) (ad b 72) 105 = some (ad b sp) := by rw [gA_sP (by decide) (by decide) (by decide), hP]; rfl
  have hsq : sQ 8 13 (lay b F E I L P (149 + a) us) (ad b 144) (Int32.ofNat nr) (ad b sp) = some (lay b F E I L (u2 P 144 (va_up (P 144) nr (some sp))) (149 + a) us) := by
    rw [sQ_lay (kdf_KT (KT_arr (show tk 144 = 8 by decide) (by decide))) (by decide) k0]
    have : ln 144 = 8 := by decide
    rw [this, enr]
    rfl
  have i72 : nrI I a 72 = I 72 := by unfold nrI; rw [u2_ne (by omega), u2_ne (by omega), u2_ne (by omega)]
  have h103' : nrI I a 72 103 = Int32.ofNat nr := by rw [i72]; exact h103
  refine ⟨L2, u2 P3 72 (va_up (P3 72) 105 (some (149 + a))), ?_, fun c hc => (z2 c hc).1, ?_, ?_, ?_⟩
  · have z1' : ∀ (f : Nat → AH → Option (Int32 × AH)), (b2 (nwO 13 3 dX13 (lay b F E I L (u2 P 144 (va_up (P 144) nr (some sp))) (149 + a) us)) fun a17 h18 => (f_X13_init a17 h18).bind fun h19 => f a17 h19) = f (ad b (149 + a)) (lay b F (nrE E a) (nrI I a) L2 P3 (149 + a + 3) (us + 19)) := by
      intro f
      revert z1
      generalize nwO 13 3 dX13 (lay b F E I L (u2 P 144 (va_up (P 144) nr (some sp))) (149 + a) us) = X
      intro z1
      cases X with
      | none => cases z1
      | some q =>
        have z1' : ((f_X13_init q.1 q.2).bind fun h19 => some (q.1, h19)) = _ := z1
        show ((f_X13_init q.1 q.2).bind fun h19 => f q.1 h19) = _
        revert z1'
        generalize f_X13_init q.1 q.2 = Y
        intro z1'
        cases Y with
        | none => cases z1'
        | some y =>
          have z3 : (q.1, y) = (ad b (149 + a), lay b F (nrE E a) (nrI I a) L2 P3 (149 + a + 3) (us + 19)) := Option.some.inj z1'
          have e1 : q.1 = ad b (149 + a) := congrArg Prod.fst z3
          have e2 : y = lay b F (nrE E a) (nrI I a) L2 P3 (149 + a + 3) (us + 19) := congrArg Prod.snd z3
          show f q.1 y = _
          rw [e1, e2]
    have hm : nr + 1 - 1 = nr := rfl
    unfold rTl
    simp (decide := true) only [b2_p, h103, e8, enr, hg, hsq, isO_s, gI_s, gA_s, gL_s, pI_s, pZ_s, pL_s, aI_s, aL_s, aN_s, aQ_s, sI_s, sL_s, cr, LNs, Option.map_some, Option.map_none, Option.bind_some, tr, lt, if_true, if_false, ckZ, X_within, M_in, inR_z, X_refuse, X_tell, X_deny, X_grant, M_refused, M_denied, M_done, M_granted, u2_same, u2_ne, u2_u2, upd_same, upd_ne, aW0, ixR_z, ixR_1, M_isWall, M_isPainter, M_isWork, X_has4, X_has10, X_at, or_false, false_or, or_true, true_or, not_true, not_false_iff, Option.isSome_some, isO_d, gI_d, gA_d, pI_d, ne_eq, not_false_eq_true, u2_hi, u2_hj, u2_dyn, u2_dynj, Nat.reduceAdd, mX_r, mX_rD, mX_rDj, mM_r, mX_u, mX_uM, mX_uD, mX_uDj, mM_u, mM_uX, mM_uD, mM_uDj, u2_dd, u2_d0, u2_0d]
    rw [z1']
    simp (decide := true) only [b2_p, pQ_s, h103', oN_succ, oN_pred, i72, isO_s, gI_s, gA_s, gL_s, pI_s, pZ_s, pL_s, aI_s, aL_s, aN_s, aQ_s, sI_s, sL_s, cr, LNs, Option.map_some, Option.map_none, Option.bind_some, tr, lt, if_true, if_false, ckZ, X_within, M_in, inR_z, X_refuse, X_tell, X_deny, X_grant, M_refused, M_denied, M_done, M_granted, u2_same, u2_ne, u2_u2, upd_same, upd_ne, aW0, ixR_z, ixR_1, M_isWall, M_isPainter, M_isWork, X_has4, X_has10, X_at, or_false, false_or, or_true, true_or, not_true, not_false_iff, Option.isSome_some, isO_d, gI_d, gA_d, pI_d, ne_eq, not_false_eq_true, u2_hi, u2_hj, u2_dyn, u2_dynj, Nat.reduceAdd, mX_r, mX_rD, mX_rDj, mM_r, mX_u, mX_uM, mX_uD, mX_uDj, mM_u, mM_uX, mM_uD, mM_uDj, u2_dd, u2_d0, u2_0d]
  · intro c hc c1 c2
    rw [u2_ne c1, (z2 c hc).2, u2_ne c2]
  · rw [u2_ne (by decide), (z2 144 (by omega)).2, u2_same]
  · rw [u2_same, (z2 72 (by omega)).2, u2_ne (by decide)]
end RGT6
