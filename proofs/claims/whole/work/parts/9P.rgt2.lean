/-! ===== right: the class reads lines ===== -/
section RGT2
variable {b : Nat} {F : Nat → Option AE} {D E : Nat → Option KD} {I : Nat → Nat → Int32} {L : Nat → Nat → Int64} {P : Nat → Nat → Option Nat} {nx us : Nat}
theorem X_failF {n la i : Nat} {t : RW} (c : Int32) (h : TX t n la I L) (hi : i ≤ la) (h4 : I 40 4 = Int32.ofNat i) : f_X7_fail (ad b 40) c (lay b F E I L P nx us) = some (0, lay b F E (aF I c (pl t n i)) L P nx us) := X_fail c h hi h4
theorem X_advV {n la i : Nat} {t : RW} (h : TX t n la I L) (hi : i < la) (h4 : I 40 4 = Int32.ofNat i) : f_X7_advance (ad b 40) (lay b F E I L P nx us) = some (lay b F E (aVv I (i + 1)) L P nx us) := X_adv h hi h4
theorem aF_56 {I : Nat → Nat → Int32} {c : Int32} {s : Nat} : aF I c s 40 5 = c ∧ aF I c s 40 6 = Int32.ofNat s := by unfold aF; simp (decide := true) only [u2_same, u2_ne, u2_u2, upd_same, upd_ne, mE, u2_dyn, dyn_u2, dyn_hi, u2_hi, u2_hj, u2_dynj, u2_dd, u2_d0, u2_0d]
theorem X_rd {z : ZX} {nr n la : Nat} {t : RW} (hz : GZ b F z) (hr : nr ≤ 8) : ∀ (f i k : Nat) (tot : Int32) (w p : RW) (I : Nat → Nat → Int32) (fu : Nat), f + k = 9 → k ≤ 8 → f < fu → TX t n la I L → i ≤ la → I 40 4 = Int32.ofNat i → I 40 5 = 0 → I 54 1 = Int32.ofNat nr → I 55 nr = Int32.ofNat k → I 54 5 = tot → (∀ l, l < k → I 56 (8 * nr + l) = w l ∧ I 57 (8 * nr + l) = p l) → ∃ I', f_X5_read_27 fu (ad b 54) (Int32.ofNat k) (lay b F E I L P nx us) = some (lay b F E I' L P nx us) ∧ FR5 nr I I' ∧ RX nr t n (rgS t n f i k tot w p) I' := by
  intro f
  induction f with
  | zero => intro i k tot w p I fu h1 h2; omega
  | succ f ih =>
    intro i k tot w p I fu hfk hk8 hfu hTX hi h4 h5 h1 h55 htot hrows
    obtain ⟨fu, rfl⟩ : ∃ z, fu = z + 1 := ⟨fu - 1, by omega⟩
    have e8 : ((8 : Int32) < Int32.ofNat k) = False := eq_false (fun q => absurd ((oN_lt (a := 8) (by omega) (by omega)).mp q) (by omega))
    have hkd := X_kind (b := b) (F := F) (E := E) (P := P) (nx := nx) (us := us) hTX hi h4
    have hle := kd_le (t := t) (n := n) (k := pl t n i)
    have h2 : (Int32.ofNat (kd t n (pl t n i)) = 2) = (kd t n (pl t n i) = 2) := propext (oN_eq (c := 2) (by omega) (by omega))
    have e10 : ((1 : Int32) = 0) = False := by decide
    have enr : iN (Int32.ofNat nr) 9 = some nr := iN_oN (by omega) (by omega)
    -- a fault
    have flt : ∀ (K : Nat → Nat → Int32) (c : Int32) (j : Nat), FR5 nr I K → f_X5_readLine (ad b 54) (lay b F E I L P nx us) = some (0, lay b F E (aF K c (pl t n j)) L P nx us) → ∃ I', f_X5_read_27 (fu + 1) (ad b 54) (Int32.ofNat k) (lay b F E I L P nx us) = some (lay b F E I' L P nx us) ∧ FR5 nr I I' ∧ RX nr t n (.inl (c, j)) I' := by
      intro K c j hK hrun
      refine ⟨aF K c (pl t n j), ?_, hK.trans FR5_F, aF_56⟩
      simp (decide := true) only [f_X5_read_27, e8, hrun, isO_s, gI_s, gA_s, gL_s, pI_s, pZ_s, pL_s, aI_s, aL_s, aN_s, aQ_s, sI_s, sL_s, cr, LNs, Option.map_some, Option.map_none, Option.bind_some, b2, tr, lt, if_true, if_false, ckZ, X_within, M_in, inR_z, X_refuse, X_tell, X_deny, X_grant, M_refused, M_denied, M_done, M_granted, u2_same, u2_ne, u2_u2, upd_same, upd_ne, aW0, ixR_z, ixR_1, M_isWall, M_isPainter, M_isWork, X_has4, X_has10, X_at, or_false, false_or, or_true, true_or, not_true, not_false_iff, Option.isSome_some, isO_d, gI_d, gA_d, pI_d, ne_eq, not_false_eq_true, u2_hi, u2_hj, u2_dyn, u2_dynj, Nat.reduceAdd, mX_r, mX_rD, mX_rDj, mM_r, mX_u, mX_uM, mX_uD, mX_uDj, mM_u, mM_uX, mM_uD, mM_uDj, u2_dd, u2_d0, u2_0d]
    -- behind a line
    have tail : ∀ (K : Nat → Nat → Int32) (j : Nat) (tot' : Int32) (w' p' : RW), k < 8 → FR5 nr I K → TX t n la K L → j ≤ la → K 40 4 = Int32.ofNat j → K 40 5 = 0 → K 55 nr = Int32.ofNat (k + 1) → K 54 5 = tot' → (∀ l, l < k + 1 → K 56 (8 * nr + l) = w' l ∧ K 57 (8 * nr + l) = p' l) → f_X5_readLine (ad b 54) (lay b F E I L P nx us) = some (1, lay b F E K L P nx us) → ∃ I', f_X5_read_27 (fu + 1) (ad b 54) (Int32.ofNat k) (lay b F E I L P nx us) = some (lay b F E I' L P nx us) ∧ FR5 nr I I' ∧ RX nr t n (rgE t n j (rgS t n f (j + 1) (k + 1) tot' w' p') (.inr (k + 1, w', p'))) I' := by
      intro K j tot' w' p' hk7 hK kTX hj k4 k5 k55 k545 krows hrun
      have hsg := X_sign (b := b) (F := F) (E := E) (P := P) (nx := nx) (us := us) kTX hj k4
      have hsc : (sgn t n j = 44) = isC t n j 44 := sgn_c (by decide)
      have hkd' := X_kind (b := b) (F := F) (E := E) (P := P) (nx := nx) (us := us) kTX hj k4
      have hle' := kd_le (t := t) (n := n) (k := pl t n j)
      have h0' : (Int32.ofNat (kd t n (pl t n j)) = 0) = (kd t n (pl t n j) = 0) := propext (oN_eq (c := 0) (by omega) (by omega))
      unfold rgE
      by_cases hc : isC t n j 44
      · rw [if_pos hc]
        have hcT : isC t n j 44 = True := eq_true hc
        have hjl : j < la := TX_lt kTX hj (by rw [hc.1]; decide) (by rw [hc.1]; decide)
        have hav := X_advV (b := b) (F := F) (E := E) (P := P) (nx := nx) (us := us) kTX hjl k4
        obtain ⟨I', z1, z2, z3⟩ := ih (j + 1) (k + 1) tot' w' p' (aVv K (j + 1)) fu (by omega) (by omega) (by omega) (aVv_TX kTX) (by omega) aVv_4 (by rw [aVv_40 (by decide)]; exact k5) (by rw [aVv_ne (by decide), hK.2.2.1 1 (by decide)]; exact h1) (by rw [aVv_ne (by decide)]; exact k55) (by rw [aVv_ne (by decide)]; exact k545) (by rw [aVv_ne (by decide), aVv_ne (by decide)]; exact krows)
        refine ⟨I', ?_, (hK.trans FR5_V).trans z2, z3⟩
        simp (decide := true) only [f_X5_read_27, e8, hrun, e10, hsg, hsc, hcT, hav, oN_succ, isO_s, gI_s, gA_s, gL_s, pI_s, pZ_s, pL_s, aI_s, aL_s, aN_s, aQ_s, sI_s, sL_s, cr, LNs, Option.map_some, Option.map_none, Option.bind_some, b2, tr, lt, if_true, if_false, ckZ, X_within, M_in, inR_z, X_refuse, X_tell, X_deny, X_grant, M_refused, M_denied, M_done, M_granted, u2_same, u2_ne, u2_u2, upd_same, upd_ne, aW0, ixR_z, ixR_1, M_isWall, M_isPainter, M_isWork, X_has4, X_has10, X_at, or_false, false_or, or_true, true_or, not_true, not_false_iff, Option.isSome_some, isO_d, gI_d, gA_d, pI_d, ne_eq, not_false_eq_true, u2_hi, u2_hj, u2_dyn, u2_dynj, Nat.reduceAdd, mX_r, mX_rD, mX_rDj, mM_r, mX_u, mX_uM, mX_uD, mX_uDj, mM_u, mM_uX, mM_uD, mM_uDj, u2_dd, u2_d0, u2_0d]
        exact z1
      · rw [if_neg hc]
        have hcT : isC t n j 44 = False := eq_false hc
        by_cases h0 : kd t n (pl t n j) = 0
        · rw [if_pos h0]
          refine ⟨K, ?_, hK, ⟨k5, by omega, k55, krows⟩⟩
          simp (decide := true) only [f_X5_read_27, f_X5_read_72, e8, hrun, e10, hsg, hsc, hcT, hkd', h0', h0, isO_s, gI_s, gA_s, gL_s, pI_s, pZ_s, pL_s, aI_s, aL_s, aN_s, aQ_s, sI_s, sL_s, cr, LNs, Option.map_some, Option.map_none, Option.bind_some, b2, tr, lt, if_true, if_false, ckZ, X_within, M_in, inR_z, X_refuse, X_tell, X_deny, X_grant, M_refused, M_denied, M_done, M_granted, u2_same, u2_ne, u2_u2, upd_same, upd_ne, aW0, ixR_z, ixR_1, M_isWall, M_isPainter, M_isWork, X_has4, X_has10, X_at, or_false, false_or, or_true, true_or, not_true, not_false_iff, Option.isSome_some, isO_d, gI_d, gA_d, pI_d, ne_eq, not_false_eq_true, u2_hi, u2_hj, u2_dyn, u2_dynj, Nat.reduceAdd, mX_r, mX_rD, mX_rDj, mM_r, mX_u, mX_uM, mX_uD, mX_uDj, mM_u, mM_uX, mM_uD, mM_uDj, u2_dd, u2_d0, u2_0d]
        · rw [if_neg h0]
          have hfl := X_failF (b := b) (F := F) (E := E) (P := P) (nx := nx) (us := us) 1 kTX hj k4
          refine ⟨aF K 1 (pl t n j), ?_, hK.trans FR5_F, aF_56⟩
          simp (decide := true) only [f_X5_read_27, f_X5_read_72, e8, hrun, e10, hsg, hsc, hcT, hkd', h0', h0, hfl, isO_s, gI_s, gA_s, gL_s, pI_s, pZ_s, pL_s, aI_s, aL_s, aN_s, aQ_s, sI_s, sL_s, cr, LNs, Option.map_some, Option.map_none, Option.bind_some, b2, tr, lt, if_true, if_false, ckZ, X_within, M_in, inR_z, X_refuse, X_tell, X_deny, X_grant, M_refused, M_denied, M_done, M_granted, u2_same, u2_ne, u2_u2, upd_same, upd_ne, aW0, ixR_z, ixR_1, M_isWall, M_isPainter, M_isWork, X_has4, X_has10, X_at, or_false, false_or, or_true, true_or, not_true, not_false_iff, Option.isSome_some, isO_d, gI_d, gA_d, pI_d, ne_eq, not_false_eq_true, u2_hi, u2_hj, u2_dyn, u2_dynj, Nat.reduceAdd, mX_r, mX_rD, mX_rDj, mM_r, mX_u, mX_uM, mX_uD, mX_uDj, mM_u, mM_uX, mM_uD, mM_uDj, u2_dd, u2_d0, u2_0d]
    unfold rgS
    have hnm := X_name (b := b) (F := F) (E := E) (P := P) (nx := nx) (us := us) hTX hi h4
    have hf1 := X_failF (b := b) (F := F) (E := E) (P := P) (nx := nx) (us := us) 1 hTX hi h4
    by_cases c1 : kd t n (pl t n i) = 2
    · by_cases c2 : isW t n i 11
      · rw [if_pos (Or.inr c2)]
        have n18 : (nmT t n i = 18) = True := by rw [nmT_18]; exact eq_true c2
        refine flt I 1 i FR5.refl ?_
        simp (decide := true) only [f_X5_readLine_46, f_X5_readLine_25, f_X5_readLine, hnm, hkd, h2, c1, n18, hf1, isO_s, gI_s, gA_s, gL_s, pI_s, pZ_s, pL_s, aI_s, aL_s, aN_s, aQ_s, sI_s, sL_s, cr, LNs, Option.map_some, Option.map_none, Option.bind_some, b2, tr, lt, if_true, if_false, ckZ, X_within, M_in, inR_z, X_refuse, X_tell, X_deny, X_grant, M_refused, M_denied, M_done, M_granted, u2_same, u2_ne, u2_u2, upd_same, upd_ne, aW0, ixR_z, ixR_1, M_isWall, M_isPainter, M_isWork, X_has4, X_has10, X_at, or_false, false_or, or_true, true_or, not_true, not_false_iff, Option.isSome_some, isO_d, gI_d, gA_d, pI_d, ne_eq, not_false_eq_true, u2_hi, u2_hj, u2_dyn, u2_dynj, Nat.reduceAdd, mX_r, mX_rD, mX_rDj, mM_r, mX_u, mX_uM, mX_uD, mX_uDj, mM_u, mM_uX, mM_uD, mM_uDj, u2_dd, u2_d0, u2_0d]
      · rw [if_neg (by rintro (q | q); exact q c1; exact c2 q)]
        have n18 : (nmT t n i = 18) = False := by rw [nmT_18]; exact eq_false c2
        obtain ⟨wh1, wh2⟩ := who_T c1
        by_cases c3 : whoV t n i = -1
        · rw [if_pos c3]
          have hf2 := X_failF (b := b) (F := F) (E := E) (P := P) (nx := nx) (us := us) 2 hTX hi h4
          refine flt I 2 i FR5.refl ?_
          by_cases q14 : nmT t n i < 14
          · have n14 : (nmT t n i < 14) = True := eq_true q14
            simp (decide := true) only [f_X5_readLine_46, f_X5_readLine_25, f_X5_readLine, hnm, hkd, h2, c1, n18, n14, hf2, isO_s, gI_s, gA_s, gL_s, pI_s, pZ_s, pL_s, aI_s, aL_s, aN_s, aQ_s, sI_s, sL_s, cr, LNs, Option.map_some, Option.map_none, Option.bind_some, b2, tr, lt, if_true, if_false, ckZ, X_within, M_in, inR_z, X_refuse, X_tell, X_deny, X_grant, M_refused, M_denied, M_done, M_granted, u2_same, u2_ne, u2_u2, upd_same, upd_ne, aW0, ixR_z, ixR_1, M_isWall, M_isPainter, M_isWork, X_has4, X_has10, X_at, or_false, false_or, or_true, true_or, not_true, not_false_iff, Option.isSome_some, isO_d, gI_d, gA_d, pI_d, ne_eq, not_false_eq_true, u2_hi, u2_hj, u2_dyn, u2_dynj, Nat.reduceAdd, mX_r, mX_rD, mX_rDj, mM_r, mX_u, mX_uM, mX_uD, mX_uDj, mM_u, mM_uX, mM_uD, mM_uDj, u2_dd, u2_d0, u2_0d]
          · have n14 : (nmT t n i < 14) = False := eq_false q14
            have n17 : (nmT t n i ≤ 17) = False := eq_false (fun q => by
              rcases wh1.mpr c3 with e | e
              · exact q14 e
              · exact absurd e (Int32.not_lt.mpr q))
            simp (decide := true) only [f_X5_readLine_46, f_X5_readLine_25, f_X5_readLine, hnm, hkd, h2, c1, n18, n14, n17, hf2, isO_s, gI_s, gA_s, gL_s, pI_s, pZ_s, pL_s, aI_s, aL_s, aN_s, aQ_s, sI_s, sL_s, cr, LNs, Option.map_some, Option.map_none, Option.bind_some, b2, tr, lt, if_true, if_false, ckZ, X_within, M_in, inR_z, X_refuse, X_tell, X_deny, X_grant, M_refused, M_denied, M_done, M_granted, u2_same, u2_ne, u2_u2, upd_same, upd_ne, aW0, ixR_z, ixR_1, M_isWall, M_isPainter, M_isWork, X_has4, X_has10, X_at, or_false, false_or, or_true, true_or, not_true, not_false_iff, Option.isSome_some, isO_d, gI_d, gA_d, pI_d, ne_eq, not_false_eq_true, u2_hi, u2_hj, u2_dyn, u2_dynj, Nat.reduceAdd, mX_r, mX_rD, mX_rDj, mM_r, mX_u, mX_uM, mX_uD, mX_uDj, mM_u, mM_uX, mM_uD, mM_uDj, u2_dd, u2_d0, u2_0d]
        · rw [if_neg c3]
          have hsub := wh2 c3
          have n14 : (nmT t n i < 14) = False := eq_false (fun q => c3 (wh1.mp (Or.inl q)))
          have n17 : (nmT t n i ≤ 17) = True := eq_true (Int32.not_lt.mp (fun q => c3 (wh1.mp (Or.inr q))))
          by_cases c4 : k = 8
          · rw [if_pos c4]
            have hf4 := X_failF (b := b) (F := F) (E := E) (P := P) (nx := nx) (us := us) 4 hTX hi h4
            have e9 : (Int32.ofNat k < 8) = False := eq_false (fun q => absurd ((oN_lt (c := 8) (by omega) (by omega)).mp q) (by omega))
            refine flt I 4 i FR5.refl ?_
            simp (decide := true) only [f_X5_readLine_46, f_X5_readLine_25, f_X5_readLine, hnm, hkd, h2, c1, n18, n14, n17, hsub, h1, enr, h55, e9, hf4, isO_s, gI_s, gA_s, gL_s, pI_s, pZ_s, pL_s, aI_s, aL_s, aN_s, aQ_s, sI_s, sL_s, cr, LNs, Option.map_some, Option.map_none, Option.bind_some, b2, tr, lt, if_true, if_false, ckZ, X_within, M_in, inR_z, X_refuse, X_tell, X_deny, X_grant, M_refused, M_denied, M_done, M_granted, u2_same, u2_ne, u2_u2, upd_same, upd_ne, aW0, ixR_z, ixR_1, M_isWall, M_isPainter, M_isWork, X_has4, X_has10, X_at, or_false, false_or, or_true, true_or, not_true, not_false_iff, Option.isSome_some, isO_d, gI_d, gA_d, pI_d, ne_eq, not_false_eq_true, u2_hi, u2_hj, u2_dyn, u2_dynj, Nat.reduceAdd, mX_r, mX_rD, mX_rDj, mM_r, mX_u, mX_uM, mX_uD, mX_uDj, mM_u, mM_uX, mM_uD, mM_uDj, u2_dd, u2_d0, u2_0d]
          · rw [if_neg c4]
            have e9 : (Int32.ofNat k < 8) = True := eq_true ((oN_lt (c := 8) (by omega) (by omega)).mpr (by omega))
            have hil : i < la := TX_lt hTX hi (by omega) (by omega)
            have hav := X_advV (b := b) (F := F) (E := E) (P := P) (nx := nx) (us := us) hTX hil h4
            have tV : TX t n la (aVv I (i + 1)) L := aVv_TX hTX
            have hnm2 := X_name (b := b) (F := F) (E := E) (P := P) (nx := nx) (us := us) tV (show i + 1 ≤ la by omega) aVv_4
            by_cases c5 : isW t n (i + 1) 11
            · rw [if_pos c5]
              have n18b : (nmT t n (i + 1) = 18) = True := by rw [nmT_18]; exact eq_true c5
              have hil2 : i + 1 < la := TX_lt tV (by omega) (by have := c5.1; omega) (by have := c5.1; omega)
              have had := X_addL (b := b) (F := F) (E := E) (L := L) (P := P) (nx := nx) (us := us) (I := aVv I (i + 1)) (whoV t n i) (-1) hr (show k < 8 by omega) (by rw [aVv_ne (by decide)]; exact h1) (by rw [aVv_ne (by decide)]; exact h55)
              have hav2 := X_advV (b := b) (F := F) (E := E) (P := P) (nx := nx) (us := us) (I := aL4 nr k (whoV t n i) (-1) (aVv I (i + 1))) (aL_TX tV) hil2 (by rw [aL_ne (by decide) (by decide) (by decide)]; exact aVv_4)
              refine tail (aVv (aL4 nr k (whoV t n i) (-1) (aVv I (i + 1))) (i + 2)) (i + 2) tot _ _ (by omega) ((FR5_V.trans FR5_L).trans FR5_V) (aVv_TX (aL_TX tV)) (by omega) aVv_4 ?_ ?_ ?_ ?_ ?_
              · rw [aVv_40 (by decide), aL_ne (by decide) (by decide) (by decide), aVv_40 (by decide)]; exact h5
              · rw [aVv_ne (by decide)]; unfold aL4; rw [u2_same, upd_same]
              · rw [aVv_ne (by decide), aL_ne (by decide) (by decide) (by decide), aVv_ne (by decide)]; exact htot
              · intro l hl
                rw [aVv_ne (by decide), aVv_ne (by decide)]
                unfold aL4
                simp (decide := true) only [aVv_ne, u2_same, u2_ne, u2_u2, upd_same, upd_ne, mE, u2_dyn, dyn_u2, dyn_hi, u2_hi, u2_hj, u2_dynj, u2_dd, u2_d0, u2_0d]
                by_cases hlk : l = k
                · subst hlk; rw [upd_same, upd_same, upd_same, upd_same]; exact ⟨rfl, rfl⟩
                · rw [upd_ne hlk, upd_ne hlk, upd_ne (show 8 * nr + l ≠ 8 * nr + k by omega), upd_ne (show 8 * nr + l ≠ 8 * nr + k by omega)]; exact hrows l (by omega)
              · simp (decide := true) only [f_X5_readLine_46, f_X5_readLine_25, f_X5_readLine, hnm, hkd, h2, c1, n18, n14, n17, hsub, h1, enr, h55, e9, hav, hnm2, n18b, had, hav2, isO_s, gI_s, gA_s, gL_s, pI_s, pZ_s, pL_s, aI_s, aL_s, aN_s, aQ_s, sI_s, sL_s, cr, LNs, Option.map_some, Option.map_none, Option.bind_some, b2, tr, lt, if_true, if_false, ckZ, X_within, M_in, inR_z, X_refuse, X_tell, X_deny, X_grant, M_refused, M_denied, M_done, M_granted, u2_same, u2_ne, u2_u2, upd_same, upd_ne, aW0, ixR_z, ixR_1, M_isWall, M_isPainter, M_isWork, X_has4, X_has10, X_at, or_false, false_or, or_true, true_or, not_true, not_false_iff, Option.isSome_some, isO_d, gI_d, gA_d, pI_d, ne_eq, not_false_eq_true, u2_hi, u2_hj, u2_dyn, u2_dynj, Nat.reduceAdd, mX_r, mX_rD, mX_rDj, mM_r, mX_u, mX_uM, mX_uD, mX_uDj, mM_u, mM_uX, mM_uD, mM_uDj, u2_dd, u2_d0, u2_0d]
            · rw [if_neg c5]
              have n18b : (nmT t n (i + 1) = 18) = False := by rw [nmT_18]; exact eq_false c5
              have hkd2 := X_kind (b := b) (F := F) (E := E) (P := P) (nx := nx) (us := us) tV (show i + 1 ≤ la by omega) aVv_4
              have hle2 := kd_le (t := t) (n := n) (k := pl t n (i + 1))
              have h3 : (Int32.ofNat (kd t n (pl t n (i + 1))) = 3) = (kd t n (pl t n (i + 1)) = 3) := propext (oN_eq (c := 3) (by omega) (by omega))
              by_cases c6 : kd t n (pl t n (i + 1)) = 3
              · rw [if_neg (fun q => q c6)]
                have hvl := X_value (b := b) (F := F) (E := E) (P := P) (nx := nx) (us := us) tV (show i + 1 ≤ la by omega) aVv_4
                have hv2 : (L 43 (i + 1)).toInt32 = num t n (i + 1) := by
                  rw [(hTX.2.2.1 (i + 1) (by omega)).2.2 (by omega), kd_3 c6]
                  exact i6432 _
                have hil2 : i + 1 < la := TX_lt tV (by omega) (by omega) (by omega)
                have tT : TX t n la (aT5 (aVv I (i + 1)) (tot + num t n (i + 1))) L := aT_TX tV
                have k4T : aT5 (aVv I (i + 1)) (tot + num t n (i + 1)) 40 4 = Int32.ofNat (i + 1) := by rw [aT_ne (by decide)]; exact aVv_4
                have hpi : pI 5 (lay b F E (aVv I (i + 1)) L P nx us) (ad b 54) 5 (tot + num t n (i + 1)) = some (lay b F E (aT5 (aVv I (i + 1)) (tot + num t n (i + 1))) L P nx us) := by
                  unfold aT5
                  simp (decide := true) only [isO_s, gI_s, gA_s, gL_s, pI_s, pZ_s, pL_s, aI_s, aL_s, aN_s, aQ_s, sI_s, sL_s, cr, LNs, Option.map_some, Option.map_none, Option.bind_some, b2, tr, lt, if_true, if_false, ckZ, X_within, M_in, inR_z, X_refuse, X_tell, X_deny, X_grant, M_refused, M_denied, M_done, M_granted, u2_same, u2_ne, u2_u2, upd_same, upd_ne, aW0, ixR_z, ixR_1, M_isWall, M_isPainter, M_isWork, X_has4, X_has10, X_at, or_false, false_or, or_true, true_or, not_true, not_false_iff, Option.isSome_some, isO_d, gI_d, gA_d, pI_d, ne_eq, not_false_eq_true, u2_hi, u2_hj, u2_dyn, u2_dynj, Nat.reduceAdd, mX_r, mX_rD, mX_rDj, mM_r, mX_u, mX_uM, mX_uD, mX_uDj, mM_u, mM_uX, mM_uD, mM_uDj, u2_dd, u2_d0, u2_0d]
                have htot2 : aVv I (i + 1) 54 5 = tot := by rw [aVv_ne (by decide)]; exact htot
                by_cases c7 : tot + num t n (i + 1) ≤ 100
                · rw [if_neg (fun q => q c7)]
                  have hav2 := X_advV (b := b) (F := F) (E := E) (P := P) (nx := nx) (us := us) tT hil2 k4T
                  have tV2 : TX t n la (aVv (aT5 (aVv I (i + 1)) (tot + num t n (i + 1))) (i + 2)) L := aVv_TX tT
                  have hsg := X_sign (b := b) (F := F) (E := E) (P := P) (nx := nx) (us := us) tV2 (show i + 2 ≤ la by omega) aVv_4
                  have hsc : (sgn t n (i + 2) = 37) = isC t n (i + 2) 37 := sgn_c (by decide)
                  by_cases c8 : isC t n (i + 2) 37
                  · rw [if_neg (fun q => q c8)]
                    have c8T : isC t n (i + 2) 37 = True := eq_true c8
                    have hil3 : i + 2 < la := TX_lt tV2 (by omega) (by have := c8.1; omega) (by have := c8.1; omega)
                    have hav3 := X_advV (b := b) (F := F) (E := E) (P := P) (nx := nx) (us := us) tV2 hil3 aVv_4
                    have had := X_addL (b := b) (F := F) (E := E) (L := L) (P := P) (nx := nx) (us := us) (I := aVv (aVv (aT5 (aVv I (i + 1)) (tot + num t n (i + 1))) (i + 2)) (i + 3)) (whoV t n i) (num t n (i + 1)) hr (show k < 8 by omega) (by rw [aVv_ne (by decide), aVv_ne (by decide), aT_54 (by decide), aVv_ne (by decide)]; exact h1) (by rw [aVv_ne (by decide), aVv_ne (by decide), aT_ne (by decide), aVv_ne (by decide)]; exact h55)
                    refine tail (aL4 nr k (whoV t n i) (num t n (i + 1)) (aVv (aVv (aT5 (aVv I (i + 1)) (tot + num t n (i + 1))) (i + 2)) (i + 3))) (i + 3) (tot + num t n (i + 1)) _ _ (by omega) ((((FR5_V.trans FR5_T).trans FR5_V).trans FR5_V).trans FR5_L) (aL_TX (aVv_TX tV2)) (by omega) (by rw [aL_ne (by decide) (by decide) (by decide)]; exact aVv_4) ?_ ?_ ?_ ?_ ?_
                    · rw [aL_ne (by decide) (by decide) (by decide), aVv_40 (by decide), aVv_40 (by decide), aT_ne (by decide), aVv_40 (by decide)]; exact h5
                    · unfold aL4; rw [u2_same, upd_same]
                    · rw [aL_ne (by decide) (by decide) (by decide), aVv_ne (by decide), aVv_ne (by decide)]; exact aT_5
                    · intro l hl
                      unfold aL4
                      simp (decide := true) only [aVv_ne, aT_ne, u2_same, u2_ne, u2_u2, upd_same, upd_ne, mE, u2_dyn, dyn_u2, dyn_hi, u2_hi, u2_hj, u2_dynj, u2_dd, u2_d0, u2_0d]
                      by_cases hlk : l = k
                      · subst hlk; rw [upd_same, upd_same, upd_same, upd_same]; exact ⟨rfl, rfl⟩
                      · rw [upd_ne hlk, upd_ne hlk, upd_ne (show 8 * nr + l ≠ 8 * nr + k by omega), upd_ne (show 8 * nr + l ≠ 8 * nr + k by omega)]; exact hrows l (by omega)
                    · simp (decide := true) only [f_X5_readLine_46, f_X5_readLine_25, f_X5_readLine, hnm, hkd, h2, c1, n18, n14, n17, hsub, h1, enr, h55, e9, hav, hnm2, n18b, hkd2, h3, c6, hvl, hv2, htot2, hpi, aT_5, c7, hav2, hsg, hsc, c8T, hav3, had, isO_s, gI_s, gA_s, gL_s, pZ_s, pL_s, aI_s, aL_s, aN_s, aQ_s, sI_s, sL_s, cr, LNs, Option.map_some, Option.map_none, Option.bind_some, b2, tr, lt, if_true, if_false, ckZ, X_within, M_in, inR_z, X_refuse, X_tell, X_deny, X_grant, M_refused, M_denied, M_done, M_granted, u2_same, u2_ne, u2_u2, upd_same, upd_ne, aW0, ixR_z, ixR_1, M_isWall, M_isPainter, M_isWork, X_has4, X_has10, X_at, or_false, false_or, or_true, true_or, not_true, not_false_iff, Option.isSome_some, isO_d, gI_d, gA_d, pI_d, ne_eq, not_false_eq_true, u2_hi, u2_hj, u2_dyn, u2_dynj, Nat.reduceAdd, mX_r, mX_rD, mX_rDj, mM_r, mX_u, mX_uM, mX_uD, mX_uDj, mM_u, mM_uX, mM_uD, mM_uDj, u2_dd, u2_d0, u2_0d]
                  · rw [if_pos c8]
                    have c8T : isC t n (i + 2) 37 = False := eq_false c8
                    have hf := X_failF (b := b) (F := F) (E := E) (P := P) (nx := nx) (us := us) 1 tV2 (show i + 2 ≤ la by omega) aVv_4
                    refine flt (aVv (aT5 (aVv I (i + 1)) (tot + num t n (i + 1))) (i + 2)) 1 (i + 2) ((FR5_V.trans FR5_T).trans FR5_V) ?_
                    simp (decide := true) only [f_X5_readLine_46, f_X5_readLine_25, f_X5_readLine, hnm, hkd, h2, c1, n18, n14, n17, hsub, h1, enr, h55, e9, hav, hnm2, n18b, hkd2, h3, c6, hvl, hv2, htot2, hpi, aT_5, c7, hav2, hsg, hsc, c8T, hf, isO_s, gI_s, gA_s, gL_s, pZ_s, pL_s, aI_s, aL_s, aN_s, aQ_s, sI_s, sL_s, cr, LNs, Option.map_some, Option.map_none, Option.bind_some, b2, tr, lt, if_true, if_false, ckZ, X_within, M_in, inR_z, X_refuse, X_tell, X_deny, X_grant, M_refused, M_denied, M_done, M_granted, u2_same, u2_ne, u2_u2, upd_same, upd_ne, aW0, ixR_z, ixR_1, M_isWall, M_isPainter, M_isWork, X_has4, X_has10, X_at, or_false, false_or, or_true, true_or, not_true, not_false_iff, Option.isSome_some, isO_d, gI_d, gA_d, pI_d, ne_eq, not_false_eq_true, u2_hi, u2_hj, u2_dyn, u2_dynj, Nat.reduceAdd, mX_r, mX_rD, mX_rDj, mM_r, mX_u, mX_uM, mX_uD, mX_uDj, mM_u, mM_uX, mM_uD, mM_uDj, u2_dd, u2_d0, u2_0d]
                · rw [if_pos c7]
                  have hf := X_failF (b := b) (F := F) (E := E) (P := P) (nx := nx) (us := us) 3 tT (show i + 1 ≤ la by omega) k4T
                  refine flt (aT5 (aVv I (i + 1)) (tot + num t n (i + 1))) 3 (i + 1) (FR5_V.trans FR5_T) ?_
                  simp (decide := true) only [f_X5_readLine_46, f_X5_readLine_25, f_X5_readLine, hnm, hkd, h2, c1, n18, n14, n17, hsub, h1, enr, h55, e9, hav, hnm2, n18b, hkd2, h3, c6, hvl, hv2, htot2, hpi, aT_5, c7, hf, isO_s, gI_s, gA_s, gL_s, pZ_s, pL_s, aI_s, aL_s, aN_s, aQ_s, sI_s, sL_s, cr, LNs, Option.map_some, Option.map_none, Option.bind_some, b2, tr, lt, if_true, if_false, ckZ, X_within, M_in, inR_z, X_refuse, X_tell, X_deny, X_grant, M_refused, M_denied, M_done, M_granted, u2_same, u2_ne, u2_u2, upd_same, upd_ne, aW0, ixR_z, ixR_1, M_isWall, M_isPainter, M_isWork, X_has4, X_has10, X_at, or_false, false_or, or_true, true_or, not_true, not_false_iff, Option.isSome_some, isO_d, gI_d, gA_d, pI_d, ne_eq, not_false_eq_true, u2_hi, u2_hj, u2_dyn, u2_dynj, Nat.reduceAdd, mX_r, mX_rD, mX_rDj, mM_r, mX_u, mX_uM, mX_uD, mX_uDj, mM_u, mM_uX, mM_uD, mM_uDj, u2_dd, u2_d0, u2_0d]
              · rw [if_pos c6]
                have hf := X_failF (b := b) (F := F) (E := E) (P := P) (nx := nx) (us := us) 1 tV (show i + 1 ≤ la by omega) aVv_4
                refine flt (aVv I (i + 1)) 1 (i + 1) FR5_V ?_
                simp (decide := true) only [f_X5_readLine_46, f_X5_readLine_25, f_X5_readLine, hnm, hkd, h2, c1, n18, n14, n17, hsub, h1, enr, h55, e9, hav, hnm2, n18b, hkd2, h3, c6, hf, isO_s, gI_s, gA_s, gL_s, pI_s, pZ_s, pL_s, aI_s, aL_s, aN_s, aQ_s, sI_s, sL_s, cr, LNs, Option.map_some, Option.map_none, Option.bind_some, b2, tr, lt, if_true, if_false, ckZ, X_within, M_in, inR_z, X_refuse, X_tell, X_deny, X_grant, M_refused, M_denied, M_done, M_granted, u2_same, u2_ne, u2_u2, upd_same, upd_ne, aW0, ixR_z, ixR_1, M_isWall, M_isPainter, M_isWork, X_has4, X_has10, X_at, or_false, false_or, or_true, true_or, not_true, not_false_iff, Option.isSome_some, isO_d, gI_d, gA_d, pI_d, ne_eq, not_false_eq_true, u2_hi, u2_hj, u2_dyn, u2_dynj, Nat.reduceAdd, mX_r, mX_rD, mX_rDj, mM_r, mX_u, mX_uM, mX_uD, mX_uDj, mM_u, mM_uX, mM_uD, mM_uDj, u2_dd, u2_d0, u2_0d]
    · rw [if_pos (Or.inl c1)]
      refine flt I 1 i FR5.refl ?_
      simp (decide := true) only [f_X5_readLine_46, f_X5_readLine_25, f_X5_readLine, hnm, hkd, h2, c1, hf1, isO_s, gI_s, gA_s, gL_s, pI_s, pZ_s, pL_s, aI_s, aL_s, aN_s, aQ_s, sI_s, sL_s, cr, LNs, Option.map_some, Option.map_none, Option.bind_some, b2, tr, lt, if_true, if_false, ckZ, X_within, M_in, inR_z, X_refuse, X_tell, X_deny, X_grant, M_refused, M_denied, M_done, M_granted, u2_same, u2_ne, u2_u2, upd_same, upd_ne, aW0, ixR_z, ixR_1, M_isWall, M_isPainter, M_isWork, X_has4, X_has10, X_at, or_false, false_or, or_true, true_or, not_true, not_false_iff, Option.isSome_some, isO_d, gI_d, gA_d, pI_d, ne_eq, not_false_eq_true, u2_hi, u2_hj, u2_dyn, u2_dynj, Nat.reduceAdd, mX_r, mX_rD, mX_rDj, mM_r, mX_u, mX_uM, mX_uD, mX_uDj, mM_u, mM_uX, mM_uD, mM_uDj, u2_dd, u2_d0, u2_0d]
end RGT2
