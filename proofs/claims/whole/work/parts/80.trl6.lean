/-! ===== trail: the call itself ===== -/
theorem mix_g {X0 I' : Nat → Nat → Int32} {h : RW} (hh : ∀ c, 72 ≤ c → c < 148 → c ≠ 72 → X0 c = I' c) : mM X0 (u2 I' 72 h) = u2 X0 72 h := by
  funext c
  unfold mM u2
  by_cases h1 : c = 72
  · subst h1; simp (decide := true) only [if_true]
  · by_cases h2 : 72 ≤ c ∧ c < 148
    · simp only [h1, h2, and_self, if_true, if_false]
      exact (hh c h2.1 h2.2 h1).symm
    · simp only [h1, h2, if_false]
section TRL6
variable {b : Nat} {F : Nat → Option AE} {D E : Nat → Option KD} {I : Nat → Nat → Int32} {L : Nat → Nat → Int64} {P : Nat → Nat → Option Nat} {nx us : Nat}
theorem call_trail (p : Int32) {nw nk nt a : Nat} {q wd hg ow : Nat → Nat} (hT : GTI I) (hnw : Cn nw 16 (I 1 1) (I 72 4)) (hA : WA nw q wd hg ow E (P 2)) (hC : WC nw q (dyn I) (I 75) (I 76) (I 79)) (hG : GWay (I 4) (I 89)) (hSh : GSh E P ow) (hTr : I 33 9 = I 72 102) (hnx : nx = 149 + a) (hO : ∀ c, a ≤ c → ow c = 0) (r1 : a + 1 + 149 ≤ 601024) (r2 : us + 4608 ≤ 7293034) :
    ∃ E2 I2 L2 P2 a2 us2 ow2, RunG b F (f_X11_trail (ad b 0) p) (f_X15_trail (ad b 72) p) E I L P nx us E2 I2 L2 P2 (149 + a2) us2 ∧ a ≤ a2 ∧ a2 ≤ a + 1 ∧ us2 ≤ us + 4608 ∧ GTI I2 ∧ I2 33 9 = I2 72 102 ∧ GSh E2 P2 ow2 ∧ (∀ c, c < 149 + a → E2 c = E c ∧ L2 c = L c) ∧ (∀ c, c < 149 + a → c ≠ 33 → P2 c = P c) ∧ (∀ c, c < a → ow2 c = ow c) ∧ (∀ c, a2 ≤ c → ow2 c = 0) ∧ (∀ c, c < a → ow c ≠ 8 → dyn I2 c = dyn I c) ∧ (∀ c k, c < 149 → [(0, 16), (33, 6), (33, 7), (33, 9), (72, 0), (72, 1), (72, 2), (72, 101), (72, 102)].contains (c, k) = false → [37, 142, 143].contains c = false → I2 c k = I c k) := by
  subst hnx
  obtain ⟨h16, hn2, hn3⟩ := hnw
  by_cases hp : (p < 0 ∨ 1023 < p)
  · refine ⟨E, rf I 2, L, P, a, us, ow, ⟨-1, E, u2 I 0 (upd (I 0) 16 2), L, P, 149 + a, us, by (simp (decide := true) only [f_X11_trail_56, f_X11_trail, hp, isO_s, gI_s, gA_s, gL_s, pI_s, pZ_s, pL_s, aI_s, aL_s, aN_s, aQ_s, sI_s, sL_s, cr, LNs, Option.map_some, Option.map_none, Option.bind_some, b2, tr, lt, if_true, if_false, ckZ, X_within, M_in, inR_z, X_refuse, X_tell, X_deny, X_grant, M_refused, M_denied, M_done, M_granted, u2_same, u2_ne, u2_u2, upd_same, upd_ne, aW0, ixR_z, ixR_1, M_isWall, M_isPainter, M_isWork, X_has4, X_has10, X_at, or_false, false_or, or_true, true_or, not_true, not_false_iff, Option.isSome_some, isO_d, gI_d, gA_d, pI_d, ne_eq, not_false_eq_true, u2_hi, u2_hj, u2_dyn, u2_dynj, Nat.reduceAdd, mX_r, mX_rD, mX_rDj, mM_r, mX_u, mX_uM, mX_uD, mX_uDj, mM_u, mM_uX, mM_uD, mM_uDj, u2_dd, u2_d0, u2_0d]; try exact rfl), by (simp (decide := true) only [f_X15_trail_401, f_X15_trail_384, f_X15_trail_383, f_X15_trail_379, f_X15_trail_305, f_X15_trail_275, f_X15_trail_211, f_X15_trail_100, f_X15_trail, hp, isO_s, gI_s, gA_s, gL_s, pI_s, pZ_s, pL_s, aI_s, aL_s, aN_s, aQ_s, sI_s, sL_s, cr, LNs, Option.map_some, Option.map_none, Option.bind_some, b2, tr, lt, if_true, if_false, ckZ, X_within, M_in, inR_z, X_refuse, X_tell, X_deny, X_grant, M_refused, M_denied, M_done, M_granted, u2_same, u2_ne, u2_u2, upd_same, upd_ne, aW0, ixR_z, ixR_1, M_isWall, M_isPainter, M_isWork, X_has4, X_has10, X_at, or_false, false_or, or_true, true_or, not_true, not_false_iff, Option.isSome_some, isO_d, gI_d, gA_d, pI_d, ne_eq, not_false_eq_true, u2_hi, u2_hj, u2_dyn, u2_dynj, Nat.reduceAdd, mX_r, mX_rD, mX_rDj, mM_r, mX_u, mX_uM, mX_uD, mX_uDj, mM_u, mM_uX, mM_uD, mM_uDj, u2_dd, u2_d0, u2_0d]; try exact rfl)⟩, Nat.le_refl _, by omega, by omega, rf_GT hT (by decide), ?_, hSh, fun _ _ => ⟨rfl, rfl⟩, fun _ _ _ => rfl, fun _ _ => rfl, hO, ?_, ?_⟩
    · simp (decide := true) only [rf, u2_same, u2_ne, u2_u2, upd_same, upd_ne, mE, u2_dyn, dyn_u2, dyn_hi, u2_hi, u2_hj, u2_dynj, u2_dd, u2_d0, u2_0d]; exact hTr
    · intro c hc _
      show rf I 2 (149 + c) = I (149 + c)
      unfold rf
      rw [u2_ne (by omega), u2_ne (by omega)]
    · intro c k h0 k1 k2
      refine rf_Fr I 2 c k ?_ (by simp)
      simp at k1 ⊢
      omega
  let I0 : Nat → Nat → Int32 := u2 (u2 I 33 (upd (upd (I 33) 6 0) 7 0)) 72 (upd (upd (I 72) 0 0) 101 0)
  have hx0 : mX I I0 = u2 I 33 (upd (upd (I 33) 6 0) 7 0) := by
    show mX I (u2 (u2 I 33 _) 72 _) = _
    rw [mX_uM (by decide), mX_u (by decide), mX_id]
  have hst := stopsL (b := b) (F := F) (E := E) (L := L) (P := P) (nx := 149 + a) (us := us) (th := p) h16 hA nw 0 (by omega) I0 0 (fun _ => 0) 0 (by omega) (by omega) (by simp (decide := true) only [I0, u2_same, u2_ne, u2_u2, upd_same, upd_ne, mE, u2_dyn, dyn_u2, dyn_hi, u2_hi, u2_hj, u2_dynj, u2_dd, u2_d0, u2_0d]; exact hn2) (by simp (decide := true) only [I0, u2_same, u2_ne, u2_u2, upd_same, upd_ne, mE, u2_dyn, dyn_u2, dyn_hi, u2_hi, u2_hj, u2_dynj, u2_dd, u2_d0, u2_0d]; exact hn3) (by simp (decide := true) only [I0, u2_same, u2_ne, u2_u2, upd_same, upd_ne, mE, u2_dyn, dyn_u2, dyn_hi, u2_hi, u2_hj, u2_dynj, u2_dd, u2_d0, u2_0d]; exact hC) ⟨by omega, fun k hk => by omega⟩ (by show I0 33 6 = 0; simp (decide := true) only [I0, u2_same, u2_ne, u2_u2, upd_same, upd_ne, mE, u2_dyn, dyn_u2, dyn_hi, u2_hi, u2_hj, u2_dynj, u2_dd, u2_d0, u2_0d]) (by show I0 72 101 = 0; simp (decide := true) only [I0, u2_same, u2_ne, u2_u2, upd_same, upd_ne, mE, u2_dyn, dyn_u2, dyn_hi, u2_hi, u2_hj, u2_dynj, u2_dd, u2_d0, u2_0d]) (by simp (decide := true) only [I0, u2_same, u2_ne, u2_u2, upd_same, upd_ne, mE, u2_dyn, dyn_u2, dyn_hi, u2_hi, u2_hj, u2_dynj, u2_dd, u2_d0, u2_0d]) (fun j hj hb => by rw [b_0] at hb; cases hb)
  -- what any end has in common
  have fin : ∀ (E2 : Nat → Option KD) (L2 : Nat → Nat → Int64) (P2 : Nat → Nat → Option Nat) (nx2 us2 : Nat) (I3 : Nat → Nat → Int32) (x : Int32) (v : Int32), x ≠ 4 → (∀ c, c ≠ 33 → c ≠ 37 → c ≠ 72 → c ≠ 142 → c ≠ 143 → c < 149 → I3 c = I c) → (∀ j, j ≠ 6 → j ≠ 7 → j ≠ 9 → I3 33 j = I 33 j) → (∀ j, j ≠ 101 → j ≠ 102 → I3 72 j = I0 72 j) → GTI (u2 (u2 I3 0 (upd (I 0) 16 x)) 72 (mE (I3 72) x)) ∧ (∀ c k, c < 149 → [(0, 16), (33, 6), (33, 7), (33, 9), (72, 0), (72, 1), (72, 2), (72, 101), (72, 102)].contains (c, k) = false → [37, 142, 143].contains c = false → u2 (u2 I3 0 (upd (I 0) 16 x)) 72 (mE (I3 72) x) c k = I c k) := by
    intro E2 L2 P2 nx2 us2 I3 x v hx4 s1 s2 s3
    have r3 : I3 72 3 = I 72 3 := by rw [s3 3 (by decide) (by decide)]; simp (decide := true) only [I0, u2_same, u2_ne, u2_u2, upd_same, upd_ne, mE, u2_dyn, dyn_u2, dyn_hi, u2_hi, u2_hj, u2_dynj, u2_dd, u2_d0, u2_0d]
    refine ⟨?_, ?_⟩
    · simp (decide := true) only [GTI, u2_same, u2_ne, u2_u2, upd_same, upd_ne, mE, u2_dyn, dyn_u2, dyn_hi, u2_hi, u2_hj, u2_dynj, u2_dd, u2_d0, u2_0d]
      rw [r3]
      exact GT_end hT hx4
    · intro c k h0 k1 k2
      simp at k1 k2
      by_cases q0 : c = 0
      · subst q0
        simp (decide := true) only [u2_same, u2_ne, u2_u2, upd_same, upd_ne, mE, u2_dyn, dyn_u2, dyn_hi, u2_hi, u2_hj, u2_dynj, u2_dd, u2_d0, u2_0d]
        exact upd_ne (by omega)
      · by_cases q2 : c = 72
        · subst q2
          simp (decide := true) only [u2_same, u2_ne, u2_u2, upd_same, upd_ne, mE, u2_dyn, dyn_u2, dyn_hi, u2_hi, u2_hj, u2_dynj, u2_dd, u2_d0, u2_0d]
          rw [upd_ne (by omega), upd_ne (by omega), s3 k (by omega) (by omega)]
          show u2 (u2 I 33 _) 72 _ 72 k = _
          rw [u2_same, upd_ne (by omega), upd_ne (by omega)]
        · rw [u2_ne q2, u2_ne q0]
          by_cases q3 : c = 33
          · subst q3
            exact s2 k (by omega) (by omega) (by omega)
          · rw [s1 c q3 (by omega) q2 (by omega) (by omega) h0]
  rcases hst with ⟨c2, st2, wt2, Is, z1, z2, z3, z4, z5, z6, z7, z8, z9⟩ | ⟨c2, Is, z1, z2, z7, z8, z9⟩
  · have z8 := z8 I FU (by unfold FU; omega)
    rw [hx0] at z8
    have z8' : f_X6_findStops_14 FU (ad b 33) p 0 0 (lay b F E (u2 I 33 (upd (upd (I 33) 6 0) 7 0)) L P (149 + a) us) = _ := z8
    have e9 : (Int32.ofNat c2 ≤ 9) = True := eq_true (oN_leL z1 (by decide))
    have rs0 : Is 0 = I 0 := by rw [z7.1 0 (by decide) (by decide) (by decide) (by decide)]; simp (decide := true) only [I0, u2_same, u2_ne, u2_u2, upd_same, upd_ne, mE, u2_dyn, dyn_u2, dyn_hi, u2_hi, u2_hj, u2_dynj, u2_dd, u2_d0, u2_0d]
    have rsc : ∀ c, c ≠ 33 → c ≠ 37 → c ≠ 72 → c ≠ 142 → Is c = I c := by
      intro c d1 d2 d3 d4
      rw [z7.1 c d1 d2 d3 d4]
      show u2 (u2 I 33 _) 72 _ c = _
      rw [u2_ne d3, u2_ne d1]
    have rs33 : ∀ j, j ≠ 6 → j ≠ 7 → Is 33 j = I 33 j := by
      intro j d1 d2
      rw [z7.2.1 j d1 d2]
      simp (decide := true) only [I0, u2_same, u2_ne, u2_u2, upd_same, upd_ne, mE, u2_dyn, dyn_u2, dyn_hi, u2_hi, u2_hj, u2_dynj, u2_dd, u2_d0, u2_0d]
      rw [upd_ne d2, upd_ne d1]
    by_cases h0 : c2 = 0
    · -- no wall has any
      subst h0
      have e0 : (Int32.ofNat 0 = 0) = True := eq_true rfl
      have hJ : ∀ c, 72 ≤ c → c < 148 → c ≠ 72 → u2 (mX I Is) 0 (upd (I 0) 16 0) c = u2 I 33 (upd (upd (I 33) 6 0) 7 0) c := by
        intro c d1 d2 d3
        rw [u2_ne (by omega), u2_ne (by omega)]
        exact if_pos ⟨d1, d2⟩
      have z9 := z9 (u2 (mX I Is) 0 (upd (I 0) 16 0)) E L P (149 + a) us FU (by unfold FU; omega)
      rw [if_pos rfl, show mM (u2 (mX I Is) 0 (upd (I 0) 16 0)) I0 = u2 (u2 (mX I Is) 0 (upd (I 0) 16 0)) 72 (upd (upd (I 72) 0 0) 101 0) from mix_g hJ, mix_2] at z9
      have z9' : f_X15_trail_31 FU (ad b 72) p 0 0 _ = _ := z9
      have hmx : mX I Is 72 = I 72 := if_pos (by decide)
      obtain ⟨f1, f2⟩ := fin E L P (149 + a) us Is 0 0 (by decide) (fun c d1 d2 d3 d4 _ _ => rsc c d1 d2 d3 d4) (fun j d1 d2 _ => rs33 j d1 d2) (fun j d1 _ => z7.2.2 j d1)
      refine ⟨E, u2 (u2 Is 0 (upd (I 0) 16 0)) 72 (mE (Is 72) 0), L, P, a, us, ow, ⟨-2, E, u2 (mX I Is) 0 (upd (I 0) 16 0), L, P, 149 + a, us, ?_, ?_⟩, Nat.le_refl _, by omega, by omega, f1, ?_, hSh, fun _ _ => ⟨rfl, rfl⟩, fun _ _ _ => rfl, fun _ _ => rfl, hO, ?_, f2⟩
      · simp (decide := true) only [f_X11_trail_56, f_X11_trail, f_X6_findStops_101, f_X6_findStops, hp, z8', e9, e0, rs0, isO_s, gI_s, gA_s, gL_s, pI_s, pZ_s, pL_s, aI_s, aL_s, aN_s, aQ_s, sI_s, sL_s, cr, LNs, Option.map_some, Option.map_none, Option.bind_some, b2, tr, lt, if_true, if_false, ckZ, X_within, M_in, inR_z, X_refuse, X_tell, X_deny, X_grant, M_refused, M_denied, M_done, M_granted, u2_same, u2_ne, u2_u2, upd_same, upd_ne, aW0, ixR_z, ixR_1, M_isWall, M_isPainter, M_isWork, X_has4, X_has10, X_at, or_false, false_or, or_true, true_or, not_true, not_false_iff, Option.isSome_some, isO_d, gI_d, gA_d, pI_d, ne_eq, not_false_eq_true, u2_hi, u2_hj, u2_dyn, u2_dynj, Nat.reduceAdd, mX_r, mX_rD, mX_rDj, mM_r, mX_u, mX_uM, mX_uD, mX_uDj, mM_u, mM_uX, mM_uD, mM_uDj, u2_dd, u2_d0, u2_0d]
      · simp (decide := true) only [f_X15_trail_401, f_X15_trail_384, f_X15_trail_383, f_X15_trail_379, f_X15_trail_305, f_X15_trail_275, f_X15_trail_211, f_X15_trail_100, f_X15_trail, hp, hmx, z9', isO_s, gI_s, gA_s, gL_s, pI_s, pZ_s, pL_s, aI_s, aL_s, aN_s, aQ_s, sI_s, sL_s, cr, LNs, Option.map_some, Option.map_none, Option.bind_some, b2, tr, lt, if_true, if_false, ckZ, X_within, M_in, inR_z, X_refuse, X_tell, X_deny, X_grant, M_refused, M_denied, M_done, M_granted, u2_same, u2_ne, u2_u2, upd_same, upd_ne, aW0, ixR_z, ixR_1, M_isWall, M_isPainter, M_isWork, X_has4, X_has10, X_at, or_false, false_or, or_true, true_or, not_true, not_false_iff, Option.isSome_some, isO_d, gI_d, gA_d, pI_d, ne_eq, not_false_eq_true, u2_hi, u2_hj, u2_dyn, u2_dynj, Nat.reduceAdd, mX_r, mX_rD, mX_rDj, mM_r, mX_u, mX_uM, mX_uD, mX_uDj, mM_u, mM_uX, mM_uD, mM_uDj, u2_dd, u2_d0, u2_0d]
      · simp (decide := true) only [u2_same, u2_ne, u2_u2, upd_same, upd_ne, mE, u2_dyn, dyn_u2, dyn_hi, u2_hi, u2_hj, u2_dynj, u2_dd, u2_d0, u2_0d]
        rw [rs33 9 (by decide) (by decide), z7.2.2 102 (by decide)]
        simp (decide := true) only [I0, u2_same, u2_ne, u2_u2, upd_same, upd_ne, mE, u2_dyn, dyn_u2, dyn_hi, u2_hi, u2_hj, u2_dynj, u2_dd, u2_d0, u2_0d]
        exact hTr
      · intro c hc _
        show u2 (u2 Is 0 _) 72 _ (149 + c) = _
        rw [u2_ne (by omega), u2_ne (by omega), rsc (149 + c) (by omega) (by omega) (by omega) (by omega)]
        rfl
    · have e0 : (Int32.ofNat c2 = 0) = False := oN_ne (c := 0) h0 (by omega) (by omega)
      have hpw := pw_n c2 (by omega)
      have hmx72 : ∀ K : Nat → Nat → Int32, mX I K 72 = I 72 := fun K => if_pos (by decide)
      have esh : ((1 : Int32) <<< (Int32.ofNat c2 &&& 31)) * 9 = Int32.ofNat (2 ^ c2 * 9) := by rw [sh_n c2 (by omega), show (9 : Int32) = Int32.ofNat 9 from rfl, oN_mul]
      have hdy : ∀ c, Is (149 + c) = I (149 + c) := fun c => rsc _ (by omega) (by omega) (by omega) (by omega)
      have hTQ : ∀ (K : Nat → Nat → Int32) (d : Nat), (∀ c, c < 149 → K c = Is c) → (∀ w, w < nw → dyn K (q w) = dyn I (q w)) → TQ nw c2 d st2 q wt2 K := by
        intro K d k1 k2
        unfold TQ
        rw [k1 1 (by decide), k1 4 (by decide), k1 89 (by decide), k1 37 (by decide), k1 142 (by decide), k1 33 (by decide), k1 72 (by decide), k1 75 (by decide), k1 76 (by decide), k1 79 (by decide), rsc 1 (by decide) (by decide) (by decide) (by decide), rsc 4 (by decide) (by decide) (by decide) (by decide), rsc 89 (by decide) (by decide) (by decide) (by decide), rsc 75 (by decide) (by decide) (by decide) (by decide), rsc 76 (by decide) (by decide) (by decide) (by decide), rsc 79 (by decide) (by decide) (by decide) (by decide)]
        refine ⟨hn2, hG, z2, z3, z4, ?_, z5⟩
        intro w hw
        rw [k2 w hw]
        exact hC w hw
      have r79 : I0 79 = I 79 := by simp (decide := true) only [I0, u2_same, u2_ne, u2_u2, upd_same, upd_ne, mE, u2_dyn, dyn_u2, dyn_hi, u2_hi, u2_hj, u2_dynj, u2_dd, u2_d0, u2_0d]
      rw [r79] at z6
      have hlow : ∀ w, w < nw → q w + 5 ≤ a := by
        intro w hw
        have := (hA w hw).2.2.2.2.2.2.2 4 (by omega)
        have h4 : ¬ a ≤ q w + 4 := fun h => by rw [hO _ h] at this; cases this
        omega
      -- the reference's way to its own sets
      have toM : ∀ (E' : Nat → Option KD) (L' : Nat → Nat → Int64) (P' : Nat → Nat → Option Nat) (nx' us' : Nat) (K : Nat → Nat → Int32), f_X15_trail (ad b 72) p (lay b F E' (u2 (mX I K) 0 (upd (I 0) 16 0)) L' P' nx' us') = f_X15_trail_129 FU (ad b 72) wt2 0 1000000 1 (lay b F E' (mM (u2 (mX I K) 0 (upd (I 0) 16 0)) Is) L' P' nx' us') := by
        intro E' L' P' nx' us' K
        have hJ : ∀ c, 72 ≤ c → c < 148 → c ≠ 72 → u2 (mX I K) 0 (upd (I 0) 16 0) c = u2 I 33 (upd (upd (I 33) 6 0) 7 0) c := by
          intro c d1 d2 d3
          rw [u2_ne (by omega), u2_ne (by omega)]
          exact if_pos ⟨d1, d2⟩
        have z9 := z9 (u2 (mX I K) 0 (upd (I 0) 16 0)) E' L' P' nx' us' FU (by unfold FU; omega)
        rw [if_neg h0, show mM (u2 (mX I K) 0 (upd (I 0) 16 0)) I0 = u2 (u2 (mX I K) 0 (upd (I 0) 16 0)) 72 (upd (upd (I 72) 0 0) 101 0) from mix_g hJ] at z9
        rw [← z9]
        simp (decide := true) only [f_X15_trail_401, f_X15_trail_384, f_X15_trail_383, f_X15_trail_379, f_X15_trail_305, f_X15_trail_275, f_X15_trail_211, f_X15_trail_100, f_X15_trail, hp, hmx72, isO_s, gI_s, gA_s, gL_s, pI_s, pZ_s, pL_s, aI_s, aL_s, aN_s, aQ_s, sI_s, sL_s, cr, LNs, Option.map_some, Option.map_none, Option.bind_some, b2, tr, lt, if_true, if_false, ckZ, X_within, M_in, inR_z, X_refuse, X_tell, X_deny, X_grant, M_refused, M_denied, M_done, M_granted, u2_same, u2_ne, u2_u2, upd_same, upd_ne, aW0, ixR_z, ixR_1, M_isWall, M_isPainter, M_isWork, X_has4, X_has10, X_at, or_false, false_or, or_true, true_or, not_true, not_false_iff, Option.isSome_some, isO_d, gI_d, gA_d, pI_d, ne_eq, not_false_eq_true, u2_hi, u2_hj, u2_dyn, u2_dynj, Nat.reduceAdd, mX_r, mX_rD, mX_rDj, mM_r, mX_u, mX_uM, mX_uD, mX_uDj, mM_u, mM_uX, mM_uD, mM_uDj, u2_dd, u2_d0, u2_0d]
        rfl
      obtain ⟨sc, len, p1, p2, p3, p4⟩ := hSh
      have hgA : gA 6 (lay b F E (mX I Is) L P (149 + a) us) (ad b 33) 8 = some (ad b sc) := by rw [gA_sP (by decide) (by decide) (by decide), p1]; rfl
      have s33 : Is 33 6 = Int32.ofNat c2 := z3
      by_cases hfit : 2 ^ c2 * 9 ≤ len
      · have hpos : 0 < 2 ^ c2 := Nat.two_pow_pos c2
        obtain ⟨d, hd1, hd2⟩ : ∃ d, sc = 149 + d ∧ ow d = 8 := by
          rcases p4 with ⟨-, p4⟩ | p4
          · omega
          · exact p4
        subst hd1
        have ef : (Int32.ofNat (2 ^ c2 * 9) ≤ Int32.ofNat len) = True := eq_true (oN_leL hfit (by omega))
        have hdq : ∀ w, w < nw → q w ≠ d := by
          intro w hw e
          have := (hA w hw).2.2.2.2.2.2.2 0 (by omega)
          rw [Nat.add_zero, e, hd2] at this
          cases this
        obtain ⟨v, I3, y1, y2, y3, y4, y5, y6⟩ := trailTail (b := b) (F := F) (E := E) (L := L) (P := P) (nx := 149 + a) (us := us) (I := Is) h16 hA hdq p1 p2 (by omega) (by omega) (hTQ Is d (fun _ _ => rfl) (fun w hw => hdy _)) h0 (by rw [rsc 79 (by decide) (by decide) (by decide) (by decide)]; exact z6)
        have r30 : I3 0 = I 0 := by rw [y1 0 (by decide) (by decide) (by decide) (by omega)]; exact rs0
        obtain ⟨f1, f2⟩ := fin E L P (149 + a) us I3 0 0 (by decide) (fun c d1 d2 d3 d4 d5 d6 => by rw [y1 c d1 d3 d5 (by omega)]; exact rsc c d1 d2 d3 d4) (fun j d1 d2 d3 => by rw [y2 j d3]; exact rs33 j d1 d2) (fun j d1 d2 => by rw [y3 j d2]; exact z7.2.2 j d1)
        refine ⟨E, u2 (u2 I3 0 (upd (I 0) 16 0)) 72 (mE (I3 72) 0), L, P, a, us, ow, ⟨v, E, u2 (mX I I3) 0 (upd (I 0) 16 0), L, P, 149 + a, us, ?_, ?_⟩, Nat.le_refl _, by omega, by omega, f1, ?_, ⟨149 + d, len, p1, p2, p3, Or.inr ⟨d, rfl, hd2⟩⟩, fun _ _ => ⟨rfl, rfl⟩, fun _ _ _ => rfl, fun _ _ => rfl, hO, ?_, f2⟩
        · simp (decide := true) only [f_X11_trail_56, f_X11_trail, f_X6_findStops_101, f_X6_findStops, f_X6_shortestTrail_155, f_X6_shortestTrail_104, f_X6_shortestTrail_98, f_X6_shortestTrail_26, f_X6_shortestTrail, hp, z8', e9, e0, s33, esh, hgA, aN_d p2, ef, y5, r30, isO_s, gI_s, gA_s, gL_s, pI_s, pZ_s, pL_s, aI_s, aL_s, aN_s, aQ_s, sI_s, sL_s, cr, LNs, Option.map_some, Option.map_none, Option.bind_some, b2, tr, lt, if_true, if_false, ckZ, X_within, M_in, inR_z, X_refuse, X_tell, X_deny, X_grant, M_refused, M_denied, M_done, M_granted, u2_same, u2_ne, u2_u2, upd_same, upd_ne, aW0, ixR_z, ixR_1, M_isWall, M_isPainter, M_isWork, X_has4, X_has10, X_at, or_false, false_or, or_true, true_or, not_true, not_false_iff, Option.isSome_some, isO_d, gI_d, gA_d, pI_d, ne_eq, not_false_eq_true, u2_hi, u2_hj, u2_dyn, u2_dynj, Nat.reduceAdd, mX_r, mX_rD, mX_rDj, mM_r, mX_u, mX_uM, mX_uD, mX_uDj, mM_u, mM_uX, mM_uD, mM_uDj, u2_dd, u2_d0, u2_0d]
        · rw [toM]
          have y6 := y6 (u2 (mX I I3) 0 (upd (I 0) 16 0))
          have hmm : mM (u2 (mX I I3) 0 (upd (I 0) 16 0)) I3 = u2 I3 0 (upd (I 0) 16 0) := mix_2
          rw [hmm] at y6
          rw [y6]
          simp (decide := true) only [isO_s, gI_s, gA_s, gL_s, pI_s, pZ_s, pL_s, aI_s, aL_s, aN_s, aQ_s, sI_s, sL_s, cr, LNs, Option.map_some, Option.map_none, Option.bind_some, b2, tr, lt, if_true, if_false, ckZ, X_within, M_in, inR_z, X_refuse, X_tell, X_deny, X_grant, M_refused, M_denied, M_done, M_granted, u2_same, u2_ne, u2_u2, upd_same, upd_ne, aW0, ixR_z, ixR_1, M_isWall, M_isPainter, M_isWork, X_has4, X_has10, X_at, or_false, false_or, or_true, true_or, not_true, not_false_iff, Option.isSome_some, isO_d, gI_d, gA_d, pI_d, ne_eq, not_false_eq_true, u2_hi, u2_hj, u2_dyn, u2_dynj, Nat.reduceAdd, mX_r, mX_rD, mX_rDj, mM_r, mX_u, mX_uM, mX_uD, mX_uDj, mM_u, mM_uX, mM_uD, mM_uDj, u2_dd, u2_d0, u2_0d]
        · simp (decide := true) only [u2_same, u2_ne, u2_u2, upd_same, upd_ne, mE, u2_dyn, dyn_u2, dyn_hi, u2_hi, u2_hj, u2_dynj, u2_dd, u2_d0, u2_0d]
          exact y4
        · intro c hc hc8
          have hcd : c ≠ d := by rintro rfl; exact hc8 hd2
          show u2 (u2 I3 0 _) 72 _ (149 + c) = _
          rw [u2_ne (by omega), u2_ne (by omega), y1 (149 + c) (by omega) (by omega) (by omega) (by omega), hdy]
          rfl
      · have ef : (Int32.ofNat (2 ^ c2 * 9) ≤ Int32.ofNat len) = False := oN_leF (by omega) (by omega)
        have hnw := nwA_r (b := b) (F := F) (D := kdf E) (I := mX I Is) (L := L) (P := P) (nx := 149 + a) (us := us) (t := 0) (n := 2 ^ c2 * 9) (by decide) (by omega) (by omega) (by omega)
        rw [kdf_u2 (show 149 ≤ 149 + a by omega)] at hnw
        let E' : Nat → Option KD := u2 E (149 + a) (some (.inl (0, 2 ^ c2 * 9)))
        let L' : Nat → Nat → Int64 := u2 L (149 + a) (fun _ => 0)
        let P' : Nat → Nat → Option Nat := u2 (u2 P (149 + a) (fun _ => none)) 33 (va_up (P 33) 8 (some (149 + a)))
        let I' : Nat → Nat → Int32 := u2 Is (149 + a) (fun _ => 0)
        have hP33 : P' 33 8 = some (149 + a) := by
          have : P' 33 = va_up (P 33) 8 (some (149 + a)) := u2_same _ _ _
          rw [this]; exact vup_same _ _ _
        have hP2 : P' 2 = P 2 := by show u2 (u2 P _ _) 33 _ 2 = _; rw [u2_ne (by decide), u2_ne (by omega)]
        have hEl : ∀ c, c < 149 + a → E' c = E c := fun c hc => u2_ne (by omega)
        have hA' : WA nw q wd hg ow E' (P' 2) := by
          rw [hP2]
          intro w hw
          obtain ⟨b1, ⟨k0, k1, k2, k3, k4⟩, b2⟩ := hA w hw
          have := hlow w hw
          exact ⟨b1, ⟨(hEl _ (by omega)).trans k0, (hEl _ (by omega)).trans k1, (hEl _ (by omega)).trans k2, (hEl _ (by omega)).trans k3, (hEl _ (by omega)).trans k4⟩, b2⟩
        have hK' : kdf E' (149 + a) = some (.inl (0, 2 ^ c2 * 9)) := kdf_of (by omega) (u2_same _ _ _)
        obtain ⟨v, I3, y1, y2, y3, y4, y5, y6⟩ := trailTail (b := b) (F := F) (E := E') (L := L') (P := P') (nx := 149 + a + 1) (us := us + 2 ^ c2 * 9) (I := I') h16 hA' (fun w hw => by have := hlow w hw; omega) hP33 hK' (by omega) (by omega) (hTQ I' a (fun c hc => u2_ne (by omega)) (fun w hw => by
          have := hlow w hw
          show u2 Is (149 + a) _ (149 + q w) = _
          rw [u2_ne (by omega), hdy]
          rfl)) h0 (by
          have : I' 79 = I 79 := by show u2 Is (149 + a) _ 79 = _; rw [u2_ne (by omega)]; exact rsc 79 (by decide) (by decide) (by decide) (by decide)
          rw [this]; exact z6)
        have rI' : ∀ c, c < 149 + a → I' c = Is c := fun c hc => u2_ne (by omega)
        have r30 : I3 0 = I 0 := by rw [y1 0 (by decide) (by decide) (by decide) (by omega), rI' 0 (by omega)]; exact rs0
        obtain ⟨f1, f2⟩ := fin E' L' P' (149 + a + 1) (us + 2 ^ c2 * 9) I3 0 0 (by decide) (fun c d1 d2 d3 d4 d5 d6 => by rw [y1 c d1 d3 d5 (by omega), rI' c (by omega)]; exact rsc c d1 d2 d3 d4) (fun j d1 d2 d3 => by rw [y2 j d3, rI' 33 (by omega)]; exact rs33 j d1 d2) (fun j d1 d2 => by rw [y3 j d2, rI' 72 (by omega)]; exact z7.2.2 j d1)
        have hIX : u2 (mX I Is) (149 + a) (fun _ => 0) = mX I I' := by
          show _ = mX I (u2 Is (149 + a) _)
          rw [mX_uD]
        have hP3' : u2 P (149 + a) (fun _ => none) 33 = P 33 := u2_ne (by omega)
        refine ⟨E', u2 (u2 I3 0 (upd (I 0) 16 0)) 72 (mE (I3 72) 0), L', P', a + 1, us + 2 ^ c2 * 9, fun c => if c = a then 8 else ow c, ⟨v, E', u2 (mX I I3) 0 (upd (I 0) 16 0), L', P', 149 + a + 1, us + 2 ^ c2 * 9, ?_, ?_⟩, by omega, Nat.le_refl _, by omega, f1, ?_, ⟨149 + a, 2 ^ c2 * 9, hP33, hK', by omega, Or.inr ⟨a, rfl, if_pos rfl⟩⟩, fun c hc => ⟨hEl c hc, u2_ne (by omega)⟩, ?_, ?_, ?_, ?_, f2⟩
        · have y5' := y5 I
          simp only [E', L', P'] at y5' ⊢
          rw [hIX] at hnw
          simp (decide := true) only [f_X11_trail_56, f_X11_trail, f_X6_findStops_101, f_X6_findStops, f_X6_shortestTrail_155, f_X6_shortestTrail_104, f_X6_shortestTrail_98, f_X6_shortestTrail_26, f_X6_shortestTrail, hp, z8', e9, e0, s33, esh, hgA, aN_d p2, ef, hnw, pQ_s, hP3', y5', r30, isO_s, gI_s, gA_s, gL_s, pI_s, pZ_s, pL_s, aI_s, aL_s, aN_s, aQ_s, sI_s, sL_s, cr, LNs, Option.map_some, Option.map_none, Option.bind_some, b2, tr, lt, if_true, if_false, ckZ, X_within, M_in, inR_z, X_refuse, X_tell, X_deny, X_grant, M_refused, M_denied, M_done, M_granted, u2_same, u2_ne, u2_u2, upd_same, upd_ne, aW0, ixR_z, ixR_1, M_isWall, M_isPainter, M_isWork, X_has4, X_has10, X_at, or_false, false_or, or_true, true_or, not_true, not_false_iff, Option.isSome_some, isO_d, gI_d, gA_d, pI_d, ne_eq, not_false_eq_true, u2_hi, u2_hj, u2_dyn, u2_dynj, Nat.reduceAdd, mX_r, mX_rD, mX_rDj, mM_r, mX_u, mX_uM, mX_uD, mX_uDj, mM_u, mM_uX, mM_uD, mM_uDj, u2_dd, u2_d0, u2_0d]
        · rw [toM]
          have y6 := y6 (u2 (mX I I3) 0 (upd (I 0) 16 0))
          have hmm : mM (u2 (mX I I3) 0 (upd (I 0) 16 0)) I3 = u2 I3 0 (upd (I 0) 16 0) := mix_2
          have hmm2 : mM (u2 (mX I I3) 0 (upd (I 0) 16 0)) I' = mM (u2 (mX I I3) 0 (upd (I 0) 16 0)) Is := mM_uD
          rw [hmm, hmm2] at y6
          rw [y6]
          simp (decide := true) only [isO_s, gI_s, gA_s, gL_s, pI_s, pZ_s, pL_s, aI_s, aL_s, aN_s, aQ_s, sI_s, sL_s, cr, LNs, Option.map_some, Option.map_none, Option.bind_some, b2, tr, lt, if_true, if_false, ckZ, X_within, M_in, inR_z, X_refuse, X_tell, X_deny, X_grant, M_refused, M_denied, M_done, M_granted, u2_same, u2_ne, u2_u2, upd_same, upd_ne, aW0, ixR_z, ixR_1, M_isWall, M_isPainter, M_isWork, X_has4, X_has10, X_at, or_false, false_or, or_true, true_or, not_true, not_false_iff, Option.isSome_some, isO_d, gI_d, gA_d, pI_d, ne_eq, not_false_eq_true, u2_hi, u2_hj, u2_dyn, u2_dynj, Nat.reduceAdd, mX_r, mX_rD, mX_rDj, mM_r, mX_u, mX_uM, mX_uD, mX_uDj, mM_u, mM_uX, mM_uD, mM_uDj, u2_dd, u2_d0, u2_0d]
          rfl
        · simp (decide := true) only [u2_same, u2_ne, u2_u2, upd_same, upd_ne, mE, u2_dyn, dyn_u2, dyn_hi, u2_hi, u2_hj, u2_dynj, u2_dd, u2_d0, u2_0d]
          exact y4
        · intro c hc hc2
          show u2 (u2 P _ _) 33 _ c = _
          rw [u2_ne hc2, u2_ne (by omega)]
        · intro c hc
          exact if_neg (by omega)
        · intro c hc
          show (if c = a then 8 else ow c) = 0
          rw [if_neg (by omega)]
          exact hO c (by omega)
        · intro c hc hc8
          show u2 (u2 I3 0 _) 72 _ (149 + c) = _
          rw [u2_ne (by omega), u2_ne (by omega), y1 (149 + c) (by omega) (by omega) (by omega) (by omega), rI' (149 + c) (by omega), hdy]
          rfl
  · -- too many
    have z8 := z8 I FU (by unfold FU; omega)
    rw [hx0] at z8
    have z8' : f_X6_findStops_14 FU (ad b 33) p 0 0 (lay b F E (u2 I 33 (upd (upd (I 33) 6 0) 7 0)) L P (149 + a) us) = _ := z8
    have e9 : (Int32.ofNat c2 ≤ 9) = False := oN_leF (a := 9) (by omega) (by omega)
    have rs0 : Is 0 = I 0 := by rw [z7.1 0 (by decide) (by decide) (by decide) (by decide)]; simp (decide := true) only [I0, u2_same, u2_ne, u2_u2, upd_same, upd_ne, mE, u2_dyn, dyn_u2, dyn_hi, u2_hi, u2_hj, u2_dynj, u2_dd, u2_d0, u2_0d]
    have rsc : ∀ c, c ≠ 33 → c ≠ 37 → c ≠ 72 → c ≠ 142 → Is c = I c := by
      intro c d1 d2 d3 d4
      rw [z7.1 c d1 d2 d3 d4]
      show u2 (u2 I 33 _) 72 _ c = _
      rw [u2_ne d3, u2_ne d1]
    have rs33 : ∀ j, j ≠ 6 → j ≠ 7 → Is 33 j = I 33 j := by
      intro j d1 d2
      rw [z7.2.1 j d1 d2]
      simp (decide := true) only [I0, u2_same, u2_ne, u2_u2, upd_same, upd_ne, mE, u2_dyn, dyn_u2, dyn_hi, u2_hi, u2_hj, u2_dynj, u2_dd, u2_d0, u2_0d]
      rw [upd_ne d2, upd_ne d1]
    have hJ : ∀ c, 72 ≤ c → c < 148 → c ≠ 72 → u2 (mX I Is) 0 (upd (I 0) 16 6) c = u2 I 33 (upd (upd (I 33) 6 0) 7 0) c := by
      intro c d1 d2 d3
      rw [u2_ne (by omega), u2_ne (by omega)]
      exact if_pos ⟨d1, d2⟩
    have z9 := z9 (u2 (mX I Is) 0 (upd (I 0) 16 6)) E L P (149 + a) us FU (by unfold FU; omega)
    rw [show mM (u2 (mX I Is) 0 (upd (I 0) 16 6)) I0 = u2 (u2 (mX I Is) 0 (upd (I 0) 16 6)) 72 (upd (upd (I 72) 0 0) 101 0) from mix_g hJ, mix_2] at z9
    have z9' : f_X15_trail_31 FU (ad b 72) p 0 0 _ = _ := z9
    have hmx : mX I Is 72 = I 72 := if_pos (by decide)
    obtain ⟨f1, f2⟩ := fin E L P (149 + a) us Is 6 0 (by decide) (fun c d1 d2 d3 d4 _ _ => rsc c d1 d2 d3 d4) (fun j d1 d2 _ => rs33 j d1 d2) (fun j d1 _ => z7.2.2 j d1)
    refine ⟨E, u2 (u2 Is 0 (upd (I 0) 16 6)) 72 (mE (Is 72) 6), L, P, a, us, ow, ⟨-1, E, u2 (mX I Is) 0 (upd (I 0) 16 6), L, P, 149 + a, us, ?_, ?_⟩, Nat.le_refl _, by omega, by omega, f1, ?_, hSh, fun _ _ => ⟨rfl, rfl⟩, fun _ _ _ => rfl, fun _ _ => rfl, hO, ?_, f2⟩
    · simp (decide := true) only [f_X11_trail_56, f_X11_trail, f_X6_findStops_101, f_X6_findStops, hp, z8', e9, rs0, isO_s, gI_s, gA_s, gL_s, pI_s, pZ_s, pL_s, aI_s, aL_s, aN_s, aQ_s, sI_s, sL_s, cr, LNs, Option.map_some, Option.map_none, Option.bind_some, b2, tr, lt, if_true, if_false, ckZ, X_within, M_in, inR_z, X_refuse, X_tell, X_deny, X_grant, M_refused, M_denied, M_done, M_granted, u2_same, u2_ne, u2_u2, upd_same, upd_ne, aW0, ixR_z, ixR_1, M_isWall, M_isPainter, M_isWork, X_has4, X_has10, X_at, or_false, false_or, or_true, true_or, not_true, not_false_iff, Option.isSome_some, isO_d, gI_d, gA_d, pI_d, ne_eq, not_false_eq_true, u2_hi, u2_hj, u2_dyn, u2_dynj, Nat.reduceAdd, mX_r, mX_rD, mX_rDj, mM_r, mX_u, mX_uM, mX_uD, mX_uDj, mM_u, mM_uX, mM_uD, mM_uDj, u2_dd, u2_d0, u2_0d]
    · simp (decide := true) only [f_X15_trail_401, f_X15_trail_384, f_X15_trail_383, f_X15_trail_379, f_X15_trail_305, f_X15_trail_275, f_X15_trail_211, f_X15_trail_100, f_X15_trail, hp, hmx, z9', isO_s, gI_s, gA_s, gL_s, pI_s, pZ_s, pL_s, aI_s, aL_s, aN_s, aQ_s, sI_s, sL_s, cr, LNs, Option.map_some, Option.map_none, Option.bind_some, b2, tr, lt, if_true, if_false, ckZ, X_within, M_in, inR_z, X_refuse, X_tell, X_deny, X_grant, M_refused, M_denied, M_done, M_granted, u2_same, u2_ne, u2_u2, upd_same, upd_ne, aW0, ixR_z, ixR_1, M_isWall, M_isPainter, M_isWork, X_has4, X_has10, X_at, or_false, false_or, or_true, true_or, not_true, not_false_iff, Option.isSome_some, isO_d, gI_d, gA_d, pI_d, ne_eq, not_false_eq_true, u2_hi, u2_hj, u2_dyn, u2_dynj, Nat.reduceAdd, mX_r, mX_rD, mX_rDj, mM_r, mX_u, mX_uM, mX_uD, mX_uDj, mM_u, mM_uX, mM_uD, mM_uDj, u2_dd, u2_d0, u2_0d]
    · simp (decide := true) only [u2_same, u2_ne, u2_u2, upd_same, upd_ne, mE, u2_dyn, dyn_u2, dyn_hi, u2_hi, u2_hj, u2_dynj, u2_dd, u2_d0, u2_0d]
      rw [rs33 9 (by decide) (by decide), z7.2.2 102 (by decide)]
      simp (decide := true) only [I0, u2_same, u2_ne, u2_u2, upd_same, upd_ne, mE, u2_dyn, dyn_u2, dyn_hi, u2_hi, u2_hj, u2_dynj, u2_dd, u2_d0, u2_0d]
      exact hTr
    · intro c hc _
      show u2 (u2 Is 0 _) 72 _ (149 + c) = _
      rw [u2_ne (by omega), u2_ne (by omega), rsc (149 + c) (by omega) (by omega) (by omega) (by omega)]
      rfl
end TRL6
