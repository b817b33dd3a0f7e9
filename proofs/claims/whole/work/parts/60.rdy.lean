/-! ===== end, ready: the calls ===== -/
theorem sm_add (f g : Nat → Int32) : ∀ (m i : Nat), sm f i m + sm g i m = sm (fun k => f k + g k) i m := by
  intro m
  induction m with
  | zero => intro i; rfl
  | succ m ih =>
    intro i
    show f i + sm f (i + 1) m + (g i + sm g (i + 1) m) = f i + g i + sm (fun k => f k + g k) (i + 1) m
    rw [← ih (i + 1)]
    grind
section RDY
variable {b : Nat} {F : Nat → Option AE} {D E : Nat → Option KD} {I : Nat → Nat → Int32} {L : Nat → Nat → Int64} {P : Nat → Nat → Option Nat} {nx us : Nat}
theorem call_end (p : Int32) {nk nw np ndr td : Nat} (hT : GTI I) (hk : Cn nk 40 (I 13 1) (I 72 76)) (ht : Cn td 3649 (I 13 14) (I 72 5)) (hl : GLift (I 13 13) (I 72 78)) (hWe : GWea (I 23) (I 13 12) (I 133) (I 134)) (hG : GWrk nk nw np ndr td (I 14) (I 15) (I 16) (I 17) (I 18) (I 20) (I 21) (I 22) (I 123) (I 124) (I 125) (I 126) (I 127) (I 128) (I 129) (I 130) (I 131)) : ∃ I2, Run b F E L P nx us (f_X11_end (ad b 0) p) (f_X15_end (ad b 72) p) I I2 ∧ GTI I2 ∧ Fr I I2 [(72, 0)] [19, 137, 138] := by
  obtain ⟨hn1, hn2, hn3⟩ := hk
  have h40 : Int32.ofNat nk ≤ 40 := oN_leL hn1 (by decide)
  rcases ixc p (n := nk) (by omega) with h | ⟨k, hkk, rfl⟩
  · refine ⟨th I, ⟨-1, I, ?_, ?_⟩, th_GT hT, ?_⟩
    · (simp (decide := true) only [f_X11_end, f_X10_foretoldEnd_76, f_X10_foretoldEnd, h40, hn2, h, isO_s, gI_s, gA_s, gL_s, pI_s, pZ_s, pL_s, aI_s, aL_s, aN_s, aQ_s, sI_s, sL_s, cr, LNs, Option.map_some, Option.map_none, Option.bind_some, b2, tr, lt, if_true, if_false, ckZ, X_within, M_in, inR_z, X_refuse, X_tell, X_deny, X_grant, M_refused, M_denied, M_done, M_granted, u2_same, u2_ne, u2_u2, upd_same, upd_ne, aW0, ixR_z, ixR_1, M_isWall, M_isPainter, M_isWork, X_has4, X_has10, X_at, or_false, false_or, or_true, true_or, not_true, not_false_iff, Option.isSome_some, isO_d, gI_d, gA_d, pI_d, ne_eq, not_false_eq_true, u2_hi, u2_hj, u2_dyn, u2_dynj, Nat.reduceAdd]; try exact rfl)
    · (simp (decide := true) only [f_X15_end_84, f_X15_end, hn3, h, isO_s, gI_s, gA_s, gL_s, pI_s, pZ_s, pL_s, aI_s, aL_s, aN_s, aQ_s, sI_s, sL_s, cr, LNs, Option.map_some, Option.map_none, Option.bind_some, b2, tr, lt, if_true, if_false, ckZ, X_within, M_in, inR_z, X_refuse, X_tell, X_deny, X_grant, M_refused, M_denied, M_done, M_granted, u2_same, u2_ne, u2_u2, upd_same, upd_ne, aW0, ixR_z, ixR_1, M_isWall, M_isPainter, M_isWork, X_has4, X_has10, X_at, or_false, false_or, or_true, true_or, not_true, not_false_iff, Option.isSome_some, isO_d, gI_d, gA_d, pI_d, ne_eq, not_false_eq_true, u2_hi, u2_hj, u2_dyn, u2_dynj, Nat.reduceAdd]; try exact rfl)
    · unfold th
      exact (by repeat (first | exact Fr.refl _ _ _ | refine Fr.whole ?_ (by decide) | refine Fr.slot ?_ (fun k hk => by (try simp (decide := true) only [mE, u2_ne, u2_same, u2_u2]); repeat rw [upd_fr (by decide) hk])))
  have e1 := oN_neg (w := k) (by omega)
  have e2 := oN_leF hkk (by omega)
  have e3 : iN (Int32.ofNat k) 40 = some k := iN_oN (by omega) (by omega)
  obtain ⟨g1, -, g3, -, g5, -, g7, g8, -, -, g11, g12⟩ := hG k hkk
  have hov := WST_over g7
  by_cases hs : I 126 k = 3
  · have h5 : ¬ I 18 k < I 17 k := fun q => hov.mp q hs
    refine ⟨th I, ⟨I 20 k, I, ?_, ?_⟩, th_GT hT, ?_⟩
    · (simp (decide := true) only [f_X11_end, f_X10_foretoldEnd_76, f_X10_foretoldEnd, h40, hn2, e1, e2, e3, h5, isO_s, gI_s, gA_s, gL_s, pI_s, pZ_s, pL_s, aI_s, aL_s, aN_s, aQ_s, sI_s, sL_s, cr, LNs, Option.map_some, Option.map_none, Option.bind_some, b2, tr, lt, if_true, if_false, ckZ, X_within, M_in, inR_z, X_refuse, X_tell, X_deny, X_grant, M_refused, M_denied, M_done, M_granted, u2_same, u2_ne, u2_u2, upd_same, upd_ne, aW0, ixR_z, ixR_1, M_isWall, M_isPainter, M_isWork, X_has4, X_has10, X_at, or_false, false_or, or_true, true_or, not_true, not_false_iff, Option.isSome_some, isO_d, gI_d, gA_d, pI_d, ne_eq, not_false_eq_true, u2_hi, u2_hj, u2_dyn, u2_dynj, Nat.reduceAdd]; try exact rfl)
    · (simp (decide := true) only [f_X15_end_84, f_X15_end, hn3, e1, e2, e3, hs, g8, isO_s, gI_s, gA_s, gL_s, pI_s, pZ_s, pL_s, aI_s, aL_s, aN_s, aQ_s, sI_s, sL_s, cr, LNs, Option.map_some, Option.map_none, Option.bind_some, b2, tr, lt, if_true, if_false, ckZ, X_within, M_in, inR_z, X_refuse, X_tell, X_deny, X_grant, M_refused, M_denied, M_done, M_granted, u2_same, u2_ne, u2_u2, upd_same, upd_ne, aW0, ixR_z, ixR_1, M_isWall, M_isPainter, M_isWork, X_has4, X_has10, X_at, or_false, false_or, or_true, true_or, not_true, not_false_iff, Option.isSome_some, isO_d, gI_d, gA_d, pI_d, ne_eq, not_false_eq_true, u2_hi, u2_hj, u2_dyn, u2_dynj, Nat.reduceAdd]; try exact rfl)
    · unfold th
      exact (by repeat (first | exact Fr.refl _ _ _ | refine Fr.whole ?_ (by decide) | refine Fr.slot ?_ (fun k hk => by (try simp (decide := true) only [mE, u2_ne, u2_same, u2_u2]); repeat rw [upd_fr (by decide) hk])))
  have h5 : I 18 k < I 17 k := hov.mpr hs
  have hf : (0 : Int32) ≤ I 72 78 := Int32.le_trans (by decide) hl.2.1
  have hcp : ∀ j, j < nk → va_cpy (I 18) (I 19) 0 0 40 j = I 18 j := by
    intro j hj
    unfold va_cpy
    rw [if_pos (by omega)]
    congr 1; omega
  obtain ⟨v, did', st', lf', z1, z2⟩ := endLoop (b := b) (F := F) (E := E) (L := L) (P := P) (nx := nx) (us := us) (nd := I 17) (co := I 128) hn1 hkk hf hWe (3650 - td) td (by have := ht.1; omega) (va_cpy (I 18) (I 19) 0 0 40) (cpF 0 nk (I 126) (I 137)) (cpF 0 nk (I 127) (I 138)) (fun j hj => by
    rw [hcp j hj, cpF_in (by omega) hj, cpF_in (by omega) hj]
    exact (hG j hj).2.2.2.2.2.2.1) (by rw [cpF_in (by omega) hkk]; exact hs)
  have z1 := z1 (u2 I 19 (va_cpy (I 18) (I 19) 0 0 40)) FU (by unfold FU; omega) (u2_same _ _ _) (by simp (decide := true) only [u2_same, u2_ne, u2_u2, upd_same, upd_ne, mE, u2_dyn, dyn_u2, dyn_hi, u2_hi, u2_hj, u2_dynj]) (by simp (decide := true) only [u2_same, u2_ne, u2_u2, upd_same, upd_ne, mE, u2_dyn, dyn_u2, dyn_hi, u2_hi, u2_hj, u2_dynj]; exact hn2) (by simp (decide := true) only [u2_same, u2_ne, u2_u2, upd_same, upd_ne, mE, u2_dyn, dyn_u2, dyn_hi, u2_hi, u2_hj, u2_dynj]; exact hl.1) (by simp (decide := true) only [u2_same, u2_ne, u2_u2, upd_same, upd_ne, mE, u2_dyn, dyn_u2, dyn_hi, u2_hi, u2_hj, u2_dynj]) (by simp (decide := true) only [u2_same, u2_ne, u2_u2, upd_same, upd_ne, mE, u2_dyn, dyn_u2, dyn_hi, u2_hi, u2_hj, u2_dynj])
  have c1 := M_copies (b := b) (F := F) (E := E) (L := L) (P := P) (nx := nx) (us := us) hn1 nk 0 (by omega) (u2 (u2 I 19 did') 72 (upd (I 72) 0 0)) FU (by unfold FU; omega) (by simp (decide := true) only [u2_same, u2_ne, u2_u2, upd_same, upd_ne, mE, u2_dyn, dyn_u2, dyn_hi, u2_hi, u2_hj, u2_dynj]; exact hn3)
  simp (decide := true) only [u2_ne, u2_same, ne_eq] at c1
  have z2 := z2 (u2 (u2 (u2 (u2 I 19 did') 72 (upd (I 72) 0 0)) 137 (cpF 0 nk (I 126) (I 137))) 138 (cpF 0 nk (I 127) (I 138))) FU (by unfold FU; omega) (by simp (decide := true) only [u2_same, u2_ne, u2_u2, upd_same, upd_ne, mE, u2_dyn, dyn_u2, dyn_hi, u2_hi, u2_hj, u2_dynj]) (by simp (decide := true) only [u2_same, u2_ne, u2_u2, upd_same, upd_ne, mE, u2_dyn, dyn_u2, dyn_hi, u2_hi, u2_hj, u2_dynj]) (by simp (decide := true) only [u2_same, u2_ne, u2_u2, upd_same, upd_ne, mE, u2_dyn, dyn_u2, dyn_hi, u2_hi, u2_hj, u2_dynj]) (by simp (decide := true) only [u2_same, u2_ne, u2_u2, upd_same, upd_ne, mE, u2_dyn, dyn_u2, dyn_hi, u2_hi, u2_hj, u2_dynj]; exact hn3) (by simp (decide := true) only [u2_same, u2_ne, u2_u2, upd_same, upd_ne, mE, u2_dyn, dyn_u2, dyn_hi, u2_hi, u2_hj, u2_dynj]) (by simp (decide := true) only [u2_same, u2_ne, u2_u2, upd_same, upd_ne, mE, u2_dyn, dyn_u2, dyn_hi, u2_hi, u2_hj, u2_dynj]) (by simp (decide := true) only [u2_same, u2_ne, u2_u2, upd_same, upd_ne, mE, u2_dyn, dyn_u2, dyn_hi, u2_hi, u2_hj, u2_dynj])
  have c1' : f_X15_copies_2 FU (ad b 72) 0 (lay b F E (u2 (u2 I 19 did') 72 (upd (I 72) 0 0)) L P nx us) = _ := c1
  rw [u2_u2] at z1
  rw [u2_cm (show 138 ≠ 137 by decide), u2_u2, u2_u2] at z2
  refine ⟨u2 (u2 (u2 (u2 I 19 did') 72 (upd (I 72) 0 0)) 137 st') 138 lf', ⟨v, u2 I 19 did', ?_, ?_⟩, ?_, ?_⟩
  · simp (decide := true) only [f_X11_end, f_X10_foretoldEnd_76, f_X10_foretoldEnd, h40, hn2, e1, e2, e3, h5, cpI_s, ht.2.1, z1, isO_s, gI_s, gA_s, gL_s, pI_s, pZ_s, pL_s, aI_s, aL_s, aN_s, aQ_s, sI_s, sL_s, cr, LNs, Option.map_some, Option.map_none, Option.bind_some, b2, tr, lt, if_true, if_false, ckZ, X_within, M_in, inR_z, X_refuse, X_tell, X_deny, X_grant, M_refused, M_denied, M_done, M_granted, u2_same, u2_ne, u2_u2, upd_same, upd_ne, aW0, ixR_z, ixR_1, M_isWall, M_isPainter, M_isWork, X_has4, X_has10, X_at, or_false, false_or, or_true, true_or, not_true, not_false_iff, Option.isSome_some, isO_d, gI_d, gA_d, pI_d, ne_eq, not_false_eq_true, u2_hi, u2_hj, u2_dyn, u2_dynj, Nat.reduceAdd]
  · simp (decide := true) only [f_X15_end_84, f_X15_end, f_X15_copies, hn3, e1, e2, e3, hs, c1', ht.2.2, z2, isO_s, gI_s, gA_s, gL_s, pI_s, pZ_s, pL_s, aI_s, aL_s, aN_s, aQ_s, sI_s, sL_s, cr, LNs, Option.map_some, Option.map_none, Option.bind_some, b2, tr, lt, if_true, if_false, ckZ, X_within, M_in, inR_z, X_refuse, X_tell, X_deny, X_grant, M_refused, M_denied, M_done, M_granted, u2_same, u2_ne, u2_u2, upd_same, upd_ne, aW0, ixR_z, ixR_1, M_isWall, M_isPainter, M_isWork, X_has4, X_has10, X_at, or_false, false_or, or_true, true_or, not_true, not_false_iff, Option.isSome_some, isO_d, gI_d, gA_d, pI_d, ne_eq, not_false_eq_true, u2_hi, u2_hj, u2_dyn, u2_dynj, Nat.reduceAdd]
  · simp (decide := true) only [GTI, u2_same, u2_ne, u2_u2, upd_same, upd_ne, mE, u2_dyn, dyn_u2, dyn_hi, u2_hi, u2_hj, u2_dynj]
    exact hT
  · exact (by repeat (first | exact Fr.refl _ _ _ | refine Fr.whole ?_ (by decide) | refine Fr.slot ?_ (fun k hk => by (try simp (decide := true) only [mE, u2_ne, u2_same, u2_u2]); repeat rw [upd_fr (by decide) hk])))
/-- the reference goes over days that aren't good, counting none -/
theorem M_bad2 {p n : Int32} {la : Nat} (hla : la < 3650) (hp : p = Int32.ofNat la) : ∀ (m d : Nat), d + m = la + 1 → ∀ fu, m < fu → (∀ e, d ≤ e → e ≤ la → ¬ gdD (I 133 e) (I 134 e)) → f_X15_ready_32 fu (ad b 72) p n (Int32.ofNat d) (lay b F E I L P nx us) = some (n, (lay b F E I L P nx us)) := by
  subst hp
  intro m
  induction m with
  | zero =>
    intro d hd fu hfu h
    obtain ⟨fu, rfl⟩ : ∃ z, fu = z + 1 := ⟨fu - 1, by omega⟩
    simp (decide := true) only [f_X15_ready_32, oN_ltT (show la < d by omega) (show d < 2147483648 by omega), isO_s, gI_s, gA_s, gL_s, pI_s, pZ_s, pL_s, aI_s, aL_s, aN_s, aQ_s, sI_s, sL_s, cr, LNs, Option.map_some, Option.map_none, Option.bind_some, b2, tr, lt, if_true, if_false, ckZ, X_within, M_in, inR_z, X_refuse, X_tell, X_deny, X_grant, M_refused, M_denied, M_done, M_granted, u2_same, u2_ne, u2_u2, upd_same, upd_ne, aW0, ixR_z, ixR_1, M_isWall, M_isPainter, M_isWork, X_has4, X_has10, X_at, or_false, false_or, or_true, true_or, not_true, not_false_iff, Option.isSome_some, isO_d, gI_d, gA_d, pI_d, ne_eq, not_false_eq_true, u2_hi, u2_hj, u2_dyn, u2_dynj, Nat.reduceAdd]
  | succ m ih =>
    intro d hd fu hfu h
    obtain ⟨fu, rfl⟩ : ∃ z, fu = z + 1 := ⟨fu - 1, by omega⟩
    have e1 : (Int32.ofNat la < Int32.ofNat d) = False := oN_ltF (by omega) (by omega)
    simp (decide := true) only [f_X15_ready_32, f_X15_ready_62, e1, M_good0 (show d < 3650 by omega) (h d (by omega) (by omega)), oN_succ, Int32.add_zero, isO_s, gI_s, gA_s, gL_s, pI_s, pZ_s, pL_s, aI_s, aL_s, aN_s, aQ_s, sI_s, sL_s, cr, LNs, Option.map_some, Option.map_none, Option.bind_some, b2, tr, lt, if_true, if_false, ckZ, X_within, M_in, inR_z, X_refuse, X_tell, X_deny, X_grant, M_refused, M_denied, M_done, M_granted, u2_same, u2_ne, u2_u2, upd_same, upd_ne, aW0, ixR_z, ixR_1, M_isWall, M_isPainter, M_isWork, X_has4, X_has10, X_at, or_false, false_or, or_true, true_or, not_true, not_false_iff, Option.isSome_some, isO_d, gI_d, gA_d, pI_d, ne_eq, not_false_eq_true, u2_hi, u2_hj, u2_dyn, u2_dynj, Nat.reduceAdd]
    exact ih (d + 1) (by omega) fu (by omega) (fun e h1 h2 => h e (by omega) h2)
theorem nov_add {nk : Nat} {st s1 s2 : RW} (h1 : ∀ k, k < nk → st k = 3 → s1 k = 3) (h2 : ∀ k, k < nk → s1 k = 3 → s2 k = 3) : sm (fun k => if st k ≠ 3 ∧ s1 k = 3 then 1 else 0) 0 nk + sm (fun k => if s1 k ≠ 3 ∧ s2 k = 3 then 1 else 0) 0 nk = sm (fun k => if st k ≠ 3 ∧ s2 k = 3 then 1 else 0) 0 nk := by
  rw [sm_add]
  refine sm_congr _ _ ?_
  intro k _ hk
  have h1 := h1 k (by omega)
  have h2 := h2 k (by omega)
  by_cases a1 : st k = 3
  · have a2 := h1 a1
    simp only [a1, a2, ne_eq, not_true, false_and, if_false]; rfl
  · by_cases a2 : s1 k = 3
    · have a3 := h2 a2
      simp only [a1, a2, a3, ne_eq, not_true, not_false_eq_true, and_self, false_and, if_true, if_false]; rfl
    · simp only [a1, a2, ne_eq, not_false_eq_true, true_and, and_false, if_false, Int32.zero_add]
theorem readyLoop {nk la : Nat} {nd co x23 m133 m134 : RW} {lg free : Int32} (h40 : nk ≤ 40) (hla : la < 3650) (hf : 0 ≤ free) (hw : GWea x23 lg m133 m134) : ∀ (m d : Nat), d + m = la + 1 → ∀ (did st lf : RW), (∀ k, k < nk → WST (nd k) (did k) (st k) (lf k) (co k)) →
    ∃ (did' st' lf' : RW),
      (∀ (I : Nat → Nat → Int32) (fu : Nat), m < fu → I 19 = did → I 17 = nd → I 13 1 = Int32.ofNat nk → I 13 13 = free → I 23 = x23 → I 13 12 = lg → f_X10_foretoldOver_20 fu (ad b 13) (Int32.ofNat la) (Int32.ofNat d) (lay b F E I L P nx us) = f_X10_foretoldOver_59 FU (ad b 13) 0 0 (lay b F E (u2 I 19 did') L P nx us))
      ∧ (∀ (I : Nat → Nat → Int32) (n : Int32) (fu : Nat), m < fu → I 137 = st → I 138 = lf → I 128 = co → I 72 76 = Int32.ofNat nk → I 72 78 = free → I 133 = m133 → I 134 = m134 → f_X15_ready_32 fu (ad b 72) (Int32.ofNat la) n (Int32.ofNat d) (lay b F E I L P nx us) = some (n + sm (fun k => if st k ≠ 3 ∧ st' k = 3 then 1 else 0) 0 nk, lay b F E (u2 (u2 I 137 st') 138 lf') L P nx us))
      ∧ (∀ k, k < nk → WST (nd k) (did' k) (st' k) (lf' k) (co k) ∧ (st k = 3 → st' k = 3)) := by
  obtain ⟨hw1, hw2, hw3⟩ := hw
  have hnov : ∀ s : RW, sm (fun k => if s k ≠ 3 ∧ s k = 3 then (1 : Int32) else 0) 0 nk = 0 := fun s => sm_z nk 0 (fun k _ _ => if_neg (fun q => q.1 q.2))
  intro m
  induction m with
  | zero =>
    intro d hd did st lf hW
    refine ⟨did, st, lf, ?_, ?_, fun k hk => ⟨hW k hk, fun h => h⟩⟩
    · intro I fu hfu r1 r2 r3 r4 r5 r6
      obtain ⟨fu, rfl⟩ : ∃ z, fu = z + 1 := ⟨fu - 1, by omega⟩
      rw [u2_id' r1]
      simp (decide := true) only [f_X10_foretoldOver_20, f_X10_foretoldOver_55, oN_ltT (show la < d by omega) (show d < 2147483648 by omega), isO_s, gI_s, gA_s, gL_s, pI_s, pZ_s, pL_s, aI_s, aL_s, aN_s, aQ_s, sI_s, sL_s, cr, LNs, Option.map_some, Option.map_none, Option.bind_some, b2, tr, lt, if_true, if_false, ckZ, X_within, M_in, inR_z, X_refuse, X_tell, X_deny, X_grant, M_refused, M_denied, M_done, M_granted, u2_same, u2_ne, u2_u2, upd_same, upd_ne, aW0, ixR_z, ixR_1, M_isWall, M_isPainter, M_isWork, X_has4, X_has10, X_at, or_false, false_or, or_true, true_or, not_true, not_false_iff, Option.isSome_some, isO_d, gI_d, gA_d, pI_d, ne_eq, not_false_eq_true, u2_hi, u2_hj, u2_dyn, u2_dynj, Nat.reduceAdd]
    · intro I n fu hfu r1 r2 r3 r4 r5 r6 r7
      rw [u2_id' r1, u2_id' r2, hnov, Int32.add_zero]
      exact M_bad2 hla rfl 0 d (by omega) fu (by omega) (fun e h1 h2 => by omega)
  | succ m ih =>
    intro d hd did st lf hW
    have hd' : d < 3650 := by omega
    obtain ⟨g1, g2⟩ := hw3 d hd'
    have e1 : (Int32.ofNat la < Int32.ofNat d) = False := oN_ltF (by omega) (by omega)
    by_cases hl : lg < Int32.ofNat d
    · refine ⟨did, st, lf, ?_, ?_, fun k hk => ⟨hW k hk, fun h => h⟩⟩
      · intro I fu hfu r1 r2 r3 r4 r5 r6
        obtain ⟨fu, rfl⟩ : ∃ z, fu = z + 1 := ⟨fu - 1, by omega⟩
        rw [u2_id' r1]
        simp (decide := true) only [f_X10_foretoldOver_20, f_X10_foretoldOver_55, e1, r6, hl, isO_s, gI_s, gA_s, gL_s, pI_s, pZ_s, pL_s, aI_s, aL_s, aN_s, aQ_s, sI_s, sL_s, cr, LNs, Option.map_some, Option.map_none, Option.bind_some, b2, tr, lt, if_true, if_false, ckZ, X_within, M_in, inR_z, X_refuse, X_tell, X_deny, X_grant, M_refused, M_denied, M_done, M_granted, u2_same, u2_ne, u2_u2, upd_same, upd_ne, aW0, ixR_z, ixR_1, M_isWall, M_isPainter, M_isWork, X_has4, X_has10, X_at, or_false, false_or, or_true, true_or, not_true, not_false_iff, Option.isSome_some, isO_d, gI_d, gA_d, pI_d, ne_eq, not_false_eq_true, u2_hi, u2_hj, u2_dyn, u2_dynj, Nat.reduceAdd]
      · intro I n fu hfu r1 r2 r3 r4 r5 r6 r7
        rw [u2_id' r1, u2_id' r2, hnov, Int32.add_zero]
        refine M_bad2 hla rfl (m + 1) d (by omega) fu (by omega) (fun e h1 h2 hg => ?_)
        rw [r6, r7] at hg
        have := (hw3 e (by omega)).2 hg
        have h5 : Int32.ofNat d ≤ Int32.ofNat e := oN_leL h1 (by omega)
        exact Int32.not_le.mpr hl (Int32.le_trans h5 this)
    · by_cases hg : gdD (m133 d) (m134 d)
      · have hb : (x23 (d / 32) >>> (Int32.ofNat (d % 32) &&& 31)) &&& 1 = 1 := g1.mpr hg
        obtain ⟨did1, st1, lf1, y1, y2, y3⟩ := day0 (b := b) (F := F) (E := E) (L := L) (P := P) (nx := nx) (us := us) h40 free did st lf hf hW
        have hW1 : ∀ k, k < nk → WST (nd k) (did1 k) (st1 k) (lf1 k) (co k) := fun k hk => (y3 k hk).1
        obtain ⟨did', st', lf', z1, z2, z3⟩ := ih (d + 1) (by omega) did1 st1 lf1 hW1
        refine ⟨did', st', lf', ?_, ?_, fun k hk => ⟨(z3 k hk).1, fun h => (z3 k hk).2 ((y3 k hk).2 h).1⟩⟩
        · intro I fu hfu r1 r2 r3 r4 r5 r6
          obtain ⟨fu, rfl⟩ : ∃ z, fu = z + 1 := ⟨fu - 1, by omega⟩
          have y1 := y1 I 19 (by decide) (by decide) (by decide) (by decide) r1 r2 r3 r4
          have z1 := z1 (u2 I 19 did1) fu (by omega) (u2_same _ _ _) (by rw [u2_ne (by decide)]; exact r2) (by rw [u2_ne (by decide)]; exact r3) (by rw [u2_ne (by decide)]; exact r4) (by rw [u2_ne (by decide)]; exact r5) (by rw [u2_ne (by decide)]; exact r6)
          rw [u2_u2] at z1
          have r5' := congrFun r5 (d / 32)
          simp (decide := true) only [f_X10_foretoldOver_20, f_X10_foretoldOver_49, e1, r6, hl, X_good hd', r5', hb, y1, oN_succ, isO_s, gI_s, gA_s, gL_s, pI_s, pZ_s, pL_s, aI_s, aL_s, aN_s, aQ_s, sI_s, sL_s, cr, LNs, Option.map_some, Option.map_none, Option.bind_some, b2, tr, lt, if_true, if_false, ckZ, X_within, M_in, inR_z, X_refuse, X_tell, X_deny, X_grant, M_refused, M_denied, M_done, M_granted, u2_same, u2_ne, u2_u2, upd_same, upd_ne, aW0, ixR_z, ixR_1, M_isWall, M_isPainter, M_isWork, X_has4, X_has10, X_at, or_false, false_or, or_true, true_or, not_true, not_false_iff, Option.isSome_some, isO_d, gI_d, gA_d, pI_d, ne_eq, not_false_eq_true, u2_hi, u2_hj, u2_dyn, u2_dynj, Nat.reduceAdd]
          exact z1
        · intro I n fu hfu r1 r2 r3 r4 r5 r6 r7
          obtain ⟨fu, rfl⟩ : ∃ z, fu = z + 1 := ⟨fu - 1, by omega⟩
          have y2 := y2 I 137 138 (by decide) (by decide) (by decide) (by decide) (by decide) (by decide) (by decide) (by decide) (by decide) r1 r2 r3 r4 r5
          have z2 := z2 (u2 (u2 I 137 st1) 138 lf1) (n + sm (fun k => if st k ≠ 3 ∧ st1 k = 3 then 1 else 0) 0 nk) fu (by omega) (by simp (decide := true) only [u2_same, u2_ne, u2_u2, upd_same, upd_ne, mE, u2_dyn, dyn_u2, dyn_hi, u2_hi, u2_hj, u2_dynj]) (by simp (decide := true) only [u2_same, u2_ne, u2_u2, upd_same, upd_ne, mE, u2_dyn, dyn_u2, dyn_hi, u2_hi, u2_hj, u2_dynj]) (by simp (decide := true) only [u2_same, u2_ne, u2_u2, upd_same, upd_ne, mE, u2_dyn, dyn_u2, dyn_hi, u2_hi, u2_hj, u2_dynj]; exact r3) (by simp (decide := true) only [u2_same, u2_ne, u2_u2, upd_same, upd_ne, mE, u2_dyn, dyn_u2, dyn_hi, u2_hi, u2_hj, u2_dynj]; exact r4) (by simp (decide := true) only [u2_same, u2_ne, u2_u2, upd_same, upd_ne, mE, u2_dyn, dyn_u2, dyn_hi, u2_hi, u2_hj, u2_dynj]; exact r5) (by simp (decide := true) only [u2_same, u2_ne, u2_u2, upd_same, upd_ne, mE, u2_dyn, dyn_u2, dyn_hi, u2_hi, u2_hj, u2_dynj]; exact r6) (by simp (decide := true) only [u2_same, u2_ne, u2_u2, upd_same, upd_ne, mE, u2_dyn, dyn_u2, dyn_hi, u2_hi, u2_hj, u2_dynj]; exact r7)
          rw [u2_cm (show 138 ≠ 137 by decide) (f := lf1), u2_u2, u2_u2, Int32.add_assoc, nov_add (fun k hk h => ((y3 k hk).2 h).1) (fun k hk => (z3 k hk).2)] at z2
          have hgd : gdD (I 133 d) (I 134 d) := by rw [r6, r7]; exact hg
          simp (decide := true) only [f_X15_ready_32, f_X15_ready_62, e1, M_good1 (I := I) hd' hgd, y2, oN_succ, isO_s, gI_s, gA_s, gL_s, pI_s, pZ_s, pL_s, aI_s, aL_s, aN_s, aQ_s, sI_s, sL_s, cr, LNs, Option.map_some, Option.map_none, Option.bind_some, b2, tr, lt, if_true, if_false, ckZ, X_within, M_in, inR_z, X_refuse, X_tell, X_deny, X_grant, M_refused, M_denied, M_done, M_granted, u2_same, u2_ne, u2_u2, upd_same, upd_ne, aW0, ixR_z, ixR_1, M_isWall, M_isPainter, M_isWork, X_has4, X_has10, X_at, or_false, false_or, or_true, true_or, not_true, not_false_iff, Option.isSome_some, isO_d, gI_d, gA_d, pI_d, ne_eq, not_false_eq_true, u2_hi, u2_hj, u2_dyn, u2_dynj, Nat.reduceAdd]
          exact z2
      · have hb : ¬ (x23 (d / 32) >>> (Int32.ofNat (d % 32) &&& 31)) &&& 1 = 1 := fun q => hg (g1.mp q)
        obtain ⟨did', st', lf', z1, z2, z3⟩ := ih (d + 1) (by omega) did st lf hW
        refine ⟨did', st', lf', ?_, ?_, z3⟩
        · intro I fu hfu r1 r2 r3 r4 r5 r6
          obtain ⟨fu, rfl⟩ : ∃ z, fu = z + 1 := ⟨fu - 1, by omega⟩
          have z1 := z1 I fu (by omega) r1 r2 r3 r4 r5 r6
          have r5' := congrFun r5 (d / 32)
          simp (decide := true) only [f_X10_foretoldOver_20, f_X10_foretoldOver_49, e1, r6, hl, X_good hd', r5', hb, oN_succ, isO_s, gI_s, gA_s, gL_s, pI_s, pZ_s, pL_s, aI_s, aL_s, aN_s, aQ_s, sI_s, sL_s, cr, LNs, Option.map_some, Option.map_none, Option.bind_some, b2, tr, lt, if_true, if_false, ckZ, X_within, M_in, inR_z, X_refuse, X_tell, X_deny, X_grant, M_refused, M_denied, M_done, M_granted, u2_same, u2_ne, u2_u2, upd_same, upd_ne, aW0, ixR_z, ixR_1, M_isWall, M_isPainter, M_isWork, X_has4, X_has10, X_at, or_false, false_or, or_true, true_or, not_true, not_false_iff, Option.isSome_some, isO_d, gI_d, gA_d, pI_d, ne_eq, not_false_eq_true, u2_hi, u2_hj, u2_dyn, u2_dynj, Nat.reduceAdd]
          exact z1
        · intro I n fu hfu r1 r2 r3 r4 r5 r6 r7
          obtain ⟨fu, rfl⟩ : ∃ z, fu = z + 1 := ⟨fu - 1, by omega⟩
          have z2 := z2 I n fu (by omega) r1 r2 r3 r4 r5 r6 r7
          have hgd : ¬ gdD (I 133 d) (I 134 d) := by rw [r6, r7]; exact hg
          simp (decide := true) only [f_X15_ready_32, f_X15_ready_62, e1, M_good0 (I := I) hd' hgd, oN_succ, Int32.add_zero, isO_s, gI_s, gA_s, gL_s, pI_s, pZ_s, pL_s, aI_s, aL_s, aN_s, aQ_s, sI_s, sL_s, cr, LNs, Option.map_some, Option.map_none, Option.bind_some, b2, tr, lt, if_true, if_false, ckZ, X_within, M_in, inR_z, X_refuse, X_tell, X_deny, X_grant, M_refused, M_denied, M_done, M_granted, u2_same, u2_ne, u2_u2, upd_same, upd_ne, aW0, ixR_z, ixR_1, M_isWall, M_isPainter, M_isWork, X_has4, X_has10, X_at, or_false, false_or, or_true, true_or, not_true, not_false_iff, Option.isSome_some, isO_d, gI_d, gA_d, pI_d, ne_eq, not_false_eq_true, u2_hi, u2_hj, u2_dyn, u2_dynj, Nat.reduceAdd]
          exact z2
theorem X_readyCount {nk : Nat} (h40 : nk ≤ 40) (hn : I 13 1 = Int32.ofNat nk) : f_X10_foretoldOver_59 FU (ad b 13) 0 0 (lay b F E I L P nx us) = some (sm (fun k => if I 18 k < I 17 k ∧ ¬ I 19 k < I 17 k then 1 else 0) 0 nk, (lay b F E I L P nx us)) := by
  refine lp_sum0 (T := fun n a k => f_X10_foretoldOver_59 n (ad b 13) a k (lay b F E I L P nx us)) (R := fun a => some (a, (lay b F E I L P nx us))) (f := fun k => if I 18 k < I 17 k ∧ ¬ I 19 k < I 17 k then 1 else 0) (N := nk) (by omega) ?_ ?_
  · intro n a
    simp (decide := true) only [f_X10_foretoldOver_59, hn, Int32.le_refl, isO_s, gI_s, gA_s, gL_s, pI_s, pZ_s, pL_s, aI_s, aL_s, aN_s, aQ_s, sI_s, sL_s, cr, LNs, Option.map_some, Option.map_none, Option.bind_some, b2, tr, lt, if_true, if_false, ckZ, X_within, M_in, inR_z, X_refuse, X_tell, X_deny, X_grant, M_refused, M_denied, M_done, M_granted, u2_same, u2_ne, u2_u2, upd_same, upd_ne, aW0, ixR_z, ixR_1, M_isWall, M_isPainter, M_isWork, X_has4, X_has10, X_at, or_false, false_or, or_true, true_or, not_true, not_false_iff, Option.isSome_some, isO_d, gI_d, gA_d, pI_d, ne_eq, not_false_eq_true, u2_hi, u2_hj, u2_dyn, u2_dynj, Nat.reduceAdd]
  · intro n a k hk
    have e2 := oN_leF hk (by omega)
    have e3 : iN (Int32.ofNat k) 40 = some k := iN_oN (by omega) (by omega)
    show f_X10_foretoldOver_59 (n + 1) (ad b 13) a (Int32.ofNat k) (lay b F E I L P nx us) = _
    simp (decide := true) only [f_X10_foretoldOver_59, f_X10_foretoldOver_100, hn, e2, e3, oN_succ, isO_s, gI_s, gA_s, gL_s, pI_s, pZ_s, pL_s, aI_s, aL_s, aN_s, aQ_s, sI_s, sL_s, cr, LNs, Option.map_some, Option.map_none, Option.bind_some, b2, tr, lt, if_true, if_false, ckZ, X_within, M_in, inR_z, X_refuse, X_tell, X_deny, X_grant, M_refused, M_denied, M_done, M_granted, u2_same, u2_ne, u2_u2, upd_same, upd_ne, aW0, ixR_z, ixR_1, M_isWall, M_isPainter, M_isWork, X_has4, X_has10, X_at, or_false, false_or, or_true, true_or, not_true, not_false_iff, Option.isSome_some, isO_d, gI_d, gA_d, pI_d, ne_eq, not_false_eq_true, u2_hi, u2_hj, u2_dyn, u2_dynj, Nat.reduceAdd]
    by_cases h1 : I 17 k ≤ I 18 k
    · simp only [h1, Int32.not_lt.mpr h1, false_and, if_true, if_false, Int32.add_zero]
    · by_cases h2 : I 19 k < I 17 k
      · simp only [h1, h2, not_true, and_false, if_true, if_false, Int32.add_zero]
      · simp only [h1, h2, Int32.not_le.mp h1, not_false_eq_true, and_self, if_true, if_false]
theorem call_ready (p : Int32) {nk nw np ndr td : Nat} (hT : GTI I) (hk : Cn nk 40 (I 13 1) (I 72 76)) (ht : Cn td 3649 (I 13 14) (I 72 5)) (hl : GLift (I 13 13) (I 72 78)) (hWe : GWea (I 23) (I 13 12) (I 133) (I 134)) (hG : GWrk nk nw np ndr td (I 14) (I 15) (I 16) (I 17) (I 18) (I 20) (I 21) (I 22) (I 123) (I 124) (I 125) (I 126) (I 127) (I 128) (I 129) (I 130) (I 131)) : ∃ I2, Run b F E L P nx us (f_X11_ready (ad b 0) p) (f_X15_ready (ad b 72) p) I I2 ∧ GTI I2 ∧ Fr I I2 [(72, 0)] [19, 137, 138] := by
  obtain ⟨hn1, hn2, hn3⟩ := hk
  obtain ⟨ht1, ht2, ht3⟩ := ht
  by_cases hp : (p < Int32.ofNat td ∨ 3649 < p)
  · refine ⟨th I, ⟨-1, I, ?_, ?_⟩, th_GT hT, ?_⟩
    · (simp (decide := true) only [f_X11_ready_29, f_X11_ready, ht2, hp, isO_s, gI_s, gA_s, gL_s, pI_s, pZ_s, pL_s, aI_s, aL_s, aN_s, aQ_s, sI_s, sL_s, cr, LNs, Option.map_some, Option.map_none, Option.bind_some, b2, tr, lt, if_true, if_false, ckZ, X_within, M_in, inR_z, X_refuse, X_tell, X_deny, X_grant, M_refused, M_denied, M_done, M_granted, u2_same, u2_ne, u2_u2, upd_same, upd_ne, aW0, ixR_z, ixR_1, M_isWall, M_isPainter, M_isWork, X_has4, X_has10, X_at, or_false, false_or, or_true, true_or, not_true, not_false_iff, Option.isSome_some, isO_d, gI_d, gA_d, pI_d, ne_eq, not_false_eq_true, u2_hi, u2_hj, u2_dyn, u2_dynj, Nat.reduceAdd]; try exact rfl)
    · (simp (decide := true) only [f_X15_ready_62, f_X15_ready, ht3, hp, isO_s, gI_s, gA_s, gL_s, pI_s, pZ_s, pL_s, aI_s, aL_s, aN_s, aQ_s, sI_s, sL_s, cr, LNs, Option.map_some, Option.map_none, Option.bind_some, b2, tr, lt, if_true, if_false, ckZ, X_within, M_in, inR_z, X_refuse, X_tell, X_deny, X_grant, M_refused, M_denied, M_done, M_granted, u2_same, u2_ne, u2_u2, upd_same, upd_ne, aW0, ixR_z, ixR_1, M_isWall, M_isPainter, M_isWork, X_has4, X_has10, X_at, or_false, false_or, or_true, true_or, not_true, not_false_iff, Option.isSome_some, isO_d, gI_d, gA_d, pI_d, ne_eq, not_false_eq_true, u2_hi, u2_hj, u2_dyn, u2_dynj, Nat.reduceAdd]; try exact rfl)
    · unfold th
      exact (by repeat (first | exact Fr.refl _ _ _ | refine Fr.whole ?_ (by decide) | refine Fr.slot ?_ (fun k hk => by (try simp (decide := true) only [mE, u2_ne, u2_same, u2_u2]); repeat rw [upd_fr (by decide) hk])))
  have hp0 : ¬ (p < 0 ∨ Int32.ofNat 3649 < p) := by
    rintro (h | h)
    · have : Int32.ofNat td ≤ p := Int32.not_lt.mp fun q => hp (Or.inl q)
      have h0 : (0 : Int32) ≤ Int32.ofNat td := (oN_le (a := 0) (by decide) (by omega)).mpr (by omega)
      exact Int32.not_le.mpr h (Int32.le_trans h0 this)
    · exact hp (Or.inr h)
  obtain ⟨la, hla, rfl⟩ := lo_of hp0 (by decide)
  have hld : td ≤ la := by
    have : ¬ Int32.ofNat la < Int32.ofNat td := fun q => hp (Or.inl q)
    rw [oN_lt (by omega) (by omega)] at this
    omega
  have hf : (0 : Int32) ≤ I 72 78 := Int32.le_trans (by decide) hl.2.1
  have hcp : ∀ j, j < nk → va_cpy (I 18) (I 19) 0 0 40 j = I 18 j := by
    intro j hj
    unfold va_cpy
    rw [if_pos (by omega)]
    congr 1; omega
  obtain ⟨did', st', lf', z1, z2, z3⟩ := readyLoop (b := b) (F := F) (E := E) (L := L) (P := P) (nx := nx) (us := us) (nd := I 17) (co := I 128) hn1 (show la < 3650 by omega) hf hWe (la + 1 - td) td (by omega) (va_cpy (I 18) (I 19) 0 0 40) (cpF 0 nk (I 126) (I 137)) (cpF 0 nk (I 127) (I 138)) (fun j hj => by
    rw [hcp j hj, cpF_in (by omega) hj, cpF_in (by omega) hj]
    exact (hG j hj).2.2.2.2.2.2.1)
  have z1 := z1 (u2 I 19 (va_cpy (I 18) (I 19) 0 0 40)) FU (by unfold FU; omega) (u2_same _ _ _) (by simp (decide := true) only [u2_same, u2_ne, u2_u2, upd_same, upd_ne, mE, u2_dyn, dyn_u2, dyn_hi, u2_hi, u2_hj, u2_dynj]) (by simp (decide := true) only [u2_same, u2_ne, u2_u2, upd_same, upd_ne, mE, u2_dyn, dyn_u2, dyn_hi, u2_hi, u2_hj, u2_dynj]; exact hn2) (by simp (decide := true) only [u2_same, u2_ne, u2_u2, upd_same, upd_ne, mE, u2_dyn, dyn_u2, dyn_hi, u2_hi, u2_hj, u2_dynj]; exact hl.1) (by simp (decide := true) only [u2_same, u2_ne, u2_u2, upd_same, upd_ne, mE, u2_dyn, dyn_u2, dyn_hi, u2_hi, u2_hj, u2_dynj]) (by simp (decide := true) only [u2_same, u2_ne, u2_u2, upd_same, upd_ne, mE, u2_dyn, dyn_u2, dyn_hi, u2_hi, u2_hj, u2_dynj])
  have c1 := M_copies (b := b) (F := F) (E := E) (L := L) (P := P) (nx := nx) (us := us) hn1 nk 0 (by omega) (u2 (u2 I 19 did') 72 (upd (I 72) 0 0)) FU (by unfold FU; omega) (by simp (decide := true) only [u2_same, u2_ne, u2_u2, upd_same, upd_ne, mE, u2_dyn, dyn_u2, dyn_hi, u2_hi, u2_hj, u2_dynj]; exact hn3)
  simp (decide := true) only [u2_ne, u2_same, ne_eq] at c1
  have z2 := z2 (u2 (u2 (u2 (u2 I 19 did') 72 (upd (I 72) 0 0)) 137 (cpF 0 nk (I 126) (I 137))) 138 (cpF 0 nk (I 127) (I 138))) 0 FU (by unfold FU; omega) (by simp (decide := true) only [u2_same, u2_ne, u2_u2, upd_same, upd_ne, mE, u2_dyn, dyn_u2, dyn_hi, u2_hi, u2_hj, u2_dynj]) (by simp (decide := true) only [u2_same, u2_ne, u2_u2, upd_same, upd_ne, mE, u2_dyn, dyn_u2, dyn_hi, u2_hi, u2_hj, u2_dynj]) (by simp (decide := true) only [u2_same, u2_ne, u2_u2, upd_same, upd_ne, mE, u2_dyn, dyn_u2, dyn_hi, u2_hi, u2_hj, u2_dynj]) (by simp (decide := true) only [u2_same, u2_ne, u2_u2, upd_same, upd_ne, mE, u2_dyn, dyn_u2, dyn_hi, u2_hi, u2_hj, u2_dynj]; exact hn3) (by simp (decide := true) only [u2_same, u2_ne, u2_u2, upd_same, upd_ne, mE, u2_dyn, dyn_u2, dyn_hi, u2_hi, u2_hj, u2_dynj]) (by simp (decide := true) only [u2_same, u2_ne, u2_u2, upd_same, upd_ne, mE, u2_dyn, dyn_u2, dyn_hi, u2_hi, u2_hj, u2_dynj]) (by simp (decide := true) only [u2_same, u2_ne, u2_u2, upd_same, upd_ne, mE, u2_dyn, dyn_u2, dyn_hi, u2_hi, u2_hj, u2_dynj])
  have c1' : f_X15_copies_2 FU (ad b 72) 0 (lay b F E (u2 (u2 I 19 did') 72 (upd (I 72) 0 0)) L P nx us) = _ := c1
  have hx := X_readyCount (b := b) (F := F) (E := E) (L := L) (P := P) (nx := nx) (us := us) (I := u2 I 19 did') hn1 (by simp (decide := true) only [u2_same, u2_ne, u2_u2, upd_same, upd_ne, mE, u2_dyn, dyn_u2, dyn_hi, u2_hi, u2_hj, u2_dynj]; exact hn2)
  rw [u2_u2] at z1
  rw [u2_cm (show 138 ≠ 137 by decide), u2_u2, u2_u2, Int32.zero_add] at z2
  simp (decide := true) only [u2_ne, u2_same, ne_eq] at hx
  have hv : sm (fun k => if cpF 0 nk (I 126) (I 137) k ≠ 3 ∧ st' k = 3 then 1 else 0) 0 nk = sm (fun k => if I 18 k < I 17 k ∧ ¬ did' k < I 17 k then 1 else 0) 0 nk := by
    refine sm_congr _ _ ?_
    intro k _ hk
    have hk' : k < nk := by omega
    rw [cpF_in (by omega) hk']
    have a1 := WST_over (hG k hk').2.2.2.2.2.2.1
    have a2 := WST_over (z3 k hk').1
    by_cases b1 : I 126 k = 3
    · have : ¬ I 18 k < I 17 k := fun q => a1.mp q b1
      simp only [b1, this, ne_eq, not_true, false_and, if_false]
    · have := a1.mpr b1
      by_cases b2 : st' k = 3
      · have c2 : ¬ did' k < I 17 k := fun q => a2.mp q b2
        simp only [b1, b2, this, c2, ne_eq, not_false_eq_true, and_self, if_true]
      · have c2 := a2.mpr b2
        simp only [b2, c2, not_true, and_false, if_false]
  rw [hv] at z2
  refine ⟨u2 (u2 (u2 (u2 I 19 did') 72 (upd (I 72) 0 0)) 137 st') 138 lf', ⟨sm (fun k => if I 18 k < I 17 k ∧ ¬ did' k < I 17 k then 1 else 0) 0 nk, u2 I 19 did', ?_, ?_⟩, ?_, ?_⟩
  · simp (decide := true) only [f_X11_ready_29, f_X11_ready, f_X10_foretoldOver_100, f_X10_foretoldOver_55, f_X10_foretoldOver_49, f_X10_foretoldOver, ht2, hp, cpI_s, z1, hx, isO_s, gI_s, gA_s, gL_s, pI_s, pZ_s, pL_s, aI_s, aL_s, aN_s, aQ_s, sI_s, sL_s, cr, LNs, Option.map_some, Option.map_none, Option.bind_some, b2, tr, lt, if_true, if_false, ckZ, X_within, M_in, inR_z, X_refuse, X_tell, X_deny, X_grant, M_refused, M_denied, M_done, M_granted, u2_same, u2_ne, u2_u2, upd_same, upd_ne, aW0, ixR_z, ixR_1, M_isWall, M_isPainter, M_isWork, X_has4, X_has10, X_at, or_false, false_or, or_true, true_or, not_true, not_false_iff, Option.isSome_some, isO_d, gI_d, gA_d, pI_d, ne_eq, not_false_eq_true, u2_hi, u2_hj, u2_dyn, u2_dynj, Nat.reduceAdd]
  · simp (decide := true) only [f_X15_ready_62, f_X15_ready, f_X15_copies, hn3, ht3, hp, c1', z2, isO_s, gI_s, gA_s, gL_s, pI_s, pZ_s, pL_s, aI_s, aL_s, aN_s, aQ_s, sI_s, sL_s, cr, LNs, Option.map_some, Option.map_none, Option.bind_some, b2, tr, lt, if_true, if_false, ckZ, X_within, M_in, inR_z, X_refuse, X_tell, X_deny, X_grant, M_refused, M_denied, M_done, M_granted, u2_same, u2_ne, u2_u2, upd_same, upd_ne, aW0, ixR_z, ixR_1, M_isWall, M_isPainter, M_isWork, X_has4, X_has10, X_at, or_false, false_or, or_true, true_or, not_true, not_false_iff, Option.isSome_some, isO_d, gI_d, gA_d, pI_d, ne_eq, not_false_eq_true, u2_hi, u2_hj, u2_dyn, u2_dynj, Nat.reduceAdd]
  · simp (decide := true) only [GTI, u2_same, u2_ne, u2_u2, upd_same, upd_ne, mE, u2_dyn, dyn_u2, dyn_hi, u2_hi, u2_hj, u2_dynj]
    exact hT
  · exact (by repeat (first | exact Fr.refl _ _ _ | refine Fr.whole ?_ (by decide) | refine Fr.slot ?_ (fun k hk => by (try simp (decide := true) only [mE, u2_ne, u2_same, u2_u2]); repeat rw [upd_fr (by decide) hk])))
end RDY
