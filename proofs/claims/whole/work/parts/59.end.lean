/-! ===== end, ready ===== -/
/-- f in place of g from i up to n -/
def cpF (i n : Nat) (f g : RW) : RW := fun k => if i ≤ k ∧ k < n then f k else g k
theorem cpF_0 {n : Nat} {f g : RW} : cpF n n f g = g := by
  funext k
  unfold cpF
  rw [if_neg (by omega)]
theorem cpF_s {i n : Nat} {f g : RW} (h : i < n) : cpF (i + 1) n f (upd g i (f i)) = cpF i n f g := by
  funext k
  unfold cpF
  by_cases h1 : k = i
  · subst h1; rw [if_neg (by omega), if_pos (by omega), upd_same]
  · rw [upd_ne h1]
    by_cases h2 : i + 1 ≤ k ∧ k < n
    · rw [if_pos h2, if_pos (by omega)]
    · rw [if_neg h2, if_neg (by omega)]
theorem cpF_in {i n k : Nat} {f g : RW} (h : i ≤ k) (h2 : k < n) : cpF i n f g k = f k := by
  unfold cpF
  rw [if_pos ⟨h, h2⟩]
section END
variable {b : Nat} {F : Nat → Option AE} {D E : Nat → Option KD} {I : Nat → Nat → Int32} {L : Nat → Nat → Int64} {P : Nat → Nat → Option Nat} {nx us : Nat}
theorem cpI_s {x y : Nat} (hx : tk x = 0) (hy : tk y = 0) (lx : ln x = 40) (ly : ln y = 40) : cpI 0 (lay b F E I L P nx us) (ad b x) 0 (ad b y) 0 40 = some (lay b F E (u2 I y (va_cpy (I x) (I y) 0 0 40)) L P nx us) := by
  have h1 : hM (lay b F E I L P nx us) (ad b x) = some (.inl (0, 40, .inl (I x))) := by
    rw [hM_lay]; unfold cA; rw [kdf_KT (KT_arr hx (by decide)), lx]; rfl
  have h2 : hM (lay b F E I L P nx us) (ad b y) = some (.inl (0, 40, .inl (I y))) := by
    rw [hM_lay]; unfold cA; rw [kdf_KT (KT_arr hy (by decide)), ly]; rfl
  have h3 : (List.range (40 : Int32).toNatClampNeg).all (fun z => fits (aT 0) (.int (I x ((0 : Int32).toNatClampNeg + z)))) = true := by
    rw [List.all_eq_true]; intro z _; rfl
  have h4 : (lay b F E I L P nx us).1 ≤ ad b y := by show b ≤ ad b y; unfold ad; omega
  unfold cpI
  rw [h1, h2]
  simp only [h3, h4]
  rw [if_pos ⟨trivial, trivial, trivial, by decide, by decide, by decide, by decide, by decide, trivial⟩]
  congr 1
  refine hS_lay ?_ (fun q hq => ⟨u2_ne hq, rfl, rfl⟩)
  unfold cA
  rw [kdf_KT (KT_arr hy (by decide)), ly, u2_same]
  rfl
/-- the copies of the reference -/
theorem M_copies {nk : Nat} (h40 : nk ≤ 40) : ∀ (m i : Nat), i + m = nk → ∀ (I : Nat → Nat → Int32) (fu : Nat), m < fu → I 72 76 = Int32.ofNat nk → f_X15_copies_2 fu (ad b 72) (Int32.ofNat i) (lay b F E I L P nx us) = some (lay b F E (u2 (u2 I 137 (cpF i nk (I 126) (I 137))) 138 (cpF i nk (I 127) (I 138))) L P nx us) := by
  intro m
  induction m with
  | zero =>
    intro i hi I fu hfu hn
    obtain ⟨fu, rfl⟩ : ∃ z, fu = z + 1 := ⟨fu - 1, by omega⟩
    have : i = nk := by omega
    subst this
    rw [cpF_0, cpF_0, u2_id, u2_id]
    simp (decide := true) only [f_X15_copies_2, hn, Int32.le_refl, isO_s, gI_s, gA_s, gL_s, pI_s, pZ_s, pL_s, aI_s, aL_s, aN_s, aQ_s, sI_s, sL_s, cr, LNs, Option.map_some, Option.map_none, Option.bind_some, b2, tr, lt, if_true, if_false, ckZ, X_within, M_in, inR_z, X_refuse, X_tell, X_deny, X_grant, M_refused, M_denied, M_done, M_granted, u2_same, u2_ne, u2_u2, upd_same, upd_ne, aW0, ixR_z, ixR_1, M_isWall, M_isPainter, M_isWork, X_has4, X_has10, X_at, or_false, false_or, or_true, true_or, not_true, not_false_iff, Option.isSome_some, isO_d, gI_d, gA_d, pI_d, ne_eq, not_false_eq_true, u2_hi, u2_hj, u2_dyn, u2_dynj, Nat.reduceAdd]
  | succ m ih =>
    intro i hi I fu hfu hn
    obtain ⟨fu, rfl⟩ : ∃ z, fu = z + 1 := ⟨fu - 1, by omega⟩
    have e2 := oN_leF (show i < nk by omega) (by omega)
    have e3 : iN (Int32.ofNat i) 40 = some i := iN_oN (by omega) (by omega)
    have h1 := ih (i + 1) (by omega) (u2 (u2 I 137 (upd (I 137) i (I 126 i))) 138 (upd (I 138) i (I 127 i))) fu (by omega) (by simp (decide := true) only [u2_same, u2_ne, u2_u2, upd_same, upd_ne, mE, u2_dyn, dyn_u2, dyn_hi, u2_hi, u2_hj, u2_dynj]; exact hn)
    simp (decide := true) only [u2_same, u2_ne, ne_eq] at h1
    rw [u2_cm (show 138 ≠ 137 by decide), u2_u2, u2_u2, cpF_s (by omega), cpF_s (by omega)] at h1
    simp (decide := true) only [f_X15_copies_2, hn, e2, e3, oN_succ, isO_s, gI_s, gA_s, gL_s, pI_s, pZ_s, pL_s, aI_s, aL_s, aN_s, aQ_s, sI_s, sL_s, cr, LNs, Option.map_some, Option.map_none, Option.bind_some, b2, tr, lt, if_true, if_false, ckZ, X_within, M_in, inR_z, X_refuse, X_tell, X_deny, X_grant, M_refused, M_denied, M_done, M_granted, u2_same, u2_ne, u2_u2, upd_same, upd_ne, aW0, ixR_z, ixR_1, M_isWall, M_isPainter, M_isWork, X_has4, X_has10, X_at, or_false, false_or, or_true, true_or, not_true, not_false_iff, Option.isSome_some, isO_d, gI_d, gA_d, pI_d, ne_eq, not_false_eq_true, u2_hi, u2_hj, u2_dyn, u2_dynj, Nat.reduceAdd]
    exact h1
theorem X_good {d : Nat} (hd : d < 3650) : f_X10_isGoodDay (ad b 13) (Int32.ofNat d) (lay b F E I L P nx us) = some (if (I 23 (d / 32) >>> (Int32.ofNat (d % 32) &&& 31)) &&& 1 = 1 then 1 else 0, (lay b F E I L P nx us)) := by
  have e1 := oN_neg (w := d) (by omega)
  have e2 : ((3649 : Int32) < Int32.ofNat d) = False := oN_ltF (a := 3649) (by omega) (by omega)
  have e3 : Int32.ofNat d / 32 = Int32.ofNat (d / 32) := oN_div (c := 32) (by omega) (by omega)
  have e4 : Int32.ofNat d - Int32.ofNat (d / 32) * 32 = Int32.ofNat (d % 32) := by
    rw [show (32 : Int32) = Int32.ofNat 32 from rfl, oN_mul, oN_sub (by omega)]
    congr 1; omega
  have e5 : iN (Int32.ofNat (d / 32)) 115 = some (d / 32) := iN_oN (by omega) (by omega)
  simp (decide := true) only [f_X10_isGoodDay_36, f_X10_isGoodDay_35, f_X10_isGoodDay, e1, e2, e3, e4, e5, isO_s, gI_s, gA_s, gL_s, pI_s, pZ_s, pL_s, aI_s, aL_s, aN_s, aQ_s, sI_s, sL_s, cr, LNs, Option.map_some, Option.map_none, Option.bind_some, b2, tr, lt, if_true, if_false, ckZ, X_within, M_in, inR_z, X_refuse, X_tell, X_deny, X_grant, M_refused, M_denied, M_done, M_granted, u2_same, u2_ne, u2_u2, upd_same, upd_ne, aW0, ixR_z, ixR_1, M_isWall, M_isPainter, M_isWork, X_has4, X_has10, X_at, or_false, false_or, or_true, true_or, not_true, not_false_iff, Option.isSome_some, isO_d, gI_d, gA_d, pI_d, ne_eq, not_false_eq_true, u2_hi, u2_hj, u2_dyn, u2_dynj, Nat.reduceAdd]
  split <;> rfl
theorem M_good1 {d : Nat} (hd : d < 3650) (h : gdD (I 133 d) (I 134 d)) : f_X15_isGood (ad b 72) (Int32.ofNat d) (lay b F E I L P nx us) = some (1, (lay b F E I L P nx us)) := by
  have e6 : iN (Int32.ofNat d) 3650 = some d := iN_oN (by omega) (by omega)
  simp (decide := true) only [f_X15_isGood_36, f_X15_isGood_35, f_X15_isGood, e6, h.1, Int32.not_lt.mpr h.2.1, h.2.2, isO_s, gI_s, gA_s, gL_s, pI_s, pZ_s, pL_s, aI_s, aL_s, aN_s, aQ_s, sI_s, sL_s, cr, LNs, Option.map_some, Option.map_none, Option.bind_some, b2, tr, lt, if_true, if_false, ckZ, X_within, M_in, inR_z, X_refuse, X_tell, X_deny, X_grant, M_refused, M_denied, M_done, M_granted, u2_same, u2_ne, u2_u2, upd_same, upd_ne, aW0, ixR_z, ixR_1, M_isWall, M_isPainter, M_isWork, X_has4, X_has10, X_at, or_false, false_or, or_true, true_or, not_true, not_false_iff, Option.isSome_some, isO_d, gI_d, gA_d, pI_d, ne_eq, not_false_eq_true, u2_hi, u2_hj, u2_dyn, u2_dynj, Nat.reduceAdd]
theorem M_good0 {d : Nat} (hd : d < 3650) (h : ¬ gdD (I 133 d) (I 134 d)) : f_X15_isGood (ad b 72) (Int32.ofNat d) (lay b F E I L P nx us) = some (0, (lay b F E I L P nx us)) := by
  have e6 : iN (Int32.ofNat d) 3650 = some d := iN_oN (by omega) (by omega)
  by_cases h1 : I 133 d = 1000000
  · simp (decide := true) only [f_X15_isGood_36, f_X15_isGood_35, f_X15_isGood, e6, h1, isO_s, gI_s, gA_s, gL_s, pI_s, pZ_s, pL_s, aI_s, aL_s, aN_s, aQ_s, sI_s, sL_s, cr, LNs, Option.map_some, Option.map_none, Option.bind_some, b2, tr, lt, if_true, if_false, ckZ, X_within, M_in, inR_z, X_refuse, X_tell, X_deny, X_grant, M_refused, M_denied, M_done, M_granted, u2_same, u2_ne, u2_u2, upd_same, upd_ne, aW0, ixR_z, ixR_1, M_isWall, M_isPainter, M_isWork, X_has4, X_has10, X_at, or_false, false_or, or_true, true_or, not_true, not_false_iff, Option.isSome_some, isO_d, gI_d, gA_d, pI_d, ne_eq, not_false_eq_true, u2_hi, u2_hj, u2_dyn, u2_dynj, Nat.reduceAdd]
  · by_cases h2 : I 133 d < 10
    · simp (decide := true) only [f_X15_isGood_36, f_X15_isGood_35, f_X15_isGood, e6, h1, h2, isO_s, gI_s, gA_s, gL_s, pI_s, pZ_s, pL_s, aI_s, aL_s, aN_s, aQ_s, sI_s, sL_s, cr, LNs, Option.map_some, Option.map_none, Option.bind_some, b2, tr, lt, if_true, if_false, ckZ, X_within, M_in, inR_z, X_refuse, X_tell, X_deny, X_grant, M_refused, M_denied, M_done, M_granted, u2_same, u2_ne, u2_u2, upd_same, upd_ne, aW0, ixR_z, ixR_1, M_isWall, M_isPainter, M_isWork, X_has4, X_has10, X_at, or_false, false_or, or_true, true_or, not_true, not_false_iff, Option.isSome_some, isO_d, gI_d, gA_d, pI_d, ne_eq, not_false_eq_true, u2_hi, u2_hj, u2_dyn, u2_dynj, Nat.reduceAdd]
    · have h3 : ¬ I 134 d = 0 := fun q => h ⟨h1, Int32.not_lt.mp h2, q⟩
      simp (decide := true) only [f_X15_isGood_36, f_X15_isGood_35, f_X15_isGood, e6, h1, h2, h3, isO_s, gI_s, gA_s, gL_s, pI_s, pZ_s, pL_s, aI_s, aL_s, aN_s, aQ_s, sI_s, sL_s, cr, LNs, Option.map_some, Option.map_none, Option.bind_some, b2, tr, lt, if_true, if_false, ckZ, X_within, M_in, inR_z, X_refuse, X_tell, X_deny, X_grant, M_refused, M_denied, M_done, M_granted, u2_same, u2_ne, u2_u2, upd_same, upd_ne, aW0, ixR_z, ixR_1, M_isWall, M_isPainter, M_isWork, X_has4, X_has10, X_at, or_false, false_or, or_true, true_or, not_true, not_false_iff, Option.isSome_some, isO_d, gI_d, gA_d, pI_d, ne_eq, not_false_eq_true, u2_hi, u2_hj, u2_dyn, u2_dynj, Nat.reduceAdd]
/-- a day as the methods do it -/
theorem day0 {nk : Nat} {nd co : RW} (h40 : nk ≤ 40) (free : Int32) (did st lf : RW) (hf : 0 ≤ free) (hW : ∀ k, k < nk → WST (nd k) (did k) (st k) (lf k) (co k)) :
    ∃ did' st' lf' : RW,
      (∀ (I : Nat → Nat → Int32) (cd : Nat), tk cd = 0 → ln cd = 40 → 13 ≠ cd → 17 ≠ cd → I cd = did → I 17 = nd → I 13 1 = Int32.ofNat nk → I 13 13 = free → f_X10_bringOn (ad b 13) (ad b cd) (lay b F E I L P nx us) = some (lay b F E (u2 I cd did') L P nx us))
      ∧ (∀ (I : Nat → Nat → Int32) (cs cl : Nat), tk cs = 0 → ln cs = 40 → tk cl = 0 → ln cl = 40 → cs ≠ cl → 72 ≠ cs → 72 ≠ cl → 128 ≠ cs → 128 ≠ cl → I cs = st → I cl = lf → I 128 = co → I 72 76 = Int32.ofNat nk → I 72 78 = free → f_X15_goes (ad b 72) (ad b cs) (ad b cl) (lay b F E I L P nx us) = some (sm (fun k => if st k ≠ 3 ∧ st' k = 3 then 1 else 0) 0 nk, lay b F E (u2 (u2 I cs st') cl lf') L P nx us))
      ∧ DayOk nk nd co did st lf did' st' lf' := by
  obtain ⟨did', st', lf', h1, h2, h3, -⟩ := day (b := b) (F := F) (E := E) (L := L) (P := P) (nx := nx) (us := us) h40 nk 0 (by omega) free 0 did st lf hf hW
  refine ⟨did', st', lf', ?_, ?_, h3⟩
  · intro I cd t1 t2 d1 d2 r1 r2 r3 r4
    simp (decide := true) only [f_X10_bringOn_91, f_X10_bringOn_85, f_X10_bringOn_54, f_X10_bringOn_49, f_X10_bringOn, r4, isO_s, gI_s, gA_s, gL_s, pI_s, pZ_s, pL_s, aI_s, aL_s, aN_s, aQ_s, sI_s, sL_s, cr, LNs, Option.map_some, Option.map_none, Option.bind_some, b2, tr, lt, if_true, if_false, ckZ, X_within, M_in, inR_z, X_refuse, X_tell, X_deny, X_grant, M_refused, M_denied, M_done, M_granted, u2_same, u2_ne, u2_u2, upd_same, upd_ne, aW0, ixR_z, ixR_1, M_isWall, M_isPainter, M_isWork, X_has4, X_has10, X_at, or_false, false_or, or_true, true_or, not_true, not_false_iff, Option.isSome_some, isO_d, gI_d, gA_d, pI_d, ne_eq, not_false_eq_true, u2_hi, u2_hj, u2_dyn, u2_dynj, Nat.reduceAdd]
    exact h1 I cd FU (by unfold FU; omega) t1 t2 d1 d2 r1 r2 r3
  · intro I cs cl t1 t2 t3 t4 d0 d1 d2 d3 d4 r1 r2 r3 r4 r5
    have := h2 I cs cl FU (by unfold FU; omega) t1 t2 t3 t4 d0 d1 d2 d3 d4 r1 r2 r3 r4
    rw [sm_0] at this
    simp (decide := true) only [f_X15_goes_138, f_X15_goes_135, f_X15_goes_119, f_X15_goes_57, f_X15_goes_43, f_X15_goes, r5, isO_s, gI_s, gA_s, gL_s, pI_s, pZ_s, pL_s, aI_s, aL_s, aN_s, aQ_s, sI_s, sL_s, cr, LNs, Option.map_some, Option.map_none, Option.bind_some, b2, tr, lt, if_true, if_false, ckZ, X_within, M_in, inR_z, X_refuse, X_tell, X_deny, X_grant, M_refused, M_denied, M_done, M_granted, u2_same, u2_ne, u2_u2, upd_same, upd_ne, aW0, ixR_z, ixR_1, M_isWall, M_isPainter, M_isWork, X_has4, X_has10, X_at, or_false, false_or, or_true, true_or, not_true, not_false_iff, Option.isSome_some, isO_d, gI_d, gA_d, pI_d, ne_eq, not_false_eq_true, u2_hi, u2_hj, u2_dyn, u2_dynj, Nat.reduceAdd]
    exact this
/-- the reference goes over days that aren't good -/
theorem M_bad {kk : Nat} : ∀ (m d : Nat), d + m = 3650 → ∀ fu, m < fu → (∀ e, d ≤ e → e < 3650 → ¬ gdD (I 133 e) (I 134 e)) → f_X15_end_41 fu (ad b 72) (Int32.ofNat kk) (Int32.ofNat d) (lay b F E I L P nx us) = some (-2, (lay b F E I L P nx us)) := by
  intro m
  induction m with
  | zero =>
    intro d hd fu hfu h
    obtain ⟨fu, rfl⟩ : ∃ z, fu = z + 1 := ⟨fu - 1, by omega⟩
    have : d = 3650 := by omega
    subst this
    simp (decide := true) only [f_X15_end_41, isO_s, gI_s, gA_s, gL_s, pI_s, pZ_s, pL_s, aI_s, aL_s, aN_s, aQ_s, sI_s, sL_s, cr, LNs, Option.map_some, Option.map_none, Option.bind_some, b2, tr, lt, if_true, if_false, ckZ, X_within, M_in, inR_z, X_refuse, X_tell, X_deny, X_grant, M_refused, M_denied, M_done, M_granted, u2_same, u2_ne, u2_u2, upd_same, upd_ne, aW0, ixR_z, ixR_1, M_isWall, M_isPainter, M_isWork, X_has4, X_has10, X_at, or_false, false_or, or_true, true_or, not_true, not_false_iff, Option.isSome_some, isO_d, gI_d, gA_d, pI_d, ne_eq, not_false_eq_true, u2_hi, u2_hj, u2_dyn, u2_dynj, Nat.reduceAdd]
  | succ m ih =>
    intro d hd fu hfu h
    obtain ⟨fu, rfl⟩ : ∃ z, fu = z + 1 := ⟨fu - 1, by omega⟩
    have e1 : ((3650 : Int32) ≤ Int32.ofNat d) = False := oN_leF (c := 3650) (by omega) (by omega)
    simp (decide := true) only [f_X15_end_41, f_X15_end_84, e1, M_good0 (show d < 3650 by omega) (h d (by omega) (by omega)), oN_succ, isO_s, gI_s, gA_s, gL_s, pI_s, pZ_s, pL_s, aI_s, aL_s, aN_s, aQ_s, sI_s, sL_s, cr, LNs, Option.map_some, Option.map_none, Option.bind_some, b2, tr, lt, if_true, if_false, ckZ, X_within, M_in, inR_z, X_refuse, X_tell, X_deny, X_grant, M_refused, M_denied, M_done, M_granted, u2_same, u2_ne, u2_u2, upd_same, upd_ne, aW0, ixR_z, ixR_1, M_isWall, M_isPainter, M_isWork, X_has4, X_has10, X_at, or_false, false_or, or_true, true_or, not_true, not_false_iff, Option.isSome_some, isO_d, gI_d, gA_d, pI_d, ne_eq, not_false_eq_true, u2_hi, u2_hj, u2_dyn, u2_dynj, Nat.reduceAdd]
    exact ih (d + 1) (by omega) fu (by omega) (fun e h1 h2 => h e (by omega) h2)
theorem endLoop {nk kk : Nat} {nd co x23 m133 m134 : RW} {lg free : Int32} (h40 : nk ≤ 40) (hkk : kk < nk) (hf : 0 ≤ free) (hw : GWea x23 lg m133 m134) : ∀ (m d : Nat), d + m = 3650 → ∀ (did st lf : RW), (∀ k, k < nk → WST (nd k) (did k) (st k) (lf k) (co k)) → st kk ≠ 3 →
    ∃ (v : Int32) (did' st' lf' : RW),
      (∀ (I : Nat → Nat → Int32) (fu : Nat), m < fu → I 19 = did → I 17 = nd → I 13 1 = Int32.ofNat nk → I 13 13 = free → I 23 = x23 → I 13 12 = lg → f_X10_foretoldEnd_52 fu (ad b 13) (Int32.ofNat kk) (Int32.ofNat d) (lay b F E I L P nx us) = some (v, lay b F E (u2 I 19 did') L P nx us))
      ∧ (∀ (I : Nat → Nat → Int32) (fu : Nat), m < fu → I 137 = st → I 138 = lf → I 128 = co → I 72 76 = Int32.ofNat nk → I 72 78 = free → I 133 = m133 → I 134 = m134 → f_X15_end_41 fu (ad b 72) (Int32.ofNat kk) (Int32.ofNat d) (lay b F E I L P nx us) = some (v, lay b F E (u2 (u2 I 137 st') 138 lf') L P nx us)) := by
  obtain ⟨hw1, hw2, hw3⟩ := hw
  have e3 : iN (Int32.ofNat kk) 40 = some kk := iN_oN (by omega) (by omega)
  intro m
  induction m with
  | zero =>
    intro d hd did st lf hW hs
    have : d = 3650 := by omega
    subst this
    refine ⟨-2, did, st, lf, ?_, ?_⟩
    · intro I fu hfu r1 r2 r3 r4 r5 r6
      obtain ⟨fu, rfl⟩ : ∃ z, fu = z + 1 := ⟨fu - 1, by omega⟩
      have : lg < Int32.ofNat 3650 := by
        have h2 : (3649 : Int32) < Int32.ofNat 3650 := by decide
        grind
      rw [u2_id' r1]
      simp (decide := true) only [f_X10_foretoldEnd_52, r6, this, isO_s, gI_s, gA_s, gL_s, pI_s, pZ_s, pL_s, aI_s, aL_s, aN_s, aQ_s, sI_s, sL_s, cr, LNs, Option.map_some, Option.map_none, Option.bind_some, b2, tr, lt, if_true, if_false, ckZ, X_within, M_in, inR_z, X_refuse, X_tell, X_deny, X_grant, M_refused, M_denied, M_done, M_granted, u2_same, u2_ne, u2_u2, upd_same, upd_ne, aW0, ixR_z, ixR_1, M_isWall, M_isPainter, M_isWork, X_has4, X_has10, X_at, or_false, false_or, or_true, true_or, not_true, not_false_iff, Option.isSome_some, isO_d, gI_d, gA_d, pI_d, ne_eq, not_false_eq_true, u2_hi, u2_hj, u2_dyn, u2_dynj, Nat.reduceAdd]
    · intro I fu hfu r1 r2 r3 r4 r5 r6 r7
      rw [u2_id' r1, u2_id' r2]
      exact M_bad 0 3650 (by omega) fu (by omega) (fun e h1 h2 => by omega)
  | succ m ih =>
    intro d hd did st lf hW hs
    have hd' : d < 3650 := by omega
    obtain ⟨g1, g2⟩ := hw3 d hd'
    by_cases hl : lg < Int32.ofNat d
    · -- behind the last good day
      refine ⟨-2, did, st, lf, ?_, ?_⟩
      · intro I fu hfu r1 r2 r3 r4 r5 r6
        obtain ⟨fu, rfl⟩ : ∃ z, fu = z + 1 := ⟨fu - 1, by omega⟩
        rw [u2_id' r1]
        simp (decide := true) only [f_X10_foretoldEnd_52, r6, hl, isO_s, gI_s, gA_s, gL_s, pI_s, pZ_s, pL_s, aI_s, aL_s, aN_s, aQ_s, sI_s, sL_s, cr, LNs, Option.map_some, Option.map_none, Option.bind_some, b2, tr, lt, if_true, if_false, ckZ, X_within, M_in, inR_z, X_refuse, X_tell, X_deny, X_grant, M_refused, M_denied, M_done, M_granted, u2_same, u2_ne, u2_u2, upd_same, upd_ne, aW0, ixR_z, ixR_1, M_isWall, M_isPainter, M_isWork, X_has4, X_has10, X_at, or_false, false_or, or_true, true_or, not_true, not_false_iff, Option.isSome_some, isO_d, gI_d, gA_d, pI_d, ne_eq, not_false_eq_true, u2_hi, u2_hj, u2_dyn, u2_dynj, Nat.reduceAdd]
      · intro I fu hfu r1 r2 r3 r4 r5 r6 r7
        rw [u2_id' r1, u2_id' r2]
        refine M_bad (m + 1) d (by omega) fu (by omega) (fun e h1 h2 hg => ?_)
        rw [r6, r7] at hg
        have := (hw3 e h2).2 hg
        have h5 : Int32.ofNat d ≤ Int32.ofNat e := oN_leL h1 (by omega)
        exact Int32.not_le.mpr hl (Int32.le_trans h5 this)
    · have e1 : ((3650 : Int32) ≤ Int32.ofNat d) = False := oN_leF (c := 3650) hd' (by omega)
      by_cases hg : gdD (m133 d) (m134 d)
      · have hb : (x23 (d / 32) >>> (Int32.ofNat (d % 32) &&& 31)) &&& 1 = 1 := g1.mpr hg
        obtain ⟨did1, st1, lf1, y1, y2, y3⟩ := day0 (b := b) (F := F) (E := E) (L := L) (P := P) (nx := nx) (us := us) h40 free did st lf hf hW
        have hW1 : ∀ k, k < nk → WST (nd k) (did1 k) (st1 k) (lf1 k) (co k) := fun k hk => (y3 k hk).1
        by_cases hz : st1 kk = 3
        · have hov : ¬ did1 kk < nd kk := fun q => (WST_over (hW1 kk hkk)).mp q hz
          refine ⟨Int32.ofNat d, did1, st1, lf1, ?_, ?_⟩
          · intro I fu hfu r1 r2 r3 r4 r5 r6
            obtain ⟨fu, rfl⟩ : ∃ z, fu = z + 1 := ⟨fu - 1, by omega⟩
            have y1 := y1 I 19 (by decide) (by decide) (by decide) (by decide) r1 r2 r3 r4
            have r5' := congrFun r5 (d / 32)
            simp (decide := true) only [f_X10_foretoldEnd_52, f_X10_foretoldEnd_76, r6, hl, X_good hd', r5', hb, y1, e3, r2, hov, isO_s, gI_s, gA_s, gL_s, pI_s, pZ_s, pL_s, aI_s, aL_s, aN_s, aQ_s, sI_s, sL_s, cr, LNs, Option.map_some, Option.map_none, Option.bind_some, b2, tr, lt, if_true, if_false, ckZ, X_within, M_in, inR_z, X_refuse, X_tell, X_deny, X_grant, M_refused, M_denied, M_done, M_granted, u2_same, u2_ne, u2_u2, upd_same, upd_ne, aW0, ixR_z, ixR_1, M_isWall, M_isPainter, M_isWork, X_has4, X_has10, X_at, or_false, false_or, or_true, true_or, not_true, not_false_iff, Option.isSome_some, isO_d, gI_d, gA_d, pI_d, ne_eq, not_false_eq_true, u2_hi, u2_hj, u2_dyn, u2_dynj, Nat.reduceAdd]
          · intro I fu hfu r1 r2 r3 r4 r5 r6 r7
            obtain ⟨fu, rfl⟩ : ∃ z, fu = z + 1 := ⟨fu - 1, by omega⟩
            have y2 := y2 I 137 138 (by decide) (by decide) (by decide) (by decide) (by decide) (by decide) (by decide) (by decide) (by decide) r1 r2 r3 r4 r5
            have hgd : gdD (I 133 d) (I 134 d) := by rw [r6, r7]; exact hg
            simp (decide := true) only [f_X15_end_41, e1, M_good1 (I := I) hd' hgd, y2, e3, hz, isO_s, gI_s, gA_s, gL_s, pI_s, pZ_s, pL_s, aI_s, aL_s, aN_s, aQ_s, sI_s, sL_s, cr, LNs, Option.map_some, Option.map_none, Option.bind_some, b2, tr, lt, if_true, if_false, ckZ, X_within, M_in, inR_z, X_refuse, X_tell, X_deny, X_grant, M_refused, M_denied, M_done, M_granted, u2_same, u2_ne, u2_u2, upd_same, upd_ne, aW0, ixR_z, ixR_1, M_isWall, M_isPainter, M_isWork, X_has4, X_has10, X_at, or_false, false_or, or_true, true_or, not_true, not_false_iff, Option.isSome_some, isO_d, gI_d, gA_d, pI_d, ne_eq, not_false_eq_true, u2_hi, u2_hj, u2_dyn, u2_dynj, Nat.reduceAdd]
        · have hov : did1 kk < nd kk := (WST_over (hW1 kk hkk)).mpr hz
          obtain ⟨v, did', st', lf', z1, z2⟩ := ih (d + 1) (by omega) did1 st1 lf1 hW1 hz
          refine ⟨v, did', st', lf', ?_, ?_⟩
          · intro I fu hfu r1 r2 r3 r4 r5 r6
            obtain ⟨fu, rfl⟩ : ∃ z, fu = z + 1 := ⟨fu - 1, by omega⟩
            have y1 := y1 I 19 (by decide) (by decide) (by decide) (by decide) r1 r2 r3 r4
            have z1 := z1 (u2 I 19 did1) fu (by omega) (u2_same _ _ _) (by rw [u2_ne (by decide)]; exact r2) (by rw [u2_ne (by decide)]; exact r3) (by rw [u2_ne (by decide)]; exact r4) (by rw [u2_ne (by decide)]; exact r5) (by rw [u2_ne (by decide)]; exact r6)
            rw [u2_u2] at z1
            have r5' := congrFun r5 (d / 32)
            simp (decide := true) only [f_X10_foretoldEnd_52, f_X10_foretoldEnd_76, r6, hl, X_good hd', r5', hb, y1, e3, r2, hov, oN_succ, isO_s, gI_s, gA_s, gL_s, pI_s, pZ_s, pL_s, aI_s, aL_s, aN_s, aQ_s, sI_s, sL_s, cr, LNs, Option.map_some, Option.map_none, Option.bind_some, b2, tr, lt, if_true, if_false, ckZ, X_within, M_in, inR_z, X_refuse, X_tell, X_deny, X_grant, M_refused, M_denied, M_done, M_granted, u2_same, u2_ne, u2_u2, upd_same, upd_ne, aW0, ixR_z, ixR_1, M_isWall, M_isPainter, M_isWork, X_has4, X_has10, X_at, or_false, false_or, or_true, true_or, not_true, not_false_iff, Option.isSome_some, isO_d, gI_d, gA_d, pI_d, ne_eq, not_false_eq_true, u2_hi, u2_hj, u2_dyn, u2_dynj, Nat.reduceAdd]
            exact z1
          · intro I fu hfu r1 r2 r3 r4 r5 r6 r7
            obtain ⟨fu, rfl⟩ : ∃ z, fu = z + 1 := ⟨fu - 1, by omega⟩
            have y2 := y2 I 137 138 (by decide) (by decide) (by decide) (by decide) (by decide) (by decide) (by decide) (by decide) (by decide) r1 r2 r3 r4 r5
            have z2 := z2 (u2 (u2 I 137 st1) 138 lf1) fu (by omega) (by simp (decide := true) only [u2_same, u2_ne, u2_u2, upd_same, upd_ne, mE, u2_dyn, dyn_u2, dyn_hi, u2_hi, u2_hj, u2_dynj]) (by simp (decide := true) only [u2_same, u2_ne, u2_u2, upd_same, upd_ne, mE, u2_dyn, dyn_u2, dyn_hi, u2_hi, u2_hj, u2_dynj]) (by simp (decide := true) only [u2_same, u2_ne, u2_u2, upd_same, upd_ne, mE, u2_dyn, dyn_u2, dyn_hi, u2_hi, u2_hj, u2_dynj]; exact r3) (by simp (decide := true) only [u2_same, u2_ne, u2_u2, upd_same, upd_ne, mE, u2_dyn, dyn_u2, dyn_hi, u2_hi, u2_hj, u2_dynj]; exact r4) (by simp (decide := true) only [u2_same, u2_ne, u2_u2, upd_same, upd_ne, mE, u2_dyn, dyn_u2, dyn_hi, u2_hi, u2_hj, u2_dynj]; exact r5) (by simp (decide := true) only [u2_same, u2_ne, u2_u2, upd_same, upd_ne, mE, u2_dyn, dyn_u2, dyn_hi, u2_hi, u2_hj, u2_dynj]; exact r6) (by simp (decide := true) only [u2_same, u2_ne, u2_u2, upd_same, upd_ne, mE, u2_dyn, dyn_u2, dyn_hi, u2_hi, u2_hj, u2_dynj]; exact r7)
            rw [u2_cm (show 138 ≠ 137 by decide) (f := lf1), u2_u2, u2_u2] at z2
            have hgd : gdD (I 133 d) (I 134 d) := by rw [r6, r7]; exact hg
            simp (decide := true) only [f_X15_end_41, f_X15_end_84, e1, M_good1 (I := I) hd' hgd, y2, e3, hz, oN_succ, isO_s, gI_s, gA_s, gL_s, pI_s, pZ_s, pL_s, aI_s, aL_s, aN_s, aQ_s, sI_s, sL_s, cr, LNs, Option.map_some, Option.map_none, Option.bind_some, b2, tr, lt, if_true, if_false, ckZ, X_within, M_in, inR_z, X_refuse, X_tell, X_deny, X_grant, M_refused, M_denied, M_done, M_granted, u2_same, u2_ne, u2_u2, upd_same, upd_ne, aW0, ixR_z, ixR_1, M_isWall, M_isPainter, M_isWork, X_has4, X_has10, X_at, or_false, false_or, or_true, true_or, not_true, not_false_iff, Option.isSome_some, isO_d, gI_d, gA_d, pI_d, ne_eq, not_false_eq_true, u2_hi, u2_hj, u2_dyn, u2_dynj, Nat.reduceAdd]
            exact z2
      · have hb : ¬ (x23 (d / 32) >>> (Int32.ofNat (d % 32) &&& 31)) &&& 1 = 1 := fun q => hg (g1.mp q)
        have hov : did kk < nd kk := (WST_over (hW kk hkk)).mpr hs
        obtain ⟨v, did', st', lf', z1, z2⟩ := ih (d + 1) (by omega) did st lf hW hs
        refine ⟨v, did', st', lf', ?_, ?_⟩
        · intro I fu hfu r1 r2 r3 r4 r5 r6
          obtain ⟨fu, rfl⟩ : ∃ z, fu = z + 1 := ⟨fu - 1, by omega⟩
          have z1 := z1 I fu (by omega) r1 r2 r3 r4 r5 r6
          have r5' := congrFun r5 (d / 32)
          simp (decide := true) only [f_X10_foretoldEnd_52, f_X10_foretoldEnd_76, r6, hl, X_good hd', r5', hb, e3, r1, r2, hov, oN_succ, isO_s, gI_s, gA_s, gL_s, pI_s, pZ_s, pL_s, aI_s, aL_s, aN_s, aQ_s, sI_s, sL_s, cr, LNs, Option.map_some, Option.map_none, Option.bind_some, b2, tr, lt, if_true, if_false, ckZ, X_within, M_in, inR_z, X_refuse, X_tell, X_deny, X_grant, M_refused, M_denied, M_done, M_granted, u2_same, u2_ne, u2_u2, upd_same, upd_ne, aW0, ixR_z, ixR_1, M_isWall, M_isPainter, M_isWork, X_has4, X_has10, X_at, or_false, false_or, or_true, true_or, not_true, not_false_iff, Option.isSome_some, isO_d, gI_d, gA_d, pI_d, ne_eq, not_false_eq_true, u2_hi, u2_hj, u2_dyn, u2_dynj, Nat.reduceAdd]
          exact z1
        · intro I fu hfu r1 r2 r3 r4 r5 r6 r7
          obtain ⟨fu, rfl⟩ : ∃ z, fu = z + 1 := ⟨fu - 1, by omega⟩
          have z2 := z2 I fu (by omega) r1 r2 r3 r4 r5 r6 r7
          have hgd : ¬ gdD (I 133 d) (I 134 d) := by rw [r6, r7]; exact hg
          simp (decide := true) only [f_X15_end_41, f_X15_end_84, e1, M_good0 (I := I) hd' hgd, oN_succ, isO_s, gI_s, gA_s, gL_s, pI_s, pZ_s, pL_s, aI_s, aL_s, aN_s, aQ_s, sI_s, sL_s, cr, LNs, Option.map_some, Option.map_none, Option.bind_some, b2, tr, lt, if_true, if_false, ckZ, X_within, M_in, inR_z, X_refuse, X_tell, X_deny, X_grant, M_refused, M_denied, M_done, M_granted, u2_same, u2_ne, u2_u2, upd_same, upd_ne, aW0, ixR_z, ixR_1, M_isWall, M_isPainter, M_isWork, X_has4, X_has10, X_at, or_false, false_or, or_true, true_or, not_true, not_false_iff, Option.isSome_some, isO_d, gI_d, gA_d, pI_d, ne_eq, not_false_eq_true, u2_hi, u2_hj, u2_dyn, u2_dynj, Nat.reduceAdd]
          exact z2
end END
