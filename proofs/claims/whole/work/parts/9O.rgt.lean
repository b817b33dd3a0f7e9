/-! ===== right: what a text says; the class reads it ===== -/
def whoV (t : RW) (n i : Nat) : Int32 := if isW t n i 12 then 0 else if isW t n i 13 then 1 else if isW t n i 14 then 2 else if isW t n i 15 then 3 else -1
theorem nmT_2 {t : RW} {n i : Nat} (h : kd t n (pl t n i) = 2) : nmT t n i = nmV (vl t n (pl t n i)) := if_pos h
theorem nmT_n {t : RW} {n i : Nat} (h : ¬ kd t n (pl t n i) = 2) : nmT t n i = -1 := if_neg h
theorem isW_2 {t : RW} {n i k : Nat} (h : kd t n (pl t n i) = 2) : isW t n i k ↔ vl t n (pl t n i) = zw k := ⟨fun q => q.2, fun q => ⟨h, q⟩⟩
/-- one word told by its number -/
theorem nmT_w {t : RW} {n i k : Nat} {c : Int32} (hc : c ≠ -1) (h : ∀ v, nmV v = c ↔ v = zw k) : (nmT t n i = c) = isW t n i k := by
  apply propext
  by_cases h2 : kd t n (pl t n i) = 2
  · rw [nmT_2 h2, isW_2 h2]
    exact h _
  · rw [nmT_n h2]
    exact ⟨fun q => absurd q.symm hc, fun q => absurd q.1 h2⟩
theorem nmT_18 {t : RW} {n i : Nat} : (nmT t n i = 18) = isW t n i 11 := nmT_w (by decide) nmV_18
theorem who_W {t : RW} {n i : Nat} (h : kd t n (pl t n i) = 2) : whoV t n i = whoW (vl t n (pl t n i)) := by
  unfold whoV whoW
  simp only [isW, h, true_and]
theorem who_T {t : RW} {n i : Nat} (h : kd t n (pl t n i) = 2) : ((nmT t n i < 14 ∨ 17 < nmT t n i) ↔ whoV t n i = -1) ∧ (whoV t n i ≠ -1 → nmT t n i - 14 = whoV t n i) := by
  rw [who_W h, nmT_2 h]
  exact nmV_who _
def num (t : RW) (n i : Nat) : Int32 := nvR t (n - pl t n i) (pl t n i) 0
abbrev ROut : Type := (Int32 × Nat) ⊕ (Nat × RW × RW)
/-- behind a line -/
def rgE (t : RW) (n i : Nat) (go : ROut) (ok : ROut) : ROut := if isC t n i 44 then go else if kd t n (pl t n i) = 0 then ok else .inl (1, i)
/-- lines from the k-th on: a fault and its token, or the lines -/
def rgS (t : RW) (n : Nat) : Nat → Nat → Nat → Int32 → RW → RW → ROut
  | 0, i, _, _, _, _ => .inl (0, i)
  | f + 1, i, k, tot, w, p =>
    if kd t n (pl t n i) ≠ 2 ∨ isW t n i 11 then .inl (1, i)
    else if whoV t n i = -1 then .inl (2, i)
    else if k = 8 then .inl (4, i)
    else if isW t n (i + 1) 11 then rgE t n (i + 2) (rgS t n f (i + 3) (k + 1) tot (upd w k (whoV t n i)) (upd p k (-1))) (.inr (k + 1, upd w k (whoV t n i), upd p k (-1)))
    else if kd t n (pl t n (i + 1)) ≠ 3 then .inl (1, i + 1)
    else if ¬ tot + num t n (i + 1) ≤ 100 then .inl (3, i + 1)
    else if ¬ isC t n (i + 2) 37 then .inl (1, i + 2)
    else rgE t n (i + 3) (rgS t n f (i + 4) (k + 1) (tot + num t n (i + 1)) (upd w k (whoV t n i)) (upd p k (num t n (i + 1)))) (.inr (k + 1, upd w k (whoV t n i), upd p k (num t n (i + 1))))
/-- the class's reader at token j -/
def aVv (I : Nat → Nat → Int32) (j : Nat) : Nat → Nat → Int32 := u2 I 40 (upd (I 40) 4 (Int32.ofNat j))
def aT5 (I : Nat → Nat → Int32) (x : Int32) : Nat → Nat → Int32 := u2 I 54 (upd (I 54) 5 x)
def aF (I : Nat → Nat → Int32) (c : Int32) (s : Nat) : Nat → Nat → Int32 := u2 I 40 (upd (upd (I 40) 5 c) 6 (Int32.ofNat s))
def aL4 (nr k : Nat) (who sh : Int32) (I : Nat → Nat → Int32) : Nat → Nat → Int32 := u2 (u2 (u2 I 56 (upd (I 56) (8 * nr + k) who)) 57 (upd (I 57) (8 * nr + k) sh)) 55 (upd (I 55) nr (Int32.ofNat (k + 1)))
theorem TX.fr {t : RW} {n la : Nat} {I J : Nat → Nat → Int32} {L : Nat → Nat → Int64} (h : TX t n la I L) (h1 : J 40 3 = I 40 3) (h2 : J 41 = I 41) (h3 : J 42 = I 42) (h4 : J 148 = I 148) : TX t n la J L := by
  unfold TX at h ⊢
  rw [h1, h2, h3, h4]
  exact h
theorem aVv_ne {I : Nat → Nat → Int32} {j c : Nat} (h : c ≠ 40) : aVv I j c = I c := u2_ne h
theorem aVv_40 {I : Nat → Nat → Int32} {j k : Nat} (h : k ≠ 4) : aVv I j 40 k = I 40 k := by unfold aVv; rw [u2_same, upd_ne h]
theorem aVv_4 {I : Nat → Nat → Int32} {j : Nat} : aVv I j 40 4 = Int32.ofNat j := by unfold aVv; rw [u2_same, upd_same]
theorem aVv_TX {t : RW} {n la j : Nat} {I : Nat → Nat → Int32} {L : Nat → Nat → Int64} (h : TX t n la I L) : TX t n la (aVv I j) L := h.fr (aVv_40 (by decide)) (aVv_ne (by decide)) (aVv_ne (by decide)) (aVv_ne (by decide))
theorem aL_ne {nr k c : Nat} {who sh : Int32} {I : Nat → Nat → Int32} (h5 : c ≠ 55) (h6 : c ≠ 56) (h7 : c ≠ 57) : aL4 nr k who sh I c = I c := by unfold aL4; rw [u2_ne h5, u2_ne h7, u2_ne h6]
theorem aL_TX {t : RW} {n la nr k : Nat} {who sh : Int32} {I : Nat → Nat → Int32} {L : Nat → Nat → Int64} (h : TX t n la I L) : TX t n la (aL4 nr k who sh I) L := h.fr (by rw [aL_ne (by decide) (by decide) (by decide)]) (aL_ne (by decide) (by decide) (by decide)) (aL_ne (by decide) (by decide) (by decide)) (aL_ne (by decide) (by decide) (by decide))
theorem aT_ne {x : Int32} {c : Nat} {I : Nat → Nat → Int32} (h : c ≠ 54) : aT5 I x c = I c := u2_ne h
theorem aT_54 {x : Int32} {k : Nat} {I : Nat → Nat → Int32} (h : k ≠ 5) : aT5 I x 54 k = I 54 k := by unfold aT5; rw [u2_same, upd_ne h]
theorem aT_5 {x : Int32} {I : Nat → Nat → Int32} : aT5 I x 54 5 = x := by unfold aT5; rw [u2_same, upd_same]
theorem aT_TX {t : RW} {n la : Nat} {x : Int32} {I : Nat → Nat → Int32} {L : Nat → Nat → Int64} (h : TX t n la I L) : TX t n la (aT5 I x) L := h.fr (by rw [aT_ne (by decide)]) (aT_ne (by decide)) (aT_ne (by decide)) (aT_ne (by decide))
/-- what reading a right leaves alone -/
def FR5 (nr : Nat) (I J : Nat → Nat → Int32) : Prop := (∀ c, c ≠ 40 → c ≠ 54 → c ≠ 55 → c ≠ 56 → c ≠ 57 → J c = I c) ∧ J 40 3 = I 40 3 ∧ (∀ k, k ≠ 5 → J 54 k = I 54 k) ∧ (∀ j, j ≠ nr → J 55 j = I 55 j) ∧ ∀ x, x < 8 * nr → J 56 x = I 56 x ∧ J 57 x = I 57 x
theorem FR5.refl {nr : Nat} {I : Nat → Nat → Int32} : FR5 nr I I := ⟨fun _ _ _ _ _ _ => rfl, rfl, fun _ _ => rfl, fun _ _ => rfl, fun _ _ => ⟨rfl, rfl⟩⟩
theorem FR5.trans {nr : Nat} {I J K : Nat → Nat → Int32} (h : FR5 nr I J) (h' : FR5 nr J K) : FR5 nr I K := ⟨fun c c1 c2 c3 c4 c5 => (h'.1 c c1 c2 c3 c4 c5).trans (h.1 c c1 c2 c3 c4 c5), h'.2.1.trans h.2.1, fun k hk => (h'.2.2.1 k hk).trans (h.2.2.1 k hk), fun j hj => (h'.2.2.2.1 j hj).trans (h.2.2.2.1 j hj), fun x hx => ⟨(h'.2.2.2.2 x hx).1.trans (h.2.2.2.2 x hx).1, (h'.2.2.2.2 x hx).2.trans (h.2.2.2.2 x hx).2⟩⟩
theorem FR5_V {nr j : Nat} {I : Nat → Nat → Int32} : FR5 nr I (aVv I j) := ⟨fun c c1 _ _ _ _ => aVv_ne c1, aVv_40 (by decide), fun k _ => by rw [aVv_ne (by decide)], fun j _ => by rw [aVv_ne (by decide)], fun x _ => by rw [aVv_ne (by decide), aVv_ne (by decide)]; exact ⟨rfl, rfl⟩⟩
theorem FR5_T {nr : Nat} {x : Int32} {I : Nat → Nat → Int32} : FR5 nr I (aT5 I x) := ⟨fun c _ c2 _ _ _ => aT_ne c2, by rw [aT_ne (by decide)], fun k hk => aT_54 hk, fun j _ => by rw [aT_ne (by decide)], fun x _ => by rw [aT_ne (by decide), aT_ne (by decide)]; exact ⟨rfl, rfl⟩⟩
theorem FR5_F {nr s : Nat} {c : Int32} {I : Nat → Nat → Int32} : FR5 nr I (aF I c s) := ⟨fun c c1 _ _ _ _ => u2_ne c1, by unfold aF; simp (decide := true) only [u2_same, u2_ne, u2_u2, upd_same, upd_ne, mE, u2_dyn, dyn_u2, dyn_hi, u2_hi, u2_hj, u2_dynj, u2_dd, u2_d0, u2_0d], fun k _ => by unfold aF; simp (decide := true) only [u2_same, u2_ne, u2_u2, upd_same, upd_ne, mE, u2_dyn, dyn_u2, dyn_hi, u2_hi, u2_hj, u2_dynj, u2_dd, u2_d0, u2_0d], fun j _ => by unfold aF; simp (decide := true) only [u2_same, u2_ne, u2_u2, upd_same, upd_ne, mE, u2_dyn, dyn_u2, dyn_hi, u2_hi, u2_hj, u2_dynj, u2_dd, u2_d0, u2_0d], fun x _ => by unfold aF; simp (decide := true) only [u2_same, u2_ne, u2_u2, upd_same, upd_ne, mE, u2_dyn, dyn_u2, dyn_hi, u2_hi, u2_hj, u2_dynj, u2_dd, u2_d0, u2_0d]⟩
theorem FR5_L {nr k : Nat} {who sh : Int32} {I : Nat → Nat → Int32} : FR5 nr I (aL4 nr k who sh I) := by
  refine ⟨fun c _ _ c3 c4 c5 => aL_ne c3 c4 c5, by rw [aL_ne (by decide) (by decide) (by decide)], fun k _ => by rw [aL_ne (by decide) (by decide) (by decide)], fun j hj => ?_, fun x hx => ?_⟩
  · unfold aL4
    rw [u2_same, upd_ne hj]
  · unfold aL4
    simp (decide := true) only [u2_same, u2_ne, u2_u2, upd_same, upd_ne, mE, u2_dyn, dyn_u2, dyn_hi, u2_hi, u2_hj, u2_dynj, u2_dd, u2_d0, u2_0d]
    rw [upd_ne (by omega), upd_ne (by omega)]
    exact ⟨rfl, rfl⟩
section RGT
variable {b : Nat} {F : Nat → Option AE} {D E : Nat → Option KD} {I : Nat → Nat → Int32} {L : Nat → Nat → Int64} {P : Nat → Nat → Option Nat} {nx us : Nat}
theorem X_addL {nr k : Nat} (who sh : Int32) (hr : nr ≤ 8) (hk : k < 8) (h1 : I 54 1 = Int32.ofNat nr) (h5 : I 55 nr = Int32.ofNat k) : f_X5_addLine (ad b 54) who sh (lay b F E I L P nx us) = some (lay b F E (aL4 nr k who sh I) L P nx us) := by
  have e1 : iN (Int32.ofNat nr) 9 = some nr := iN_oN (by omega) (by omega)
  have e2 : Int32.ofNat nr * 8 + Int32.ofNat k = Int32.ofNat (8 * nr + k) := by rw [ix8, oN_add]
  have e3 := oN_neg (w := 8 * nr + k) (by omega)
  have e4 : (Int32.ofNat 72 ≤ Int32.ofNat (8 * nr + k)) = False := oN_leF (c := 72) (by omega) (by omega)
  have e5 : iN (Int32.ofNat (8 * nr + k)) 72 = some (8 * nr + k) := iN_oN (by omega) (by omega)
  unfold aL4
  simp (decide := true) only [f_X5_addLine_58, f_X5_addLine, h1, e1, h5, e2, e3, e4, e5, oN_succ, isO_s, gI_s, gA_s, gL_s, pI_s, pZ_s, pL_s, aI_s, aL_s, aN_s, aQ_s, sI_s, sL_s, cr, LNs, Option.map_some, Option.map_none, Option.bind_some, b2, tr, lt, if_true, if_false, ckZ, X_within, M_in, inR_z, X_refuse, X_tell, X_deny, X_grant, M_refused, M_denied, M_done, M_granted, u2_same, u2_ne, u2_u2, upd_same, upd_ne, aW0, ixR_z, ixR_1, M_isWall, M_isPainter, M_isWork, X_has4, X_has10, X_at, or_false, false_or, or_true, true_or, not_true, not_false_iff, Option.isSome_some, isO_d, gI_d, gA_d, pI_d, ne_eq, not_false_eq_true, u2_hi, u2_hj, u2_dyn, u2_dynj, Nat.reduceAdd, mX_r, mX_rD, mX_rDj, mM_r, mX_u, mX_uM, mX_uD, mX_uDj, mM_u, mM_uX, mM_uD, mM_uDj, u2_dd, u2_d0, u2_0d]
/-- what the class shows when it has read -/
def RX (nr : Nat) (t : RW) (n : Nat) (o : ROut) (I : Nat → Nat → Int32) : Prop := match o with
  | .inl (c, j) => I 40 5 = c ∧ I 40 6 = Int32.ofNat (pl t n j)
  | .inr (k, w, p) => I 40 5 = 0 ∧ k ≤ 8 ∧ I 55 nr = Int32.ofNat k ∧ ∀ l, l < k → I 56 (8 * nr + l) = w l ∧ I 57 (8 * nr + l) = p l
end RGT
