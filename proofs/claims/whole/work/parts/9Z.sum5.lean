/-! ===== drawing: the class's deeds and signs ===== -/
def VL (v : Int32) : Prop := v = -1 ∨ ∃ j, j < 1000 ∧ v = Int32.ofNat j
theorem sh_v : ∀ j, j < 1000 → aW 3 (Int32.ofNat j).toInt16.toInt32 = Int32.ofNat j := by decide +kernel
theorem sh_m : aW 3 (-1 : Int32).toInt16.toInt32 = -1 := by decide
theorem VL_w {v : Int32} (h : VL v) : aW 3 v.toInt16.toInt32 = v := by
  rcases h with rfl | ⟨j, hj, rfl⟩
  · exact sh_m
  · exact sh_v j hj
/-- rows of deeds hold what fits them -/
def TYp (I : Nat → Nat → Int32) : Prop := ∀ k, fits (aT 1) (.int (I 46 k)) = true ∧ fits (aT 3) (.int (I 47 k)) = true ∧ fits (aT 3) (.int (I 48 k)) = true
theorem fb_d : ∀ j, j < 100 → fits (aT 1) (.int (Int32.ofNat j)) = true := by decide +kernel
theorem fs_v : ∀ j, j < 1000 → fits (aT 3) (.int (Int32.ofNat j)) = true := by decide +kernel
theorem VL_f {v : Int32} (h : VL v) : fits (aT 3) (.int v) = true := by
  rcases h with rfl | ⟨j, hj, rfl⟩
  · decide
  · exact fs_v j hj
theorem TYp.fr {I J : Nat → Nat → Int32} (h1 : J 46 = I 46) (h2 : J 47 = I 47) (h3 : J 48 = I 48) (h : TYp I) : TYp J := fun k => by rw [h1, h2, h3]; exact h k
theorem TYp.wr {I J : Nat → Nat → Int32} (h1 : ∀ k, J 46 k = I 46 k ∨ fits (aT 1) (.int (J 46 k)) = true) (h2 : ∀ k, J 47 k = I 47 k ∨ fits (aT 3) (.int (J 47 k)) = true) (h3 : ∀ k, J 48 k = I 48 k ∨ fits (aT 3) (.int (J 48 k)) = true) (h : TYp I) : TYp J := fun k => by
  refine ⟨?_, ?_, ?_⟩
  · rcases h1 k with q | q
    · rw [q]; exact (h k).1
    · exact q
  · rcases h2 k with q | q
    · rw [q]; exact (h k).2.1
    · exact q
  · rcases h3 k with q | q
    · rw [q]; exact (h k).2.2
    · exact q
theorem upd_or {f : RW} {i : Nat} {v : Int32} {t : Nat} (h : fits (aT t) (.int v) = true) (k : Nat) : upd f i v k = f k ∨ fits (aT t) (.int (upd f i v k)) = true := by
  by_cases hk : k = i
  · subst hk; rw [upd_same]; exact Or.inr h
  · exact Or.inl (upd_ne hk)
theorem by_d : ∀ j, j < 100 → aW 1 (Int32.ofNat j).toInt8.toInt32 = Int32.ofNat j := by decide +kernel
/-- a deed put -/
def xPt (dl : Nat) (d v : Int32) (I : Nat → Nat → Int32) : Nat → Nat → Int32 := u2 (u2 (u2 (u2 I 46 (upd (I 46) dl d)) 47 (upd (I 47) dl v)) 48 (upd (I 48) dl 0)) 45 (upd (I 45) 4 (Int32.ofNat (dl + 1)))
theorem xPt_ne {dl c : Nat} {d v : Int32} {I : Nat → Nat → Int32} (h1 : c ≠ 45) (h2 : c ≠ 46) (h3 : c ≠ 47) (h4 : c ≠ 48) : xPt dl d v I c = I c := by unfold xPt; rw [u2_ne h1, u2_ne h4, u2_ne h3, u2_ne h2]
theorem xPt_r {dl : Nat} {d v : Int32} {I : Nat → Nat → Int32} : xPt dl d v I 45 = upd (I 45) 4 (Int32.ofNat (dl + 1)) ∧ xPt dl d v I 46 = upd (I 46) dl d ∧ xPt dl d v I 47 = upd (I 47) dl v ∧ xPt dl d v I 48 = upd (I 48) dl 0 := by
  unfold xPt
  simp (decide := true) only [u2_same, u2_ne, u2_u2, upd_same, upd_ne, mE, u2_dyn, dyn_u2, dyn_hi, u2_hi, u2_hj, u2_dynj, u2_dd, u2_d0, u2_0d]
  done
/-- what the class does in a sum leaves sc signs and dl deeds alone -/
def FXs (sc dl : Nat) (I J : Nat → Nat → Int32) : Prop := (∀ c, c ≠ 40 → c ≠ 44 → c ≠ 45 → c ≠ 46 → c ≠ 47 → c ≠ 48 → c ≠ 51 → J c = I c) ∧ J 40 3 = I 40 3 ∧ (∀ k, k ≠ 3 → k ≠ 7 → J 44 k = I 44 k) ∧ (∀ k, k ≠ 4 → J 45 k = I 45 k) ∧ (∀ j, j < dl → J 46 j = I 46 j ∧ J 47 j = I 47 j ∧ J 48 j = I 48 j) ∧ (∀ j, j < sc → J 51 j = I 51 j) ∧ (TYp I → TYp J)
theorem FXs.refl {sc dl : Nat} {I : Nat → Nat → Int32} : FXs sc dl I I := ⟨fun _ _ _ _ _ _ _ _ => rfl, rfl, fun _ _ _ => rfl, fun _ _ => rfl, fun _ _ => ⟨rfl, rfl, rfl⟩, fun _ _ => rfl, fun h => h⟩
theorem FXs.trans {sc dl sc2 dl2 : Nat} {I J K : Nat → Nat → Int32} (h : FXs sc dl I J) (h' : FXs sc2 dl2 J K) (hs : sc ≤ sc2) (hd : dl ≤ dl2) : FXs sc dl I K := ⟨fun c c1 c2 c3 c4 c5 c6 c7 => (h'.1 c c1 c2 c3 c4 c5 c6 c7).trans (h.1 c c1 c2 c3 c4 c5 c6 c7), h'.2.1.trans h.2.1, fun k k1 k2 => (h'.2.2.1 k k1 k2).trans (h.2.2.1 k k1 k2), fun k hk => (h'.2.2.2.1 k hk).trans (h.2.2.2.1 k hk), fun j hj => ⟨(h'.2.2.2.2.1 j (by omega)).1.trans (h.2.2.2.2.1 j hj).1, (h'.2.2.2.2.1 j (by omega)).2.1.trans (h.2.2.2.2.1 j hj).2.1, (h'.2.2.2.2.1 j (by omega)).2.2.trans (h.2.2.2.2.1 j hj).2.2⟩, fun j hj => (h'.2.2.2.2.2.1 j (by omega)).trans (h.2.2.2.2.2.1 j hj), fun q => h'.2.2.2.2.2.2 (h.2.2.2.2.2.2 q)⟩
theorem FXs_P {sc dl0 dl : Nat} {d v : Int32} {I : Nat → Nat → Int32} (hd : fits (aT 1) (.int d) = true) (hv : VL v) (h : dl0 ≤ dl) : FXs sc dl0 I (xPt dl d v I) := by
  refine ⟨fun c _ _ c3 c4 c5 c6 _ => xPt_ne c3 c4 c5 c6, by rw [xPt_ne (by decide) (by decide) (by decide) (by decide)], fun k _ _ => by rw [xPt_ne (by decide) (by decide) (by decide) (by decide)], fun k hk => by rw [xPt_r.1, upd_ne hk], fun j hj => ?_, fun j _ => by rw [xPt_ne (by decide) (by decide) (by decide) (by decide)], TYp.wr (by rw [xPt_r.2.1]; exact upd_or hd) (by rw [xPt_r.2.2.1]; exact upd_or (VL_f hv)) (by rw [xPt_r.2.2.2]; exact upd_or (by decide))⟩
  rw [xPt_r.2.1, xPt_r.2.2.1, xPt_r.2.2.2, upd_ne (by omega), upd_ne (by omega), upd_ne (by omega)]
  exact ⟨rfl, rfl, rfl⟩
theorem FXs_V {sc dl j : Nat} {I : Nat → Nat → Int32} : FXs sc dl I (aVv I j) := ⟨fun c c1 _ _ _ _ _ _ => aVv_ne c1, aVv_40 (by decide), fun k _ _ => by rw [aVv_ne (by decide)], fun k _ => by rw [aVv_ne (by decide)], fun j _ => by rw [aVv_ne (by decide), aVv_ne (by decide), aVv_ne (by decide)]; exact ⟨rfl, rfl, rfl⟩, fun j _ => by rw [aVv_ne (by decide)], TYp.fr (aVv_ne (by decide)) (aVv_ne (by decide)) (aVv_ne (by decide))⟩
theorem FXs_F {sc dl s : Nat} {c : Int32} {I : Nat → Nat → Int32} : FXs sc dl I (aF I c s) := by
  unfold aF
  exact ⟨fun c c1 _ _ _ _ _ _ => u2_ne c1, by simp (decide := true) only [u2_same, u2_ne, u2_u2, upd_same, upd_ne, mE, u2_dyn, dyn_u2, dyn_hi, u2_hi, u2_hj, u2_dynj, u2_dd, u2_d0, u2_0d], fun k _ _ => by simp (decide := true) only [u2_same, u2_ne, u2_u2, upd_same, upd_ne, mE, u2_dyn, dyn_u2, dyn_hi, u2_hi, u2_hj, u2_dynj, u2_dd, u2_d0, u2_0d], fun k _ => by simp (decide := true) only [u2_same, u2_ne, u2_u2, upd_same, upd_ne, mE, u2_dyn, dyn_u2, dyn_hi, u2_hi, u2_hj, u2_dynj, u2_dd, u2_d0, u2_0d], fun j _ => by simp (decide := true) only [u2_same, u2_ne, u2_u2, upd_same, upd_ne, mE, u2_dyn, dyn_u2, dyn_hi, u2_hi, u2_hj, u2_dynj, u2_dd, u2_d0, u2_0d], fun j _ => by simp (decide := true) only [u2_same, u2_ne, u2_u2, upd_same, upd_ne, mE, u2_dyn, dyn_u2, dyn_hi, u2_hi, u2_hj, u2_dynj, u2_dd, u2_d0, u2_0d], TYp.fr (u2_ne (by decide)) (u2_ne (by decide)) (u2_ne (by decide))⟩
/-- the reader's counts: parts, signs held -/
def xK (I : Nat → Nat → Int32) (k : Nat) (x : Int32) : Nat → Nat → Int32 := u2 I 44 (upd (I 44) k x)
theorem FXs_K {sc dl k : Nat} {x : Int32} {I : Nat → Nat → Int32} (h : k = 3 ∨ k = 7) : FXs sc dl I (xK I k x) := by
  unfold xK
  exact ⟨fun c _ c2 _ _ _ _ _ => u2_ne c2, by simp (decide := true) only [u2_same, u2_ne, u2_u2, upd_same, upd_ne, mE, u2_dyn, dyn_u2, dyn_hi, u2_hi, u2_hj, u2_dynj, u2_dd, u2_d0, u2_0d], fun k' k1 k2 => by rw [u2_same, upd_ne (by omega)], fun k _ => by simp (decide := true) only [u2_same, u2_ne, u2_u2, upd_same, upd_ne, mE, u2_dyn, dyn_u2, dyn_hi, u2_hi, u2_hj, u2_dynj, u2_dd, u2_d0, u2_0d], fun j _ => by simp (decide := true) only [u2_same, u2_ne, u2_u2, upd_same, upd_ne, mE, u2_dyn, dyn_u2, dyn_hi, u2_hi, u2_hj, u2_dynj, u2_dd, u2_d0, u2_0d], fun j _ => by simp (decide := true) only [u2_same, u2_ne, u2_u2, upd_same, upd_ne, mE, u2_dyn, dyn_u2, dyn_hi, u2_hi, u2_hj, u2_dynj, u2_dd, u2_d0, u2_0d], TYp.fr (u2_ne (by decide)) (u2_ne (by decide)) (u2_ne (by decide))⟩
def XSt (t : RW) (n la i pa sc dl : Nat) (I : Nat → Nat → Int32) (L : Nat → Nat → Int64) : Prop := TX t n la I L ∧ i ≤ la ∧ I 40 4 = Int32.ofNat i ∧ I 40 5 = 0 ∧ I 44 3 = Int32.ofNat pa ∧ I 44 7 = Int32.ofNat sc ∧ I 45 4 = Int32.ofNat dl
theorem XSt.put {t : RW} {n la i pa sc dl : Nat} {d v : Int32} {I : Nat → Nat → Int32} {L : Nat → Nat → Int64} (h : XSt t n la i pa sc dl I L) : XSt t n la i pa sc (dl + 1) (xPt dl d v I) L := by
  obtain ⟨h1, h2, h3, h4, h5, h6, h7⟩ := h
  have e : ∀ c, c ≠ 45 → c ≠ 46 → c ≠ 47 → c ≠ 48 → xPt dl d v I c = I c := fun c a b c d => xPt_ne a b c d
  refine ⟨h1.fr (by rw [e 40 (by decide) (by decide) (by decide) (by decide)]) (e 41 (by decide) (by decide) (by decide) (by decide)) (e 42 (by decide) (by decide) (by decide) (by decide)) (e 148 (by decide) (by decide) (by decide) (by decide)), h2, ?_, ?_, ?_, ?_, ?_⟩
  · rw [e 40 (by decide) (by decide) (by decide) (by decide)]; exact h3
  · rw [e 40 (by decide) (by decide) (by decide) (by decide)]; exact h4
  · rw [e 44 (by decide) (by decide) (by decide) (by decide)]; exact h5
  · rw [e 44 (by decide) (by decide) (by decide) (by decide)]; exact h6
  · rw [xPt_r.1, upd_same]
theorem XSt.adv {t : RW} {n la i pa sc dl : Nat} {I : Nat → Nat → Int32} {L : Nat → Nat → Int64} (h : XSt t n la i pa sc dl I L) (hi : i < la) : XSt t n la (i + 1) pa sc dl (aVv I (i + 1)) L := by
  obtain ⟨h1, h2, h3, h4, h5, h6, h7⟩ := h
  exact ⟨aVv_TX h1, by omega, aVv_4, by rw [aVv_40 (by decide)]; exact h4, by rw [aVv_ne (by decide)]; exact h5, by rw [aVv_ne (by decide)]; exact h6, by rw [aVv_ne (by decide)]; exact h7⟩
theorem XSt.k3 {t : RW} {n la i pa sc dl x : Nat} {I : Nat → Nat → Int32} {L : Nat → Nat → Int64} (h : XSt t n la i pa sc dl I L) : XSt t n la i x sc dl (xK I 3 (Int32.ofNat x)) L := by
  obtain ⟨h1, h2, h3, h4, h5, h6, h7⟩ := h
  unfold xK
  exact ⟨h1.fr (by simp (decide := true) only [u2_same, u2_ne, u2_u2, upd_same, upd_ne, mE, u2_dyn, dyn_u2, dyn_hi, u2_hi, u2_hj, u2_dynj, u2_dd, u2_d0, u2_0d]) (by simp (decide := true) only [u2_same, u2_ne, u2_u2, upd_same, upd_ne, mE, u2_dyn, dyn_u2, dyn_hi, u2_hi, u2_hj, u2_dynj, u2_dd, u2_d0, u2_0d]) (by simp (decide := true) only [u2_same, u2_ne, u2_u2, upd_same, upd_ne, mE, u2_dyn, dyn_u2, dyn_hi, u2_hi, u2_hj, u2_dynj, u2_dd, u2_d0, u2_0d]) (by simp (decide := true) only [u2_same, u2_ne, u2_u2, upd_same, upd_ne, mE, u2_dyn, dyn_u2, dyn_hi, u2_hi, u2_hj, u2_dynj, u2_dd, u2_d0, u2_0d]), h2, by simp (decide := true) only [u2_same, u2_ne, u2_u2, upd_same, upd_ne, mE, u2_dyn, dyn_u2, dyn_hi, u2_hi, u2_hj, u2_dynj, u2_dd, u2_d0, u2_0d]; exact h3, by simp (decide := true) only [u2_same, u2_ne, u2_u2, upd_same, upd_ne, mE, u2_dyn, dyn_u2, dyn_hi, u2_hi, u2_hj, u2_dynj, u2_dd, u2_d0, u2_0d]; exact h4, by simp (decide := true) only [u2_same, u2_ne, u2_u2, upd_same, upd_ne, mE, u2_dyn, dyn_u2, dyn_hi, u2_hi, u2_hj, u2_dynj, u2_dd, u2_d0, u2_0d], by simp (decide := true) only [u2_same, u2_ne, u2_u2, upd_same, upd_ne, mE, u2_dyn, dyn_u2, dyn_hi, u2_hi, u2_hj, u2_dynj, u2_dd, u2_d0, u2_0d]; exact h6, by simp (decide := true) only [u2_same, u2_ne, u2_u2, upd_same, upd_ne, mE, u2_dyn, dyn_u2, dyn_hi, u2_hi, u2_hj, u2_dynj, u2_dd, u2_d0, u2_0d]; exact h7⟩
theorem XSt.k7 {t : RW} {n la i pa sc dl x : Nat} {I : Nat → Nat → Int32} {L : Nat → Nat → Int64} (h : XSt t n la i pa sc dl I L) : XSt t n la i pa x dl (xK I 7 (Int32.ofNat x)) L := by
  obtain ⟨h1, h2, h3, h4, h5, h6, h7⟩ := h
  unfold xK
  exact ⟨h1.fr (by simp (decide := true) only [u2_same, u2_ne, u2_u2, upd_same, upd_ne, mE, u2_dyn, dyn_u2, dyn_hi, u2_hi, u2_hj, u2_dynj, u2_dd, u2_d0, u2_0d]) (by simp (decide := true) only [u2_same, u2_ne, u2_u2, upd_same, upd_ne, mE, u2_dyn, dyn_u2, dyn_hi, u2_hi, u2_hj, u2_dynj, u2_dd, u2_d0, u2_0d]) (by simp (decide := true) only [u2_same, u2_ne, u2_u2, upd_same, upd_ne, mE, u2_dyn, dyn_u2, dyn_hi, u2_hi, u2_hj, u2_dynj, u2_dd, u2_d0, u2_0d]) (by simp (decide := true) only [u2_same, u2_ne, u2_u2, upd_same, upd_ne, mE, u2_dyn, dyn_u2, dyn_hi, u2_hi, u2_hj, u2_dynj, u2_dd, u2_d0, u2_0d]), h2, by simp (decide := true) only [u2_same, u2_ne, u2_u2, upd_same, upd_ne, mE, u2_dyn, dyn_u2, dyn_hi, u2_hi, u2_hj, u2_dynj, u2_dd, u2_d0, u2_0d]; exact h3, by simp (decide := true) only [u2_same, u2_ne, u2_u2, upd_same, upd_ne, mE, u2_dyn, dyn_u2, dyn_hi, u2_hi, u2_hj, u2_dynj, u2_dd, u2_d0, u2_0d]; exact h4, by simp (decide := true) only [u2_same, u2_ne, u2_u2, upd_same, upd_ne, mE, u2_dyn, dyn_u2, dyn_hi, u2_hi, u2_hj, u2_dynj, u2_dd, u2_d0, u2_0d]; exact h5, by simp (decide := true) only [u2_same, u2_ne, u2_u2, upd_same, upd_ne, mE, u2_dyn, dyn_u2, dyn_hi, u2_hi, u2_hj, u2_dynj, u2_dd, u2_d0, u2_0d], by simp (decide := true) only [u2_same, u2_ne, u2_u2, upd_same, upd_ne, mE, u2_dyn, dyn_u2, dyn_hi, u2_hi, u2_hj, u2_dynj, u2_dd, u2_d0, u2_0d]; exact h7⟩
/-- a sign pushed -/
def xHd (sc : Nat) (c : Int32) (I : Nat → Nat → Int32) : Nat → Nat → Int32 := u2 (u2 I 51 (upd (I 51) sc c)) 44 (upd (I 44) 7 (Int32.ofNat (sc + 1)))
theorem XSt.hd {t : RW} {n la i pa sc dl : Nat} {c : Int32} {I : Nat → Nat → Int32} {L : Nat → Nat → Int64} (h : XSt t n la i pa sc dl I L) : XSt t n la i pa (sc + 1) dl (xHd sc c I) L := by
  obtain ⟨h1, h2, h3, h4, h5, h6, h7⟩ := h
  unfold xHd
  exact ⟨h1.fr (by simp (decide := true) only [u2_same, u2_ne, u2_u2, upd_same, upd_ne, mE, u2_dyn, dyn_u2, dyn_hi, u2_hi, u2_hj, u2_dynj, u2_dd, u2_d0, u2_0d]) (by simp (decide := true) only [u2_same, u2_ne, u2_u2, upd_same, upd_ne, mE, u2_dyn, dyn_u2, dyn_hi, u2_hi, u2_hj, u2_dynj, u2_dd, u2_d0, u2_0d]) (by simp (decide := true) only [u2_same, u2_ne, u2_u2, upd_same, upd_ne, mE, u2_dyn, dyn_u2, dyn_hi, u2_hi, u2_hj, u2_dynj, u2_dd, u2_d0, u2_0d]) (by simp (decide := true) only [u2_same, u2_ne, u2_u2, upd_same, upd_ne, mE, u2_dyn, dyn_u2, dyn_hi, u2_hi, u2_hj, u2_dynj, u2_dd, u2_d0, u2_0d]), h2, by simp (decide := true) only [u2_same, u2_ne, u2_u2, upd_same, upd_ne, mE, u2_dyn, dyn_u2, dyn_hi, u2_hi, u2_hj, u2_dynj, u2_dd, u2_d0, u2_0d]; exact h3, by simp (decide := true) only [u2_same, u2_ne, u2_u2, upd_same, upd_ne, mE, u2_dyn, dyn_u2, dyn_hi, u2_hi, u2_hj, u2_dynj, u2_dd, u2_d0, u2_0d]; exact h4, by simp (decide := true) only [u2_same, u2_ne, u2_u2, upd_same, upd_ne, mE, u2_dyn, dyn_u2, dyn_hi, u2_hi, u2_hj, u2_dynj, u2_dd, u2_d0, u2_0d]; exact h5, by simp (decide := true) only [u2_same, u2_ne, u2_u2, upd_same, upd_ne, mE, u2_dyn, dyn_u2, dyn_hi, u2_hi, u2_hj, u2_dynj, u2_dd, u2_d0, u2_0d], by simp (decide := true) only [u2_same, u2_ne, u2_u2, upd_same, upd_ne, mE, u2_dyn, dyn_u2, dyn_hi, u2_hi, u2_hj, u2_dynj, u2_dd, u2_d0, u2_0d]; exact h7⟩
theorem FXs_H {sc sc0 dl : Nat} {c : Int32} {I : Nat → Nat → Int32} (h : sc0 ≤ sc) : FXs sc0 dl I (xHd sc c I) := by
  unfold xHd
  exact ⟨fun c _ c2 _ _ _ _ c7 => by rw [u2_ne c2, u2_ne c7], by simp (decide := true) only [u2_same, u2_ne, u2_u2, upd_same, upd_ne, mE, u2_dyn, dyn_u2, dyn_hi, u2_hi, u2_hj, u2_dynj, u2_dd, u2_d0, u2_0d], fun k k1 k2 => by simp (decide := true) only [u2_same, u2_ne, u2_u2, upd_same, upd_ne, mE, u2_dyn, dyn_u2, dyn_hi, u2_hi, u2_hj, u2_dynj, u2_dd, u2_d0, u2_0d]; exact upd_ne k2, fun k _ => by simp (decide := true) only [u2_same, u2_ne, u2_u2, upd_same, upd_ne, mE, u2_dyn, dyn_u2, dyn_hi, u2_hi, u2_hj, u2_dynj, u2_dd, u2_d0, u2_0d], fun j _ => by simp (decide := true) only [u2_same, u2_ne, u2_u2, upd_same, upd_ne, mE, u2_dyn, dyn_u2, dyn_hi, u2_hi, u2_hj, u2_dynj, u2_dd, u2_d0, u2_0d], fun j hj => by simp (decide := true) only [u2_same, u2_ne, u2_u2, upd_same, upd_ne, mE, u2_dyn, dyn_u2, dyn_hi, u2_hi, u2_hj, u2_dynj, u2_dd, u2_d0, u2_0d]; exact upd_ne (by omega), TYp.fr (by rw [u2_ne (by decide), u2_ne (by decide)]) (by rw [u2_ne (by decide), u2_ne (by decide)]) (by rw [u2_ne (by decide), u2_ne (by decide)])⟩
def rkV (c : Int32) : Int32 := if c = 42 ∨ c = 47 then 2 else if c = 43 ∨ c = 45 then 1 else 0
/-- items against deeds -/
def itD (x : Int32) : Int32 := if x = 4 ∨ x = 5 ∨ x = 6 ∨ x = 7 then 5 else x + 1
def itV (x v : Int32) : Int32 := if x = 4 then 43 else if x = 5 then 45 else if x = 6 then 42 else if x = 7 then 47 else if x = 2 then 0 else if x = 3 then 0 else v
def SD (o f0 m : Nat) (I : Nat → Nat → Int32) (sg vv : RW) : Prop := ∀ j, j < m → I 46 (o + j) = itD (sg (f0 + j)) ∧ I 47 (o + j) = itV (sg (f0 + j)) (vv (f0 + j))
def STK (bs : Nat) : List Int32 → RW → Prop
  | [], _ => True
  | x :: xs, r => r (bs + xs.length) = itV x 0 ∧ STK bs xs r
def ITM (k : Nat) : List Int32 → RW → Prop
  | [], _ => True
  | x :: xs, sg => sg k = x ∧ ITM (k + 1) xs sg
theorem itV_op {x v : Int32} (h : x = 4 ∨ x = 5 ∨ x = 6 ∨ x = 7) : itV x v = itV x 0 ∧ itD x = 5 ∧ VL (itV x 0) := by
  rcases h with rfl | rfl | rfl | rfl
  · exact ⟨rfl, rfl, Or.inr ⟨43, by decide, rfl⟩⟩
  · exact ⟨rfl, rfl, Or.inr ⟨45, by decide, rfl⟩⟩
  · exact ⟨rfl, rfl, Or.inr ⟨42, by decide, rfl⟩⟩
  · exact ⟨rfl, rfl, Or.inr ⟨47, by decide, rfl⟩⟩
theorem STK_cg {bs : Nat} {r r' : RW} : ∀ (xs : List Int32), (∀ j, bs ≤ j → j < bs + xs.length → r' j = r j) → STK bs xs r → STK bs xs r' := by
  intro xs
  induction xs with
  | nil => intro _ _; trivial
  | cons x xs ih =>
    intro h hs
    have hl : (x :: xs).length = xs.length + 1 := rfl
    exact ⟨by rw [h (bs + xs.length) (by omega) (by omega)]; exact hs.1, ih (fun j h1 h2 => h j h1 (by omega)) hs.2⟩
section SUM5
variable {b : Nat} {F : Nat → Option AE} {D E : Nat → Option KD} {I : Nat → Nat → Int32} {L : Nat → Nat → Int64} {P : Nat → Nat → Option Nat} {nx us : Nat}
theorem X_dput {dl : Nat} (d : Nat) {v : Int32} (hd : d < 100) (hv : VL v) (h : I 45 4 = Int32.ofNat dl) (hdl : dl < 360) : f_X1_put (ad b 45) (Int32.ofNat d) v (lay b F E I L P nx us) = some (lay b F E (xPt dl (Int32.ofNat d) v I) L P nx us) := by
  have e1 : (Int32.ofNat 360 ≤ Int32.ofNat dl) = False := oN_leF (c := 360) hdl (by omega)
  have e2 : iN (Int32.ofNat dl) 360 = some dl := iN_oN hdl (by omega)
  have e3 := by_d d hd
  have e4 := VL_w hv
  have e5 : aW 3 0 = 0 := by decide
  unfold xPt
  simp (decide := true) only [f_X1_put_54, f_X1_put, h, e1, e2, e3, e4, e5, oN_succ, isO_s, gI_s, gA_s, gL_s, pI_s, pZ_s, pL_s, aI_s, aL_s, aN_s, aQ_s, sI_s, sL_s, cr, LNs, Option.map_some, Option.map_none, Option.bind_some, b2, tr, lt, if_true, if_false, ckZ, X_within, M_in, inR_z, X_refuse, X_tell, X_deny, X_grant, M_refused, M_denied, M_done, M_granted, u2_same, u2_ne, u2_u2, upd_same, upd_ne, aW0, ixR_z, ixR_1, M_isWall, M_isPainter, M_isWork, X_has4, X_has10, X_at, or_false, false_or, or_true, true_or, not_true, not_false_iff, Option.isSome_some, isO_d, gI_d, gA_d, pI_d, ne_eq, not_false_eq_true, u2_hi, u2_hj, u2_dyn, u2_dynj, Nat.reduceAdd, mX_r, mX_rD, mX_rDj, mM_r, mX_u, mX_uM, mX_uD, mX_uDj, mM_u, mM_uX, mM_uD, mM_uDj, u2_dd, u2_d0, u2_0d]
theorem X_rank (c : Int32) (h : AH) : f_X2_rankOf c h = some (rkV c, h) := by
  unfold rkV
  by_cases h1 : c = 42
  · simp (decide := true) only [f_X2_rankOf_31, f_X2_rankOf_26, f_X2_rankOf_12, f_X2_rankOf, h1, isO_s, gI_s, gA_s, gL_s, pI_s, pZ_s, pL_s, aI_s, aL_s, aN_s, aQ_s, sI_s, sL_s, cr, LNs, Option.map_some, Option.map_none, Option.bind_some, b2, tr, lt, if_true, if_false, ckZ, X_within, M_in, inR_z, X_refuse, X_tell, X_deny, X_grant, M_refused, M_denied, M_done, M_granted, u2_same, u2_ne, u2_u2, upd_same, upd_ne, aW0, ixR_z, ixR_1, M_isWall, M_isPainter, M_isWork, X_has4, X_has10, X_at, or_false, false_or, or_true, true_or, not_true, not_false_iff, Option.isSome_some, isO_d, gI_d, gA_d, pI_d, ne_eq, not_false_eq_true, u2_hi, u2_hj, u2_dyn, u2_dynj, Nat.reduceAdd, mX_r, mX_rD, mX_rDj, mM_r, mX_u, mX_uM, mX_uD, mX_uDj, mM_u, mM_uX, mM_uD, mM_uDj, u2_dd, u2_d0, u2_0d]
  · by_cases h2 : c = 47
    · simp (decide := true) only [f_X2_rankOf_31, f_X2_rankOf_26, f_X2_rankOf_12, f_X2_rankOf, h1, h2, isO_s, gI_s, gA_s, gL_s, pI_s, pZ_s, pL_s, aI_s, aL_s, aN_s, aQ_s, sI_s, sL_s, cr, LNs, Option.map_some, Option.map_none, Option.bind_some, b2, tr, lt, if_true, if_false, ckZ, X_within, M_in, inR_z, X_refuse, X_tell, X_deny, X_grant, M_refused, M_denied, M_done, M_granted, u2_same, u2_ne, u2_u2, upd_same, upd_ne, aW0, ixR_z, ixR_1, M_isWall, M_isPainter, M_isWork, X_has4, X_has10, X_at, or_false, false_or, or_true, true_or, not_true, not_false_iff, Option.isSome_some, isO_d, gI_d, gA_d, pI_d, ne_eq, not_false_eq_true, u2_hi, u2_hj, u2_dyn, u2_dynj, Nat.reduceAdd, mX_r, mX_rD, mX_rDj, mM_r, mX_u, mX_uM, mX_uD, mX_uDj, mM_u, mM_uX, mM_uD, mM_uDj, u2_dd, u2_d0, u2_0d]
    · by_cases h3 : c = 43
      · simp (decide := true) only [f_X2_rankOf_31, f_X2_rankOf_26, f_X2_rankOf_12, f_X2_rankOf, h1, h2, h3, isO_s, gI_s, gA_s, gL_s, pI_s, pZ_s, pL_s, aI_s, aL_s, aN_s, aQ_s, sI_s, sL_s, cr, LNs, Option.map_some, Option.map_none, Option.bind_some, b2, tr, lt, if_true, if_false, ckZ, X_within, M_in, inR_z, X_refuse, X_tell, X_deny, X_grant, M_refused, M_denied, M_done, M_granted, u2_same, u2_ne, u2_u2, upd_same, upd_ne, aW0, ixR_z, ixR_1, M_isWall, M_isPainter, M_isWork, X_has4, X_has10, X_at, or_false, false_or, or_true, true_or, not_true, not_false_iff, Option.isSome_some, isO_d, gI_d, gA_d, pI_d, ne_eq, not_false_eq_true, u2_hi, u2_hj, u2_dyn, u2_dynj, Nat.reduceAdd, mX_r, mX_rD, mX_rDj, mM_r, mX_u, mX_uM, mX_uD, mX_uDj, mM_u, mM_uX, mM_uD, mM_uDj, u2_dd, u2_d0, u2_0d]
      · by_cases h4 : c = 45
        · simp (decide := true) only [f_X2_rankOf_31, f_X2_rankOf_26, f_X2_rankOf_12, f_X2_rankOf, h1, h2, h3, h4, isO_s, gI_s, gA_s, gL_s, pI_s, pZ_s, pL_s, aI_s, aL_s, aN_s, aQ_s, sI_s, sL_s, cr, LNs, Option.map_some, Option.map_none, Option.bind_some, b2, tr, lt, if_true, if_false, ckZ, X_within, M_in, inR_z, X_refuse, X_tell, X_deny, X_grant, M_refused, M_denied, M_done, M_granted, u2_same, u2_ne, u2_u2, upd_same, upd_ne, aW0, ixR_z, ixR_1, M_isWall, M_isPainter, M_isWork, X_has4, X_has10, X_at, or_false, false_or, or_true, true_or, not_true, not_false_iff, Option.isSome_some, isO_d, gI_d, gA_d, pI_d, ne_eq, not_false_eq_true, u2_hi, u2_hj, u2_dyn, u2_dynj, Nat.reduceAdd, mX_r, mX_rD, mX_rDj, mM_r, mX_u, mX_uM, mX_uD, mX_uDj, mM_u, mM_uX, mM_uD, mM_uDj, u2_dd, u2_d0, u2_0d]
        · simp (decide := true) only [f_X2_rankOf_31, f_X2_rankOf_26, f_X2_rankOf_12, f_X2_rankOf, h1, h2, h3, h4, isO_s, gI_s, gA_s, gL_s, pI_s, pZ_s, pL_s, aI_s, aL_s, aN_s, aQ_s, sI_s, sL_s, cr, LNs, Option.map_some, Option.map_none, Option.bind_some, b2, tr, lt, if_true, if_false, ckZ, X_within, M_in, inR_z, X_refuse, X_tell, X_deny, X_grant, M_refused, M_denied, M_done, M_granted, u2_same, u2_ne, u2_u2, upd_same, upd_ne, aW0, ixR_z, ixR_1, M_isWall, M_isPainter, M_isWork, X_has4, X_has10, X_at, or_false, false_or, or_true, true_or, not_true, not_false_iff, Option.isSome_some, isO_d, gI_d, gA_d, pI_d, ne_eq, not_false_eq_true, u2_hi, u2_hj, u2_dyn, u2_dynj, Nat.reduceAdd, mX_r, mX_rD, mX_rDj, mM_r, mX_u, mX_uM, mX_uD, mX_uDj, mM_u, mM_uX, mM_uD, mM_uDj, u2_dd, u2_d0, u2_0d]
theorem X_hold {sc : Nat} (c : Int32) (h : I 44 7 = Int32.ofNat sc) (hs : sc < 21) : f_X2_holdSign (ad b 44) c (lay b F E I L P nx us) = some (lay b F E (xHd sc c I) L P nx us) := by
  have e1 : (Int32.ofNat 21 ≤ Int32.ofNat sc) = False := oN_leF (c := 21) hs (by omega)
  have e2 : iN (Int32.ofNat sc) 21 = some sc := iN_oN hs (by omega)
  unfold xHd
  simp (decide := true) only [f_X2_holdSign_32, f_X2_holdSign, h, e1, e2, oN_succ, isO_s, gI_s, gA_s, gL_s, pI_s, pZ_s, pL_s, aI_s, aL_s, aN_s, aQ_s, sI_s, sL_s, cr, LNs, Option.map_some, Option.map_none, Option.bind_some, b2, tr, lt, if_true, if_false, ckZ, X_within, M_in, inR_z, X_refuse, X_tell, X_deny, X_grant, M_refused, M_denied, M_done, M_granted, u2_same, u2_ne, u2_u2, upd_same, upd_ne, aW0, ixR_z, ixR_1, M_isWall, M_isPainter, M_isWork, X_has4, X_has10, X_at, or_false, false_or, or_true, true_or, not_true, not_false_iff, Option.isSome_some, isO_d, gI_d, gA_d, pI_d, ne_eq, not_false_eq_true, u2_hi, u2_hj, u2_dyn, u2_dynj, Nat.reduceAdd, mX_r, mX_rD, mX_rDj, mM_r, mX_u, mX_uM, mX_uD, mX_uDj, mM_u, mM_uX, mM_uD, mM_uDj, u2_dd, u2_d0, u2_0d]
/-- the held signs of a rank are settled -/
theorem X_settle {t : RW} {n la i pa bs o f0 : Nat} {sg vv : RW} (r : Int32) (hr : 0 < r) : ∀ (xs : List Int32) (dl : Nat) (I : Nat → Nat → Int32) (fu : Nat), xs.length < fu → XSt t n la i pa (bs + xs.length) dl I L → bs + xs.length ≤ 21 → dl + xs.length ≤ 360 → (∀ x, x ∈ xs → (x = 4 ∨ x = 5 ∨ x = 6 ∨ x = 7) ∧ ¬ rkV (itV x 0) < r) → (bs = 0 ∨ rkV (I 51 (bs - 1)) < r) → STK bs xs (I 51) → o ≤ dl → SD o f0 (dl - o) I sg vv → ITM (f0 + (dl - o)) xs sg → ∃ I', f_X2_settleSigns_0 fu (ad b 44) r (lay b F E I L P nx us) = some (lay b F E I' L P nx us) ∧ XSt t n la i pa bs (dl + xs.length) I' L ∧ FXs bs dl I I' ∧ SD o f0 (dl - o + xs.length) I' sg vv := by
  intro xs
  induction xs with
  | nil =>
    intro dl I fu hf hX h21 h360 hx hb hk ho hs hi
    obtain ⟨fu, rfl⟩ : ∃ f, fu = f + 1 := ⟨fu - 1, by omega⟩
    have h7 : I 44 7 = Int32.ofNat bs := hX.2.2.2.2.2.1
    refine ⟨I, ?_, hX, FXs.refl, hs⟩
    by_cases h0 : bs = 0
    · have e : (Int32.ofNat bs ≤ 0) = True := by rw [h0]; exact eq_true (Int32.le_refl _)
      simp (decide := true) only [f_X2_settleSigns_0, f_X2_settleSigns_55, h7, e, isO_s, gI_s, gA_s, gL_s, pI_s, pZ_s, pL_s, aI_s, aL_s, aN_s, aQ_s, sI_s, sL_s, cr, LNs, Option.map_some, Option.map_none, Option.bind_some, b2, tr, lt, if_true, if_false, ckZ, X_within, M_in, inR_z, X_refuse, X_tell, X_deny, X_grant, M_refused, M_denied, M_done, M_granted, u2_same, u2_ne, u2_u2, upd_same, upd_ne, aW0, ixR_z, ixR_1, M_isWall, M_isPainter, M_isWork, X_has4, X_has10, X_at, or_false, false_or, or_true, true_or, not_true, not_false_iff, Option.isSome_some, isO_d, gI_d, gA_d, pI_d, ne_eq, not_false_eq_true, u2_hi, u2_hj, u2_dyn, u2_dynj, Nat.reduceAdd, mX_r, mX_rD, mX_rDj, mM_r, mX_u, mX_uM, mX_uD, mX_uDj, mM_u, mM_uX, mM_uD, mM_uDj, u2_dd, u2_d0, u2_0d]
    · have hb' := hb.resolve_left h0
      have h21' : bs ≤ 21 := h21
      have e : (Int32.ofNat bs ≤ 0) = False := eq_false (fun q => by have := (oN_le (c := 0) (by omega) (by omega)).mp q; omega)
      have e1 : Int32.ofNat bs - 1 = Int32.ofNat (bs - 1) := by rw [show bs = (bs - 1) + 1 by omega, oN_pred]; rfl
      have e2 : iN (Int32.ofNat (bs - 1)) 21 = some (bs - 1) := iN_oN (by omega) (by omega)
      have e3 : (rkV (I 51 (bs - 1)) < r) = True := eq_true hb'
      simp (decide := true) only [f_X2_settleSigns_0, f_X2_settleSigns_55, h7, e, e1, e2, X_rank, e3, isO_s, gI_s, gA_s, gL_s, pI_s, pZ_s, pL_s, aI_s, aL_s, aN_s, aQ_s, sI_s, sL_s, cr, LNs, Option.map_some, Option.map_none, Option.bind_some, b2, tr, lt, if_true, if_false, ckZ, X_within, M_in, inR_z, X_refuse, X_tell, X_deny, X_grant, M_refused, M_denied, M_done, M_granted, u2_same, u2_ne, u2_u2, upd_same, upd_ne, aW0, ixR_z, ixR_1, M_isWall, M_isPainter, M_isWork, X_has4, X_has10, X_at, or_false, false_or, or_true, true_or, not_true, not_false_iff, Option.isSome_some, isO_d, gI_d, gA_d, pI_d, ne_eq, not_false_eq_true, u2_hi, u2_hj, u2_dyn, u2_dynj, Nat.reduceAdd, mX_r, mX_rD, mX_rDj, mM_r, mX_u, mX_uM, mX_uD, mX_uDj, mM_u, mM_uX, mM_uD, mM_uDj, u2_dd, u2_d0, u2_0d]
  | cons x xs ih =>
    intro dl I fu hf hX h21 h360 hx hb hk ho hs hi
    obtain ⟨fu, rfl⟩ : ∃ f, fu = f + 1 := ⟨fu - 1, by omega⟩
    have hl : (x :: xs).length = xs.length + 1 := rfl
    rw [hl] at hX h21 h360 hf
    have h7 : I 44 7 = Int32.ofNat (bs + xs.length + 1) := hX.2.2.2.2.2.1
    obtain ⟨hx1, hx2⟩ := hx x (List.mem_cons_self)
    obtain ⟨o1, o2, o3⟩ := itV_op (v := vv (f0 + (dl - o))) hx1
    have e : (Int32.ofNat (bs + xs.length + 1) ≤ 0) = False := eq_false (fun q => by have := (oN_le (c := 0) (by omega) (by omega)).mp q; omega)
    have e2 : iN (Int32.ofNat (bs + xs.length)) 21 = some (bs + xs.length) := iN_oN (by omega) (by omega)
    have e3 : (rkV (itV x 0) < r) = False := eq_false hx2
    have hX2 : XSt t n la i pa (bs + xs.length) dl (xK I 7 (Int32.ofNat (bs + xs.length))) L := hX.k7
    have hpt := X_dput (b := b) (F := F) (E := E) (L := L) (P := P) (nx := nx) (us := us) (I := xK I 7 (Int32.ofNat (bs + xs.length))) (dl := dl) 5 (by decide) o3 hX2.2.2.2.2.2.2 (by omega)
    have h51 : xPt dl (Int32.ofNat 5) (itV x 0) (xK I 7 (Int32.ofNat (bs + xs.length))) 51 = I 51 := by rw [xPt_ne (by decide) (by decide) (by decide) (by decide)]; unfold xK; simp (decide := true) only [u2_same, u2_ne, u2_u2, upd_same, upd_ne, mE, u2_dyn, dyn_u2, dyn_hi, u2_hi, u2_hj, u2_dynj, u2_dd, u2_d0, u2_0d]
    have r46 : xPt dl (Int32.ofNat 5) (itV x 0) (xK I 7 (Int32.ofNat (bs + xs.length))) 46 = upd (I 46) dl 5 := by rw [xPt_r.2.1]; unfold xK; simp (decide := true) only [u2_same, u2_ne, u2_u2, upd_same, upd_ne, mE, u2_dyn, dyn_u2, dyn_hi, u2_hi, u2_hj, u2_dynj, u2_dd, u2_d0, u2_0d]; rfl
    have r47 : xPt dl (Int32.ofNat 5) (itV x 0) (xK I 7 (Int32.ofNat (bs + xs.length))) 47 = upd (I 47) dl (itV x 0) := by rw [xPt_r.2.2.1]; unfold xK; simp (decide := true) only [u2_same, u2_ne, u2_u2, upd_same, upd_ne, mE, u2_dyn, dyn_u2, dyn_hi, u2_hi, u2_hj, u2_dynj, u2_dd, u2_d0, u2_0d]
    obtain ⟨I', z1, z2, z3, z4⟩ := ih (dl + 1) (xPt dl (Int32.ofNat 5) (itV x 0) (xK I 7 (Int32.ofNat (bs + xs.length)))) fu (by omega) hX2.put (by omega) (by omega) (fun y hy => hx y (List.mem_cons_of_mem _ hy)) (by rw [h51]; exact hb) (by rw [h51]; exact hk.2) (by omega) (by
      rw [show dl + 1 - o = dl - o + 1 by omega]
      intro j hj
      rw [r46, r47]
      by_cases hj2 : j = dl - o
      · subst hj2
        rw [show o + (dl - o) = dl by omega, upd_same, upd_same, hi.1, o1, o2]
        exact ⟨rfl, rfl⟩
      · rw [upd_ne (by omega), upd_ne (by omega)]
        exact hs j (by omega)) (by
      rw [show f0 + (dl + 1 - o) = f0 + (dl - o) + 1 by omega]
      exact hi.2)
    refine ⟨I', ?_, ?_, ?_, ?_⟩
    · have hk1 : I 51 (bs + xs.length) = itV x 0 := hk.1
      have hpi : pI 2 (lay b F E I L P nx us) (ad b 44) 7 (Int32.ofNat (bs + xs.length)) = some (lay b F E (xK I 7 (Int32.ofNat (bs + xs.length))) L P nx us) := by unfold xK; simp (decide := true) only [isO_s, gI_s, gA_s, gL_s, pI_s, pZ_s, pL_s, aI_s, aL_s, aN_s, aQ_s, sI_s, sL_s, cr, LNs, Option.map_some, Option.map_none, Option.bind_some, b2, tr, lt, if_true, if_false, ckZ, X_within, M_in, inR_z, X_refuse, X_tell, X_deny, X_grant, M_refused, M_denied, M_done, M_granted, u2_same, u2_ne, u2_u2, upd_same, upd_ne, aW0, ixR_z, ixR_1, M_isWall, M_isPainter, M_isWork, X_has4, X_has10, X_at, or_false, false_or, or_true, true_or, not_true, not_false_iff, Option.isSome_some, isO_d, gI_d, gA_d, pI_d, ne_eq, not_false_eq_true, u2_hi, u2_hj, u2_dyn, u2_dynj, Nat.reduceAdd, mX_r, mX_rD, mX_rDj, mM_r, mX_u, mX_uM, mX_uD, mX_uDj, mM_u, mM_uX, mM_uD, mM_uDj, u2_dd, u2_d0, u2_0d]
      have q7 : xK I 7 (Int32.ofNat (bs + xs.length)) 44 7 = Int32.ofNat (bs + xs.length) := hX2.2.2.2.2.2.1
      have q51 : xK I 7 (Int32.ofNat (bs + xs.length)) 51 = I 51 := by unfold xK; simp (decide := true) only [u2_same, u2_ne, u2_u2, upd_same, upd_ne, mE, u2_dyn, dyn_u2, dyn_hi, u2_hi, u2_hj, u2_dynj, u2_dd, u2_d0, u2_0d]
      have hpt' : f_X1_put (ad b 45) 5 (itV x 0) (lay b F E (xK I 7 (Int32.ofNat (bs + xs.length))) L P nx us) = some (lay b F E (xPt dl (Int32.ofNat 5) (itV x 0) (xK I 7 (Int32.ofNat (bs + xs.length)))) L P nx us) := hpt
      simp (decide := true) only [f_X2_settleSigns_0, h7, e, oN_pred, e2, hk1, X_rank, e3, hpi, q7, q51, hpt', isO_s, gI_s, gA_s, gL_s, pZ_s, pL_s, aI_s, aL_s, aN_s, aQ_s, sI_s, sL_s, cr, LNs, Option.map_some, Option.map_none, Option.bind_some, b2, tr, lt, if_true, if_false, ckZ, X_within, M_in, inR_z, X_refuse, X_tell, X_deny, X_grant, M_refused, M_denied, M_done, M_granted, u2_same, u2_ne, u2_u2, upd_same, upd_ne, aW0, ixR_z, ixR_1, M_isWall, M_isPainter, M_isWork, X_has4, X_has10, X_at, or_false, false_or, or_true, true_or, not_true, not_false_iff, Option.isSome_some, isO_d, gI_d, gA_d, pI_d, ne_eq, not_false_eq_true, u2_hi, u2_hj, u2_dyn, u2_dynj, Nat.reduceAdd, mX_r, mX_rD, mX_rDj, mM_r, mX_u, mX_uM, mX_uD, mX_uDj, mM_u, mM_uX, mM_uD, mM_uDj, u2_dd, u2_d0, u2_0d]
      exact z1
    · rw [hl, show dl + (xs.length + 1) = dl + 1 + xs.length by omega]
      exact z2
    · exact ((FXs_K (Or.inr rfl)).trans (FXs_P (dl0 := dl) (fb_d 5 (by decide)) o3 (Nat.le_refl _)) (Nat.le_refl _) (Nat.le_refl _)).trans z3 (Nat.le_refl _) (by omega)
    · rw [hl, show dl - o + (xs.length + 1) = dl + 1 - o + xs.length by omega]
      exact z4
end SUM5
