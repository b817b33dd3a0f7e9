/-! ===== drawing: the reference reads sums ===== -/
def mu (la m i : Nat) : Nat := 8 * (la - i) + (if m = 0 then 5 else if m = 1 then 4 else if m = 2 then 3 else if m = 3 then 2 else 1)
/-- the drawing that is being read -/
def K12 (E : Nat → Option KD) (nd : Nat) : Prop := kdf E nd = some (.inr (12, true)) ∧ (∀ j, 1 ≤ j → j ≤ 6 → kdf E (nd + j) = some (.inl (0, 40))) ∧ kdf E (nd + 7) = some (.inl (0, 160)) ∧ kdf E (nd + 8) = some (.inl (0, 160)) ∧ kdf E (nd + 9) = some (.inl (0, 400)) ∧ kdf E (nd + 10) = some (.inl (0, 400)) ∧ kdf E (nd + 11) = some (.inl (4, 40))
def MS (t : RW) (n nd i br : Nat) (s : SSt) (I : Nat → Nat → Int32) (L : Nat → Nat → Int64) : Prop := QM t n 0 i I L ∧ I 72 35 = Int32.ofNat s.1 ∧ I 72 34 = Int32.ofNat br ∧ I nd 1 = Int32.ofNat s.2.1 ∧ I (nd + 9) = s.2.2.1 ∧ I (nd + 10) = s.2.2.2
def FD (nd : Nat) (I J : Nat → Nat → Int32) (L M : Nat → Nat → Int64) : Prop := (∀ c, c ≠ 72 → c ≠ 90 → c ≠ nd → c ≠ nd + 9 → c ≠ nd + 10 → J c = I c) ∧ (∀ k, k ≠ 1 → J nd k = I nd k) ∧ (∀ j, j ≠ 27 → j ≠ 28 → j ≠ 29 → j ≠ 30 → j ≠ 31 → j ≠ 32 → j ≠ 34 → j ≠ 35 → J 72 j = I 72 j) ∧ (∀ c, c ≠ 72 → M c = L c) ∧ ∀ j, j ≠ 37 → M 72 j = L 72 j
theorem FD.refl {nd : Nat} {I : Nat → Nat → Int32} {L : Nat → Nat → Int64} : FD nd I I L L := ⟨fun _ _ _ _ _ _ => rfl, fun _ _ => rfl, fun _ _ _ _ _ _ _ _ _ => rfl, fun _ _ => rfl, fun _ _ => rfl⟩
theorem FD.trans {nd : Nat} {I J K : Nat → Nat → Int32} {L M N : Nat → Nat → Int64} (h : FD nd I J L M) (h' : FD nd J K M N) : FD nd I K L N := ⟨fun c c1 c2 c3 c4 c5 => (h'.1 c c1 c2 c3 c4 c5).trans (h.1 c c1 c2 c3 c4 c5), fun k hk => (h'.2.1 k hk).trans (h.2.1 k hk), fun j a c d e f g x y => (h'.2.2.1 j a c d e f g x y).trans (h.2.2.1 j a c d e f g x y), fun c hc => (h'.2.2.2.1 c hc).trans (h.2.2.2.1 c hc), fun j hj => (h'.2.2.2.2 j hj).trans (h.2.2.2.2 j hj)⟩
theorem FD_72 {nd : Nat} {I : Nat → Nat → Int32} {L : Nat → Nat → Int64} {r : RW} {l : Nat → Int64} (hn : 93 ≤ nd) (h : ∀ j, j ≠ 27 → j ≠ 28 → j ≠ 29 → j ≠ 30 → j ≠ 31 → j ≠ 32 → j ≠ 34 → j ≠ 35 → r j = I 72 j) (hl : ∀ j, j ≠ 37 → l j = L 72 j) : FD nd I (u2 I 72 r) L (u2 L 72 l) := ⟨fun c c1 _ _ _ _ => u2_ne c1, fun k _ => by rw [u2_ne (by omega)], fun j a c d e f g x y => by rw [u2_same]; exact h j a c d e f g x y, fun c hc => u2_ne hc, fun j hj => by rw [u2_same]; exact hl j hj⟩
theorem FD_72i {nd : Nat} {I : Nat → Nat → Int32} {L : Nat → Nat → Int64} {r : RW} (hn : 93 ≤ nd) (h : ∀ j, j ≠ 27 → j ≠ 28 → j ≠ 29 → j ≠ 30 → j ≠ 31 → j ≠ 32 → j ≠ 34 → j ≠ 35 → r j = I 72 j) : FD nd I (u2 I 72 r) L L := ⟨fun c c1 _ _ _ _ => u2_ne c1, fun k _ => by rw [u2_ne (by omega)], fun j a c d e f g x y => by rw [u2_same]; exact h j a c d e f g x y, fun _ _ => rfl, fun _ _ => rfl⟩
/-- an item put -/
def mPt (nd it : Nat) (x v : Int32) (I : Nat → Nat → Int32) : Nat → Nat → Int32 := u2 (u2 (u2 I (nd + 9) (upd (I (nd + 9)) it x)) (nd + 10) (upd (I (nd + 10)) it v)) nd (upd (I nd) 1 (Int32.ofNat (it + 1)))
theorem mPt_ne {nd it c : Nat} {x v : Int32} {I : Nat → Nat → Int32} (h1 : c ≠ nd) (h2 : c ≠ nd + 9) (h3 : c ≠ nd + 10) : mPt nd it x v I c = I c := by unfold mPt; rw [u2_ne h1, u2_ne h3, u2_ne h2]
theorem mPt_r {nd it : Nat} {x v : Int32} {I : Nat → Nat → Int32} : mPt nd it x v I nd = upd (I nd) 1 (Int32.ofNat (it + 1)) ∧ mPt nd it x v I (nd + 9) = upd (I (nd + 9)) it x ∧ mPt nd it x v I (nd + 10) = upd (I (nd + 10)) it v := by
  unfold mPt
  refine ⟨u2_same _ _ _, ?_, ?_⟩
  · rw [u2_ne (by omega), u2_ne (by omega), u2_same]
  · rw [u2_ne (by omega), u2_same]
theorem FD_P {nd it : Nat} {x v : Int32} {I : Nat → Nat → Int32} {L : Nat → Nat → Int64} (hn : 93 ≤ nd) : FD nd I (mPt nd it x v I) L L := ⟨fun c _ _ c3 c4 c5 => mPt_ne c3 c4 c5, fun k hk => by rw [mPt_r.1, upd_ne hk], fun j _ _ _ _ _ _ _ _ => by rw [mPt_ne (by omega) (by omega) (by omega)], fun _ _ => rfl, fun _ _ => rfl⟩
def MR (b nd : Nat) (t : RW) (n br : Nat) (out : SOut) (o : Option Nat) (I : Nat → Nat → Int32) (L : Nat → Nat → Int64) : Prop := match out with
  | .inl (c, j) => o = some (ad b 90) ∧ I 90 6 = c ∧ I 90 7 = Int32.ofNat (pl t n j)
  | .inr (i, s) => o = none ∧ MS t n nd i br s I L
theorem TM_up {t r : RW} {n s k : Nat} {rg x : Int32} {l : Nat → Int64} (h : TM t n rg s r l) (h1 : k ≠ 27) (h2 : k ≠ 28) (h3 : k ≠ 29) (h4 : k ≠ 30) (h5 : k ≠ 31) (h6 : k ≠ 32) : TM t n rg s (upd r k x) l := by
  unfold TM at h ⊢
  rw [upd_ne (Ne.symm h1), upd_ne (Ne.symm h2), upd_ne (Ne.symm h3), upd_ne (Ne.symm h4), upd_ne (Ne.symm h5), upd_ne (Ne.symm h6)]
  exact h
theorem QM_up {t : RW} {n i k : Nat} {rg x : Int32} {I : Nat → Nat → Int32} {L : Nat → Nat → Int64} (h : QM t n rg i I L) (hk : k = 34 ∨ k = 35) : QM t n rg i (u2 I 72 (upd (I 72) k x)) L := by
  obtain ⟨m1, m2, m3, m4⟩ := h
  refine ⟨by rw [u2_same]; exact TM_up m1 (by omega) (by omega) (by omega) (by omega) (by omega) (by omega), by rw [u2_same, upd_ne (by omega)]; exact m2, by rw [u2_ne (by decide)]; exact m3, by rw [u2_same, upd_ne (by omega)]; exact m4⟩
section SUM3
variable {b : Nat} {F : Nat → Option AE} {D E : Nat → Option KD} {I : Nat → Nat → Int32} {L : Nat → Nat → Int64} {P : Nat → Nat → Option Nat} {nx us : Nat}
theorem M_put {nd it : Nat} (x v : Int32) (hK : K12 E nd) (h1 : I nd 1 = Int32.ofNat it) (hit : it < 400) : f_X12_put (ad b nd) x v (lay b F E I L P nx us) = some (lay b F E (mPt nd it x v I) L P nx us) := by
  obtain ⟨k0, -, -, -, k9, k10, -⟩ := hK
  have e : iN (Int32.ofNat it) 400 = some it := iN_oN hit (by omega)
  have o : isO 12 (lay b F E I L P nx us) (ad b nd) = true := isO_d k0
  have g9 : gA 12 (lay b F E I L P nx us) (ad b nd) 10 = some (ad b (nd + 9)) := by rw [gA_d k0 (by decide) rfl]; rfl
  have g1 : gI 12 (lay b F E I L P nx us) (ad b nd) 1 = some (Int32.ofNat it) := by rw [gI_d k0 (by decide), h1]
  have s1 : sI 0 (lay b F E I L P nx us) (ad b (nd + 9)) (Int32.ofNat it) x = some (lay b F E (u2 I (nd + 9) (upd (I (nd + 9)) it x)) L P nx us) := by rw [sI_d k9 (by decide), e]; rfl
  have g10 : gA 12 (lay b F E (u2 I (nd + 9) (upd (I (nd + 9)) it x)) L P nx us) (ad b nd) 11 = some (ad b (nd + 10)) := by rw [gA_d k0 (by decide) rfl]; rfl
  have g1' : gI 12 (lay b F E (u2 I (nd + 9) (upd (I (nd + 9)) it x)) L P nx us) (ad b nd) 1 = some (Int32.ofNat it) := by rw [gI_d k0 (by decide), u2_ne (by omega), h1]
  have s2 : sI 0 (lay b F E (u2 I (nd + 9) (upd (I (nd + 9)) it x)) L P nx us) (ad b (nd + 10)) (Int32.ofNat it) v = some (lay b F E (u2 (u2 I (nd + 9) (upd (I (nd + 9)) it x)) (nd + 10) (upd (I (nd + 10)) it v)) L P nx us) := by rw [sI_d k10 (by decide), e, u2_ne (by omega)]; rfl
  have g1'' : gI 12 (lay b F E (u2 (u2 I (nd + 9) (upd (I (nd + 9)) it x)) (nd + 10) (upd (I (nd + 10)) it v)) L P nx us) (ad b nd) 1 = some (Int32.ofNat it) := by rw [gI_d k0 (by decide), u2_ne (by omega), u2_ne (by omega), h1]
  have p1 : pI 12 (lay b F E (u2 (u2 I (nd + 9) (upd (I (nd + 9)) it x)) (nd + 10) (upd (I (nd + 10)) it v)) L P nx us) (ad b nd) 1 (Int32.ofNat (it + 1)) = some (lay b F E (mPt nd it x v I) L P nx us) := by
    rw [pI_d k0 (by decide), u2_ne (by omega), u2_ne (by omega)]
    rfl
  unfold f_X12_put
  simp only [o, g9, g1, s1, g10, g1', s2, g1'', oN_succ, p1, if_true, Option.bind_some]
theorem MS.put {t : RW} {n nd i br : Nat} {s : SSt} {x v : Int32} (hn : 93 ≤ nd) (h : MS t n nd i br s I L) : MS t n nd i br (sPut s x v) (mPt nd s.2.1 x v I) L := by
  obtain ⟨h1, h2, h3, h4, h5, h6⟩ := h
  have e72 : mPt nd s.2.1 x v I 72 = I 72 := mPt_ne (by omega) (by omega) (by omega)
  have e91 : mPt nd s.2.1 x v I 91 = I 91 := mPt_ne (by omega) (by omega) (by omega)
  refine ⟨h1.fr e72 e91, by rw [e72]; exact h2, by rw [e72]; exact h3, ?_, ?_, ?_⟩
  · rw [mPt_r.1, upd_same]; rfl
  · rw [mPt_r.2.1, h5]; rfl
  · rw [mPt_r.2.2, h6]; rfl
/-- next, from a token that is good -/
theorem MS.nxt {t : RW} {n nd i br : Nat} {s : SSt} (hn : n ≤ 400) (hB : BY t n) (hnd : 93 ≤ nd) (h : MS t n nd i br s I L) (h0 : kd t n (pl t n i) ≠ 0) (h1 : kd t n (pl t n i) ≠ 1) (hr : ¬ cm t n i 0) : ∃ r l, f_X15_next (ad b 72) (lay b F E I L P nx us) = some (lay b F E (u2 I 72 r) (u2 L 72 l) P nx us) ∧ FD nd I (u2 I 72 r) L (u2 L 72 l) ∧ MS t n nd (i + 1) br s (u2 I 72 r) (u2 L 72 l) := by
  obtain ⟨q, h2, h3, h4, h5, h6⟩ := h
  obtain ⟨r, l, z1, z2, z3, z4⟩ := M_nq (b := b) (F := F) (E := E) (P := P) (nx := nx) (us := us) hn hB q h0 h1 hr
  refine ⟨r, l, z1, FD_72 hnd (fun j a c d e f g _ _ => z2 j a c d e f g) z3, z4, ?_, ?_, ?_, ?_, ?_⟩
  · rw [u2_same, z2 35 (by decide) (by decide) (by decide) (by decide) (by decide) (by decide)]; exact h2
  · rw [u2_same, z2 34 (by decide) (by decide) (by decide) (by decide) (by decide) (by decide)]; exact h3
  · rw [u2_ne (by omega)]; exact h4
  · rw [u2_ne (by omega)]; exact h5
  · rw [u2_ne (by omega)]; exact h6
theorem cm_C {t : RW} {n i : Nat} {c : Int32} (h : isC t n i c) (h1 : c ≠ 44) (h2 : c ≠ 37) : ¬ cm t n i 0 := by
  rintro ⟨-, -, q | q⟩
  · exact h1 (h.2.symm.trans q)
  · exact h2 (h.2.symm.trans q)
theorem cm_k {t : RW} {n i : Nat} (h : kd t n (pl t n i) ≠ 4) : ¬ cm t n i 0 := fun q => h q.1
/-- a part that is no bracket -/
theorem M_part {z : ZX} {t : RW} {n nd i br la : Nat} {s : SSt} {kX : Nat → AH → Option (Option Nat × AH)} (hz : GZ b F z) (hn : n ≤ 400) (hB : BY t n) (hnd : 93 ≤ nd) (hP : P 72 40 = some nd) (hK : K12 E nd) (h : MS t n nd i br s I L) (hp : s.1 ≤ 120) (hit : s.2.1 ≤ 2 * s.1) (hc : ¬ isC t n i 40) : ∃ o I' L', f_X15_readPart z kX (ad b 72) (lay b F E I L P nx us) = some (o, lay b F E I' L' P nx us) ∧ FD nd I I' L L' ∧ MR b nd t n br (if ptE t n i ≠ 0 then .inl (ptE t n i, i) else if s.1 = 120 then .inl (4, i) else .inr (i + 1, sPrt s (ptS t n i) (ptV t n i))) o I' L' := by
  obtain ⟨q, h2, h3, h4, h5, h6⟩ := h
  have hMS : MS t n nd i br s I L := ⟨q, h2, h3, h4, h5, h6⟩
  have hc40 := M_is (b := b) (F := F) (E := E) (P := P) (nx := nx) (us := us) 40 (fun _ => by decide) q.1
  rw [if_neg hc] at hc40
  obtain ⟨r2, r3, -, -⟩ := M_srt q.1
  have hkp := M_kept (b := b) (F := F) (E := E) (P := P) (nx := nx) (us := us) hz q.1
  have hvr := M_var (b := b) (F := F) (E := E) (P := P) (nx := nx) (us := us) q.1
  have w7 : f_X15_isWord z (ad b 72) (z.1 23) (lay b F E I L P nx us) = some (if isW t n i 7 then 1 else 0, (lay b F E I L P nx us)) := M_isW (k := 23) hz (by decide) q.1
  have w8 : f_X15_isWord z (ad b 72) (z.1 24) (lay b F E I L P nx us) = some (if isW t n i 8 then 1 else 0, (lay b F E I L P nx us)) := M_isW (k := 24) hz (by decide) q.1
  have e10 : ((1 : Int32) = 0) = False := by decide
  have flt : ∀ c : Int32, f_X15_readPart z kX (ad b 72) (lay b F E I L P nx us) = some (some (ad b 90), lay b F E (sF I c (pl t n i)) L P nx us) → ∃ o I' L', f_X15_readPart z kX (ad b 72) (lay b F E I L P nx us) = some (o, lay b F E I' L' P nx us) ∧ FD nd I I' L L' ∧ MR b nd t n br (.inl (c, i)) o I' L' := by
    intro c hrun
    exact ⟨_, _, _, hrun, ⟨fun c _ c2 _ _ _ => u2_ne c2, fun k _ => by unfold sF; rw [u2_ne (by omega)], fun j _ _ _ _ _ _ _ _ => by unfold sF; rw [u2_ne (by decide)], fun _ _ => rfl, fun _ _ => rfl⟩, rfl, sF_67⟩
  have st := fun c => M_stopF (b := b) (F := F) (E := E) (P := P) (nx := nx) (us := us) c q
  have hgA : ∀ (J : Nat → Nat → Int32), gA 15 (lay b F E J L P nx us) (ad b 72) 40 = some (ad b nd) := fun J => by rw [gA_sP (by decide) (by decide) (by decide), hP]; rfl
  -- the part is put
  have good : ptE t n i = 0 → (s.1 ≠ 120 → f_X15_readPart z kX (ad b 72) (lay b F E I L P nx us) = (f_X12_put (ad b nd) (ptS t n i) (ptV t n i) (lay b F E (u2 I 72 (upd (I 72) 35 (Int32.ofNat (s.1 + 1)))) L P nx us)).bind fun h => f_X15_readPart_212 z kX (ad b 72) h) → (s.1 = 120 → f_X15_readPart z kX (ad b 72) (lay b F E I L P nx us) = some (some (ad b 90), lay b F E (sF I 4 (pl t n i)) L P nx us)) → ∃ o I' L', f_X15_readPart z kX (ad b 72) (lay b F E I L P nx us) = some (o, lay b F E I' L' P nx us) ∧ FD nd I I' L L' ∧ MR b nd t n br (if ptE t n i ≠ 0 then .inl (ptE t n i, i) else if s.1 = 120 then .inl (4, i) else .inr (i + 1, sPrt s (ptS t n i) (ptV t n i))) o I' L' := by
    intro hE g1 g2
    rw [if_neg (fun q => q hE)]
    by_cases h120 : s.1 = 120
    · rw [if_pos h120]
      exact flt 4 (g2 h120)
    · rw [if_neg h120]
      have hMS2 : MS t n nd i br (s.1 + 1, s.2) (u2 I 72 (upd (I 72) 35 (Int32.ofNat (s.1 + 1)))) L := by
        refine ⟨?_, ?_, ?_, ?_, ?_, ?_⟩
        · exact QM_up q (Or.inr rfl)
        · simp (decide := true) only [u2_same, u2_ne, u2_u2, upd_same, upd_ne, mE, u2_dyn, dyn_u2, dyn_hi, u2_hi, u2_hj, u2_dynj, u2_dd, u2_d0, u2_0d]
        · simp (decide := true) only [u2_same, u2_ne, u2_u2, upd_same, upd_ne, mE, u2_dyn, dyn_u2, dyn_hi, u2_hi, u2_hj, u2_dynj, u2_dd, u2_d0, u2_0d]; exact h3
        · rw [u2_ne (by omega)]; exact h4
        · rw [u2_ne (by omega)]; exact h5
        · rw [u2_ne (by omega)]; exact h6
      have hpt := M_put (b := b) (F := F) (L := L) (P := P) (nx := nx) (us := us) (I := u2 I 72 (upd (I 72) 35 (Int32.ofNat (s.1 + 1)))) (ptS t n i) (ptV t n i) hK (show _ = Int32.ofNat s.2.1 by rw [u2_ne (by omega)]; exact h4) (by omega)
      have hMS3 := MS.put (x := ptS t n i) (v := ptV t n i) hnd hMS2
      obtain ⟨r, l, z1, z2, z3⟩ := MS.nxt (b := b) (F := F) (E := E) (P := P) (nx := nx) (us := us) hn hB hnd hMS3 (by rcases ptE_kd hE with e | e <;> omega) (by rcases ptE_kd hE with e | e <;> omega) (cm_k (by rcases ptE_kd hE with e | e <;> omega))
      refine ⟨none, _, _, ?_, ((FD_72i hnd (fun j _ _ _ _ _ _ _ h35 => upd_ne h35)).trans (FD_P hnd)).trans z2, rfl, z3⟩
      rw [g1 h120, hpt]
      show f_X15_readPart_212 z kX (ad b 72) _ = _
      unfold f_X15_readPart_212
      rw [z1]
      rfl
  have e120 : (Int32.ofNat s.1 = 120) = (s.1 = 120) := propext (oN_eq (c := 120) (by omega) (by omega))
  have h35 : ∀ (f : RW), upd (I 72) 35 (Int32.ofNat (s.1 + 1)) 28 = I 72 28 := fun _ => upd_ne (by decide)
  by_cases c3 : kd t n (pl t n i) = 3
  · have r3T : (I 72 28 = 3) = True := by rw [r3]; exact eq_true c3
    have r2T : (I 72 28 = 2) = False := by rw [r2]; exact eq_false (by omega)
    have nk : ¬ (isW t n i 1 ∨ isW t n i 2 ∨ isW t n i 3 ∨ isW t n i 4 ∨ isW t n i 5 ∨ isW t n i 9 ∨ isW t n i 10) := by
      rintro (q | q | q | q | q | q | q) <;> exact absurd q.1 (by omega)
    rw [if_neg nk] at hkp
    have hE : ptE t n i = 0 := by unfold ptE; rw [if_pos c3]
    have hS : ptS t n i = 0 := by unfold ptS; rw [if_pos c3]
    have hVn : ptV t n i = num t n i := by unfold ptV; rw [if_pos c3]
    have h31 : I 72 31 = num t n i := (q.1.2.2.2.2.1 c3).2.1
    refine good hE (fun h120 => ?_) (fun h120 => ?_)
    · rw [hS, hVn]
      simp (decide := true) only [f_X15_readPart, f_X15_readPart_75, f_X15_readPart_132, hc40, r3T, hkp, hvr, r2T, h2, e120, h120, hgA, h31, oN_succ, isO_s, gI_s, gL_s, pI_s, pZ_s, pL_s, aI_s, aL_s, aN_s, aQ_s, sI_s, sL_s, cr, LNs, Option.map_some, Option.map_none, Option.bind_some, b2, tr, lt, if_true, if_false, ckZ, X_within, M_in, inR_z, X_refuse, X_tell, X_deny, X_grant, M_refused, M_denied, M_done, M_granted, u2_same, u2_ne, u2_u2, upd_same, upd_ne, aW0, ixR_z, ixR_1, M_isWall, M_isPainter, M_isWork, X_has4, X_has10, X_at, or_false, false_or, or_true, true_or, not_true, not_false_iff, Option.isSome_some, isO_d, gI_d, gA_d, pI_d, ne_eq, not_false_eq_true, u2_hi, u2_hj, u2_dyn, u2_dynj, Nat.reduceAdd, mX_r, mX_rD, mX_rDj, mM_r, mX_u, mX_uM, mX_uD, mX_uDj, mM_u, mM_uX, mM_uD, mM_uDj, u2_dd, u2_d0, u2_0d]
    · simp (decide := true) only [f_X15_readPart, f_X15_readPart_75, f_X15_readPart_132, hc40, r3T, hkp, hvr, r2T, h2, e120, h120, st 4, isO_s, gI_s, gA_s, gL_s, pI_s, pZ_s, pL_s, aI_s, aL_s, aN_s, aQ_s, sI_s, sL_s, cr, LNs, Option.map_some, Option.map_none, Option.bind_some, b2, tr, lt, if_true, if_false, ckZ, X_within, M_in, inR_z, X_refuse, X_tell, X_deny, X_grant, M_refused, M_denied, M_done, M_granted, u2_same, u2_ne, u2_u2, upd_same, upd_ne, aW0, ixR_z, ixR_1, M_isWall, M_isPainter, M_isWork, X_has4, X_has10, X_at, or_false, false_or, or_true, true_or, not_true, not_false_iff, Option.isSome_some, isO_d, gI_d, gA_d, pI_d, ne_eq, not_false_eq_true, u2_hi, u2_hj, u2_dyn, u2_dynj, Nat.reduceAdd, mX_r, mX_rD, mX_rDj, mM_r, mX_u, mX_uM, mX_uD, mX_uDj, mM_u, mM_uX, mM_uD, mM_uDj, u2_dd, u2_d0, u2_0d]
  · have r3T : (I 72 28 = 3) = False := by rw [r3]; exact eq_false c3
    by_cases c2 : kd t n (pl t n i) = 2
    · have r2T : (I 72 28 = 2) = True := by rw [r2]; exact eq_true c2
      by_cases hk : (isW t n i 1 ∨ isW t n i 2 ∨ isW t n i 3 ∨ isW t n i 4 ∨ isW t n i 5 ∨ isW t n i 9 ∨ isW t n i 10)
      · -- a kept word
        rw [if_pos hk] at hkp
        have hnv : varV t n i = -1 ∧ ¬ isW t n i 7 ∧ ¬ isW t n i 8 := by
          have hz' : ∀ k, (k = 1 ∨ k = 2 ∨ k = 3 ∨ k = 4 ∨ k = 5 ∨ k = 9 ∨ k = 10) → zw k ≠ 9 ∧ zw k ≠ 10 ∧ zw k ≠ 11 ∧ zw k ≠ 13 ∧ zw k ≠ 14 ∧ zw k ≠ zw 7 ∧ zw k ≠ zw 8 := by
            rintro k (rfl | rfl | rfl | rfl | rfl | rfl | rfl) <;> decide +kernel
          obtain ⟨k, hk1, hk2⟩ : ∃ k, (k = 1 ∨ k = 2 ∨ k = 3 ∨ k = 4 ∨ k = 5 ∨ k = 9 ∨ k = 10) ∧ vl t n (pl t n i) = zw k := by
            rcases hk with q | q | q | q | q | q | q
            · exact ⟨1, by decide, q.2⟩
            · exact ⟨2, by decide, q.2⟩
            · exact ⟨3, by decide, q.2⟩
            · exact ⟨4, by decide, q.2⟩
            · exact ⟨5, by decide, q.2⟩
            · exact ⟨9, by decide, q.2⟩
            · exact ⟨10, by decide, q.2⟩
          obtain ⟨y1, y2, y3, y4, y5, y6, y7⟩ := hz' k hk1
          refine ⟨?_, fun q => y6 (hk2.symm.trans q.2), fun q => y7 (hk2.symm.trans q.2)⟩
          unfold varV
          rw [if_pos c2, hk2, if_neg y1, if_neg y2, if_neg y3, if_neg y4, if_neg y5]
        have hE : ptE t n i = 1 := by
          unfold ptE
          rw [if_neg c3, if_pos c2, if_neg (by rintro (q | q | q); exact q hnv.1; exact hnv.2.1 q; exact hnv.2.2 q), if_pos hk]
        rw [if_pos (by rw [hE]; decide), hE]
        refine flt 1 ?_
        simp (decide := true) only [f_X15_readPart, f_X15_readPart_75, f_X15_readPart_82, hc40, r3T, r2T, hkp, e10, st 1, isO_s, gI_s, gA_s, gL_s, pI_s, pZ_s, pL_s, aI_s, aL_s, aN_s, aQ_s, sI_s, sL_s, cr, LNs, Option.map_some, Option.map_none, Option.bind_some, b2, tr, lt, if_true, if_false, ckZ, X_within, M_in, inR_z, X_refuse, X_tell, X_deny, X_grant, M_refused, M_denied, M_done, M_granted, u2_same, u2_ne, u2_u2, upd_same, upd_ne, aW0, ixR_z, ixR_1, M_isWall, M_isPainter, M_isWork, X_has4, X_has10, X_at, or_false, false_or, or_true, true_or, not_true, not_false_iff, Option.isSome_some, isO_d, gI_d, gA_d, pI_d, ne_eq, not_false_eq_true, u2_hi, u2_hj, u2_dyn, u2_dynj, Nat.reduceAdd, mX_r, mX_rD, mX_rDj, mM_r, mX_u, mX_uM, mX_uD, mX_uDj, mM_u, mM_uX, mM_uD, mM_uDj, u2_dd, u2_d0, u2_0d]
      · rw [if_neg hk] at hkp
        by_cases v1 : varV t n i = -1
        · by_cases v7 : isW t n i 7
          · rw [if_pos v7] at w7
            have w7' : f_X15_isWord z (ad b 72) (z.1 23) (lay b F E (u2 I 72 (upd (I 72) 35 (Int32.ofNat (s.1 + 1)))) L P nx us) = some (1, lay b F E (u2 I 72 (upd (I 72) 35 (Int32.ofNat (s.1 + 1)))) L P nx us) := by
              have := M_isW (b := b) (F := F) (E := E) (P := P) (nx := nx) (us := us) (I := u2 I 72 (upd (I 72) 35 (Int32.ofNat (s.1 + 1)))) (L := L) (n := n) (i := i) (t := t) (rg := 0) (k := 23) hz (by decide) (QM_up q (Or.inr rfl)).1
              rw [this, if_pos (show isW t n i 23 from v7)]
            have hE : ptE t n i = 0 := by unfold ptE; rw [if_neg c3, if_pos c2, if_pos (Or.inr (Or.inl v7))]
            have hS : ptS t n i = 2 := by unfold ptS; rw [if_neg c3, if_neg (fun q => q v1), if_pos v7]
            have hVn : ptV t n i = -1 := by unfold ptV; rw [if_neg c3, v1]
            refine good hE (fun h120 => ?_) (fun h120 => ?_)
            · rw [hS, hVn]
              simp (decide := true) only [f_X15_readPart, f_X15_readPart_75, f_X15_readPart_132, f_X15_readPart_208, hc40, r3T, hkp, hvr, r2T, v1, w7, w7', e10, h2, e120, h120, hgA, oN_succ, isO_s, gI_s, gL_s, pI_s, pZ_s, pL_s, aI_s, aL_s, aN_s, aQ_s, sI_s, sL_s, cr, LNs, Option.map_some, Option.map_none, Option.bind_some, b2, tr, lt, if_true, if_false, ckZ, X_within, M_in, inR_z, X_refuse, X_tell, X_deny, X_grant, M_refused, M_denied, M_done, M_granted, u2_same, u2_ne, u2_u2, upd_same, upd_ne, aW0, ixR_z, ixR_1, M_isWall, M_isPainter, M_isWork, X_has4, X_has10, X_at, or_false, false_or, or_true, true_or, not_true, not_false_iff, Option.isSome_some, isO_d, gI_d, gA_d, pI_d, ne_eq, not_false_eq_true, u2_hi, u2_hj, u2_dyn, u2_dynj, Nat.reduceAdd, mX_r, mX_rD, mX_rDj, mM_r, mX_u, mX_uM, mX_uD, mX_uDj, mM_u, mM_uX, mM_uD, mM_uDj, u2_dd, u2_d0, u2_0d]
            · simp (decide := true) only [f_X15_readPart, f_X15_readPart_75, f_X15_readPart_132, hc40, r3T, hkp, hvr, r2T, v1, w7, e10, h2, e120, h120, st 4, isO_s, gI_s, gA_s, gL_s, pI_s, pZ_s, pL_s, aI_s, aL_s, aN_s, aQ_s, sI_s, sL_s, cr, LNs, Option.map_some, Option.map_none, Option.bind_some, b2, tr, lt, if_true, if_false, ckZ, X_within, M_in, inR_z, X_refuse, X_tell, X_deny, X_grant, M_refused, M_denied, M_done, M_granted, u2_same, u2_ne, u2_u2, upd_same, upd_ne, aW0, ixR_z, ixR_1, M_isWall, M_isPainter, M_isWork, X_has4, X_has10, X_at, or_false, false_or, or_true, true_or, not_true, not_false_iff, Option.isSome_some, isO_d, gI_d, gA_d, pI_d, ne_eq, not_false_eq_true, u2_hi, u2_hj, u2_dyn, u2_dynj, Nat.reduceAdd, mX_r, mX_rD, mX_rDj, mM_r, mX_u, mX_uM, mX_uD, mX_uDj, mM_u, mM_uX, mM_uD, mM_uDj, u2_dd, u2_d0, u2_0d]
          · rw [if_neg v7] at w7
            by_cases v8 : isW t n i 8
            · rw [if_pos v8] at w8
              have w7' : f_X15_isWord z (ad b 72) (z.1 23) (lay b F E (u2 I 72 (upd (I 72) 35 (Int32.ofNat (s.1 + 1)))) L P nx us) = some (0, lay b F E (u2 I 72 (upd (I 72) 35 (Int32.ofNat (s.1 + 1)))) L P nx us) := by
                have := M_isW (b := b) (F := F) (E := E) (P := P) (nx := nx) (us := us) (I := u2 I 72 (upd (I 72) 35 (Int32.ofNat (s.1 + 1)))) (L := L) (n := n) (i := i) (t := t) (rg := 0) (k := 23) hz (by decide) (QM_up q (Or.inr rfl)).1
                rw [this, if_neg (show ¬ isW t n i 23 from v7)]
              have hE : ptE t n i = 0 := by unfold ptE; rw [if_neg c3, if_pos c2, if_pos (Or.inr (Or.inr v8))]
              have hS : ptS t n i = 3 := by unfold ptS; rw [if_neg c3, if_neg (fun q => q v1), if_neg v7]
              have hVn : ptV t n i = -1 := by unfold ptV; rw [if_neg c3, v1]
              refine good hE (fun h120 => ?_) (fun h120 => ?_)
              · rw [hS, hVn]
                simp (decide := true) only [f_X15_readPart, f_X15_readPart_75, f_X15_readPart_132, f_X15_readPart_208, hc40, r3T, hkp, hvr, r2T, v1, w7, w7', w8, e10, h2, e120, h120, hgA, oN_succ, isO_s, gI_s, gL_s, pI_s, pZ_s, pL_s, aI_s, aL_s, aN_s, aQ_s, sI_s, sL_s, cr, LNs, Option.map_some, Option.map_none, Option.bind_some, b2, tr, lt, if_true, if_false, ckZ, X_within, M_in, inR_z, X_refuse, X_tell, X_deny, X_grant, M_refused, M_denied, M_done, M_granted, u2_same, u2_ne, u2_u2, upd_same, upd_ne, aW0, ixR_z, ixR_1, M_isWall, M_isPainter, M_isWork, X_has4, X_has10, X_at, or_false, false_or, or_true, true_or, not_true, not_false_iff, Option.isSome_some, isO_d, gI_d, gA_d, pI_d, ne_eq, not_false_eq_true, u2_hi, u2_hj, u2_dyn, u2_dynj, Nat.reduceAdd, mX_r, mX_rD, mX_rDj, mM_r, mX_u, mX_uM, mX_uD, mX_uDj, mM_u, mM_uX, mM_uD, mM_uDj, u2_dd, u2_d0, u2_0d]
              · simp (decide := true) only [f_X15_readPart, f_X15_readPart_75, f_X15_readPart_132, hc40, r3T, hkp, hvr, r2T, v1, w7, w8, e10, h2, e120, h120, st 4, isO_s, gI_s, gA_s, gL_s, pI_s, pZ_s, pL_s, aI_s, aL_s, aN_s, aQ_s, sI_s, sL_s, cr, LNs, Option.map_some, Option.map_none, Option.bind_some, b2, tr, lt, if_true, if_false, ckZ, X_within, M_in, inR_z, X_refuse, X_tell, X_deny, X_grant, M_refused, M_denied, M_done, M_granted, u2_same, u2_ne, u2_u2, upd_same, upd_ne, aW0, ixR_z, ixR_1, M_isWall, M_isPainter, M_isWork, X_has4, X_has10, X_at, or_false, false_or, or_true, true_or, not_true, not_false_iff, Option.isSome_some, isO_d, gI_d, gA_d, pI_d, ne_eq, not_false_eq_true, u2_hi, u2_hj, u2_dyn, u2_dynj, Nat.reduceAdd, mX_r, mX_rD, mX_rDj, mM_r, mX_u, mX_uM, mX_uD, mX_uDj, mM_u, mM_uX, mM_uD, mM_uDj, u2_dd, u2_d0, u2_0d]
            · rw [if_neg v8] at w8
              have hE : ptE t n i = 2 := by
                unfold ptE
                rw [if_neg c3, if_pos c2, if_neg (by rintro (q | q | q); exact q v1; exact v7 q; exact v8 q), if_neg hk]
              rw [if_pos (by rw [hE]; decide), hE]
              refine flt 2 ?_
              simp (decide := true) only [f_X15_readPart, f_X15_readPart_75, hc40, r3T, r2T, hkp, hvr, v1, w7, w8, st 2, isO_s, gI_s, gA_s, gL_s, pI_s, pZ_s, pL_s, aI_s, aL_s, aN_s, aQ_s, sI_s, sL_s, cr, LNs, Option.map_some, Option.map_none, Option.bind_some, b2, tr, lt, if_true, if_false, ckZ, X_within, M_in, inR_z, X_refuse, X_tell, X_deny, X_grant, M_refused, M_denied, M_done, M_granted, u2_same, u2_ne, u2_u2, upd_same, upd_ne, aW0, ixR_z, ixR_1, M_isWall, M_isPainter, M_isWork, X_has4, X_has10, X_at, or_false, false_or, or_true, true_or, not_true, not_false_iff, Option.isSome_some, isO_d, gI_d, gA_d, pI_d, ne_eq, not_false_eq_true, u2_hi, u2_hj, u2_dyn, u2_dynj, Nat.reduceAdd, mX_r, mX_rD, mX_rDj, mM_r, mX_u, mX_uM, mX_uD, mX_uDj, mM_u, mM_uX, mM_uD, mM_uDj, u2_dd, u2_d0, u2_0d]
        · have hE : ptE t n i = 0 := by unfold ptE; rw [if_neg c3, if_pos c2, if_pos (Or.inl v1)]
          have hS : ptS t n i = 1 := by unfold ptS; rw [if_neg c3, if_pos v1]
          have hVn : ptV t n i = varV t n i := by unfold ptV; rw [if_neg c3]
          refine good hE (fun h120 => ?_) (fun h120 => ?_)
          · rw [hS, hVn]
            simp (decide := true) only [f_X15_readPart, f_X15_readPart_75, f_X15_readPart_132, f_X15_readPart_208, hc40, r3T, hkp, hvr, r2T, v1, h2, e120, h120, hgA, oN_succ, isO_s, gI_s, gL_s, pI_s, pZ_s, pL_s, aI_s, aL_s, aN_s, aQ_s, sI_s, sL_s, cr, LNs, Option.map_some, Option.map_none, Option.bind_some, b2, tr, lt, if_true, if_false, ckZ, X_within, M_in, inR_z, X_refuse, X_tell, X_deny, X_grant, M_refused, M_denied, M_done, M_granted, u2_same, u2_ne, u2_u2, upd_same, upd_ne, aW0, ixR_z, ixR_1, M_isWall, M_isPainter, M_isWork, X_has4, X_has10, X_at, or_false, false_or, or_true, true_or, not_true, not_false_iff, Option.isSome_some, isO_d, gI_d, gA_d, pI_d, ne_eq, not_false_eq_true, u2_hi, u2_hj, u2_dyn, u2_dynj, Nat.reduceAdd, mX_r, mX_rD, mX_rDj, mM_r, mX_u, mX_uM, mX_uD, mX_uDj, mM_u, mM_uX, mM_uD, mM_uDj, u2_dd, u2_d0, u2_0d]
          · simp (decide := true) only [f_X15_readPart, f_X15_readPart_75, f_X15_readPart_132, hc40, r3T, hkp, hvr, r2T, v1, h2, e120, h120, st 4, isO_s, gI_s, gA_s, gL_s, pI_s, pZ_s, pL_s, aI_s, aL_s, aN_s, aQ_s, sI_s, sL_s, cr, LNs, Option.map_some, Option.map_none, Option.bind_some, b2, tr, lt, if_true, if_false, ckZ, X_within, M_in, inR_z, X_refuse, X_tell, X_deny, X_grant, M_refused, M_denied, M_done, M_granted, u2_same, u2_ne, u2_u2, upd_same, upd_ne, aW0, ixR_z, ixR_1, M_isWall, M_isPainter, M_isWork, X_has4, X_has10, X_at, or_false, false_or, or_true, true_or, not_true, not_false_iff, Option.isSome_some, isO_d, gI_d, gA_d, pI_d, ne_eq, not_false_eq_true, u2_hi, u2_hj, u2_dyn, u2_dynj, Nat.reduceAdd, mX_r, mX_rD, mX_rDj, mM_r, mX_u, mX_uM, mX_uD, mX_uDj, mM_u, mM_uX, mM_uD, mM_uDj, u2_dd, u2_d0, u2_0d]
    · have r2T : (I 72 28 = 2) = False := by rw [r2]; exact eq_false c2
      have hE : ptE t n i = 1 := by unfold ptE; rw [if_neg c3, if_neg c2]
      rw [if_pos (by rw [hE]; decide), hE]
      refine flt 1 ?_
      simp (decide := true) only [f_X15_readPart, f_X15_readPart_82, hc40, r3T, r2T, st 1, isO_s, gI_s, gA_s, gL_s, pI_s, pZ_s, pL_s, aI_s, aL_s, aN_s, aQ_s, sI_s, sL_s, cr, LNs, Option.map_some, Option.map_none, Option.bind_some, b2, tr, lt, if_true, if_false, ckZ, X_within, M_in, inR_z, X_refuse, X_tell, X_deny, X_grant, M_refused, M_denied, M_done, M_granted, u2_same, u2_ne, u2_u2, upd_same, upd_ne, aW0, ixR_z, ixR_1, M_isWall, M_isPainter, M_isWork, X_has4, X_has10, X_at, or_false, false_or, or_true, true_or, not_true, not_false_iff, Option.isSome_some, isO_d, gI_d, gA_d, pI_d, ne_eq, not_false_eq_true, u2_hi, u2_hj, u2_dyn, u2_dynj, Nat.reduceAdd, mX_r, mX_rD, mX_rDj, mM_r, mX_u, mX_uM, mX_uD, mX_uDj, mM_u, mM_uX, mM_uD, mM_uDj, u2_dd, u2_d0, u2_0d]
end SUM3
