/-! ===== painting: all steps ===== -/
theorem BlS_nil {b : Nat} {F : Nat → Option AE} {E : Nat → Option KD} {P : Nat → Nat → Option Nat} {nx us : Nat} {Lx : Nat → Nat → Int64} {cv c dl wc W H w nb r : Nat} {ho dd dv dt : RW} {R : Nat → RW} {Wd : Nat → Int64} {q s o : Nat} : BlS b F E P nx us Lx cv c dl wc W H w nb r ho dd dv dt R Wd q s s o o := by
  intro A ec hA hsp hec
  refine ⟨A, 0, hA, Nat.le_refl _, fun _ => by omega, fun _ h => absurd h (Nat.lt_irrefl _), fun _ => by omega, ?_, ?_⟩
  · intro I t hX hc ht
    exact ⟨I, fun _ => rfl, fun q => (nsp hsp q).elim, hX, FXp.refl⟩
  · intro I L dp fu hM hR hq he hf
    obtain ⟨fu, rfl⟩ : ∃ z, fu = z + 1 := ⟨fu - 1, by omega⟩
    exact ⟨I, L, p3_stop, hM, FMp.refl⟩
theorem BlS_cons {b : Nat} {F : Nat → Option AE} {E : Nat → Option KD} {P : Nat → Nat → Option Nat} {nx us : Nat} {Lx : Nat → Nat → Int64} {cv c dl wc W H w nb r : Nat} {ho dd dv dt : RW} {R : Nat → RW} {Wd : Nat → Int64} {q s s1 e o o1 o' : Nat} (hr : RD r) (hcv : CV cv) (hse : s < s1) (hs1 : s1 ≤ e) (h1 : StS b F E P nx us Lx cv c dl wc W H w nb r ho dd dv dt R Wd q s s1 o o1) (h2 : BlS b F E P nx us Lx cv c dl wc W H w nb r ho dd dv dt R Wd q s1 e o1 o') : BlS b F E P nx us Lx cv c dl wc W H w nb r ho dd dv dt R Wd q s e o o' := by
  intro A ec hA hsp hec
  obtain ⟨A1, n1, a1, a2, a3, a4, aX, aM⟩ := h1 A ec hA hsp hec
  cases hs2 : A1.2.2.2.1 with
  | true =>
    refine ⟨A1, n1, a1, a2, fun q => (nsp q hs2).elim, fun q => (nsp q hs2).elim, a4, ?_, ?_⟩
    · intro I t hX hc ht
      obtain ⟨J, -, j2, j3, j4⟩ := aX I t hX hc ht
      exact ⟨J, fun q => (nsp q hs2).elim, j2, j3, j4⟩
    · intro I L dp fu hM hR hq he hf
      obtain ⟨fu, rfl⟩ : ∃ z, fu = z + 1 + 1 := ⟨fu - 2, by omega⟩
      obtain ⟨J, M, j1, j2, j3, j4⟩ := aM I L dp fu e hM hR hq (by omega) he
      exact ⟨J, M, j1 hs2, j3, j4⟩
  | false =>
    obtain ⟨A2, n2, b1, b2', b3, b4, b5, bX, bM⟩ := h2 A1 ec a1 hs2 hec
    have a3' := a3 hs2
    have hst := b1.2.1
    have hst1 := a1.2.1
    refine ⟨A2, n1 + n2, b1, Nat.le_trans a2 b2', fun q => by have := b3 q; omega, fun q _ => by have := b3 q; omega, fun q => by have := b5 q; omega, ?_, ?_⟩
    · intro I t hX hc ht
      obtain ⟨J, j1, -, j3, j4⟩ := aX I t hX hc ht
      obtain ⟨J2, y1, y2, y3, y4⟩ := bX J (t + n1) j3 (hc.fx hcv j4) (by omega)
      refine ⟨J2, fun q => ?_, fun q => ?_, y3, j4.trans y4 (Nat.le_refl _)⟩
      · rw [j1 hs2, y1 q, Nat.add_assoc]
      · rw [j1 hs2, y2 q]
    · intro I L dp fu hM hR hq he hf
      obtain ⟨fu, rfl⟩ : ∃ z, fu = z + 1 + 1 := ⟨fu - 2, by omega⟩
      obtain ⟨J, M, -, j2, j3, j4⟩ := aM I L dp fu e hM hR hq (by omega) he
      obtain ⟨J2, M2, y1, y2, y3⟩ := bM J M dp (fu + 1) j3 (hR.fr hr j4) hq he (by omega)
      exact ⟨J2, M2, (j2 hs2).trans y1, y2, j4.trans y3⟩
/-- both paint the steps that lie in a block -/
theorem Blk_sim {b : Nat} {F : Nat → Option AE} {E : Nat → Option KD} {P : Nat → Nat → Option Nat} {nx us : Nat} {Lx : Nat → Nat → Int64} {cv c dl wc W H w nb r : Nat} {ho dd dv dt : RW} {R : Nat → RW} {Wd : Nat → Int64} {ib : Nat} (hcv : CV cv) (hK : K12 E r) (hr : RD r) (hW : W ≤ 16) (hH : H ≤ 12) (hnb : nb ≤ 12) (hdl : dl < 360) : ∀ (f q s e o o' : Nat), Blk (R, Wd, dd, dv, dt, Lx (c + 4)) ib wc f q s e o o' → e ≤ 40 → o' ≤ dl → BlS b F E P nx us Lx cv c dl wc W H w nb r ho dd dv dt R Wd q s e o o' := by
  intro f
  induction f with
  | zero =>
    intro q s e o o' h he ho
    obtain ⟨rfl, rfl⟩ := h
    exact BlS_nil
  | succ f ih =>
    intro q s e o o' h he ho
    rcases h with ⟨rfl, rfl⟩ | ⟨s1, o1, h1, h2, h3, h4, h5, h6⟩
    · exact BlS_nil
    · refine BlS_cons hr hcv h1 h2 ?_ (ih q s1 e o1 o' h6 he ho)
      obtain ⟨k0, k5, k⟩ := h5
      have k0 : dd o = 0 := k0
      have k5 : R 5 s = Int32.ofNat s1 := k5
      rcases k with ⟨w', N, d, q1, q2, q3, q4, q5, q6⟩ | ⟨d, k, q1, q2, q3, q4, q5, q6, q7, q8, q9, qa⟩ | ⟨d, c', q1, q2, q3, q4, q5, q6, q7, q8, q9, qa, qb, qc⟩ | ⟨d, x, q1, q2, q3, q4, q5, q6, q7, q8, q9⟩
      · obtain ⟨t1, v, t2, t3⟩ := q4
        have t1 : dv d = R 2 s := t1
        have t3 : R 2 s = Int32.ofNat v := t3
        have q2 : SumsAt R dd dv ib s N 0 (o + 1) d := q2
        have q3 : dd d = Int32.ofNat w' := q3
        subst q5 q6
        rcases q1 with ⟨rfl, rfl, q1⟩ | ⟨rfl, rfl, q1⟩
        · exact StS_mk hcv hK hr (by omega) (by decide) (by decide) k0 (by omega) hdl q2 (Ac_rect hcv hK hr hW hH (by omega) t2 q2 (by omega) q1 q3 (t1.trans t3) t3 k5)
        · exact StS_mk hcv hK hr (by omega) (by decide) (by decide) k0 (by omega) hdl q2 (Ac_disc hcv hK hr hW hH (by omega) t2 q2 (by omega) q1 q3 (t1.trans t3) t3 k5)
      · obtain ⟨t1, v, t2, t3⟩ := q4
        have t1 : dv d = R 2 s := t1
        have t3 : R 2 s = Int32.ofNat v := t3
        obtain ⟨len, vv, l1, l2, l3, l4, l5, l6⟩ := q8
        subst q9 qa
        exact StS_mk hcv hK hr (by omega) (by decide) (by decide) k0 (by omega) hdl q2 (Ac_say hcv hK hr hW hH hnb (by omega) t2 q2 (by omega) q1 q3 (t1.trans t3) t3 q6 q5 q7 l1 l2 l3 l4 l5 l6 k5)
      · obtain ⟨v, v1, v2⟩ := q5
        have v2 : R 3 s = Int32.ofNat v := v2
        have q4 : dv d = R 3 s := q4
        have qb' : o1 = c' + 1 := qb
        have qc : dt d = Int32.ofNat o1 := qc
        exact StS_mk hcv hK hr (by omega) (by decide) (by decide) k0 (by omega) hdl q2 (Ac_each q8.1 hcv hK hr hW hH (by omega) (by omega) q6 q2 (by omega) (by omega) qb' v1 q1 v2 k5 q3 (q4.trans v2) qc q9 qa (ih (q - 1) (s + 1) s1 (d + 1) c' q8.2 (by omega) (by omega)))
      · have q4 : dv d = x := q4
        have q9 : dt d = Int32.ofNat o1 := q9
        refine StS_mk hcv hK hr (by omega) (by decide) (by decide) k0 (by omega) hdl q2 (Ac_if (a := 0) (ib := 0) q8.1 hcv hK hr (by omega) (by omega) (by omega) hdl q1 q3 ?_ q9 k5 (ih (q - 1) (s + 1) s1 (d + 1) o1 q8.2 (by omega) (by omega)))
        rw [q4]
        exact q5
