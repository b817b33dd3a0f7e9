/-! ===== wall ===== -/
/-- a new wall's cells -/
def nwE (E : Nat → Option KD) (a n : Nat) : Nat → Option KD := u2 (u2 (u2 (u2 (u2 E (149 + a) (some (.inr (8, true)))) (149 + a + 1) (some (.inl (2, n)))) (149 + a + 2) (some (.inl (1, n)))) (149 + a + 3) (some (.inl (1, n)))) (149 + a + 4) (some (.inl (1, n)))
def nwRow (wd hg : Nat) (s o : Int32) : RW := upd (upd (upd (upd (upd (upd (upd (upd (fun _ => 0) 0 (Int32.ofNat wd)) 1 (Int32.ofNat hg)) 2 s) 3 o) 4 0) 5 (-1)) 8 (-2)) 9 (-2)
def nwI (I : Nat → Nat → Int32) (a wd hg : Nat) (s o : Int32) : Nat → Nat → Int32 := u2 (u2 (u2 (u2 (u2 I (149 + a) (nwRow wd hg s o)) (149 + a + 1) (fun _ => 0)) (149 + a + 2) (fun k => if k < wd * hg then -1 else 0)) (149 + a + 3) (fun k => if k < wd * hg then -2 else 0)) (149 + a + 4) (fun _ => 0)
theorem u2_swap3 {α : Type} {I : Nat → α} {c d e : Nat} {f g h k : α} (h1 : c ≠ d) (h2 : c ≠ e) : u2 (u2 (u2 (u2 I c f) d g) e h) c k = u2 (u2 (u2 I c k) d g) e h := by
  rw [u2_cm (Ne.symm h2) (f := h), u2_cm (Ne.symm h1) (f := g), u2_u2]
theorem lay_congr {b : Nat} {F : Nat → Option AE} {D : Nat → Option KD} {I I' : Nat → Nat → Int32} {L : Nat → Nat → Int64} {P : Nat → Nat → Option Nat} {nx us us' : Nat} (h : I = I') (h2 : us = us') : layD b F D I L P nx us = layD b F D I' L P nx us' := by rw [h, h2]
section WALLC
variable {b : Nat} {F : Nat → Option AE} {D E : Nat → Option KD} {I : Nat → Nat → Int32} {L : Nat → Nat → Int64} {P : Nat → Nat → Option Nat} {nx us : Nat}
theorem X_newWall {a wd hg : Nat} (s o : Int32) (w1 : 1 ≤ wd) (w2 : wd ≤ 16) (g1 : 1 ≤ hg) (g2 : hg ≤ 12) (r1 : a + 5 + 149 ≤ 601024) (r2 : us + 15 + 4 * 192 ≤ 7293034) :
    ∃ L2 P2, (b2 (nwO 8 15 dX8 (lay b F E I L P (149 + a) us)) fun a12 h13 => (f_X8_init a12 (Int32.ofNat wd) (Int32.ofNat hg) s o h13).bind fun h14 => some (a12, h14)) = some (ad b (149 + a), lay b F (nwE E a (wd * hg)) (nwI I a wd hg s o) L2 P2 (149 + a + 5) (us + 15 + 4 * (wd * hg))) ∧ (∀ c, (c < 149 + a ∨ 149 + a + 5 ≤ c) → L2 c = L c ∧ P2 c = P c) := by
  have hn := n192 w2 g2
  have m1 : mnI (mxI (Int32.ofNat wd) 1) 16 = Int32.ofNat wd := by
    have e1 : mxI (Int32.ofNat wd) 1 = Int32.ofNat wd := by
      unfold mxI; rw [if_neg (by rw [show (Int32.ofNat wd < 1) = False from oN_ltF (c := 1) w1 (by omega)]; exact fun q => q)]
    rw [e1]; unfold mnI; rw [if_neg (by rw [show ((16 : Int32) < Int32.ofNat wd) = False from oN_ltF (a := 16) w2 (by omega)]; exact fun q => q)]
  have m2 : mnI (mxI (Int32.ofNat hg) 1) 12 = Int32.ofNat hg := by
    have e1 : mxI (Int32.ofNat hg) 1 = Int32.ofNat hg := by
      unfold mxI; rw [if_neg (by rw [show (Int32.ofNat hg < 1) = False from oN_ltF (c := 1) g1 (by omega)]; exact fun q => q)]
    rw [e1]; unfold mnI; rw [if_neg (by rw [show ((12 : Int32) < Int32.ofNat hg) = False from oN_ltF (a := 12) g2 (by omega)]; exact fun q => q)]
  have q1 : 149 + a + 1 + 1 = 149 + a + 2 := rfl
  have q2 : 149 + a + 2 + 1 = 149 + a + 3 := rfl
  have q3 : 149 + a + 3 + 1 = 149 + a + 4 := rfl
  have q4 : 149 + a + 4 + 1 = 149 + a + 5 := rfl
  rw [nwO_lay dX8_dv (by omega) (by omega)]
  simp only [b2]
  have n1 := fun (D : Nat → Option KD) (I : Nat → Nat → Int32) (L : Nat → Nat → Int64) (P : Nat → Nat → Option Nat) => nwA_r (b := b) (F := F) (D := D) (I := I) (L := L) (P := P) (nx := 149 + a + 1) (us := us + 15) (t := 2) (n := wd * hg) (by decide) (by omega) (by omega) (by omega)
  have n2 := fun (D : Nat → Option KD) (I : Nat → Nat → Int32) (L : Nat → Nat → Int64) (P : Nat → Nat → Option Nat) => nwA_r (b := b) (F := F) (D := D) (I := I) (L := L) (P := P) (nx := 149 + a + 2) (us := us + 15 + wd * hg) (t := 1) (n := wd * hg) (by decide) (by omega) (by omega) (by omega)
  have n3 := fun (D : Nat → Option KD) (I : Nat → Nat → Int32) (L : Nat → Nat → Int64) (P : Nat → Nat → Option Nat) => nwA_r (b := b) (F := F) (D := D) (I := I) (L := L) (P := P) (nx := 149 + a + 3) (us := us + 15 + wd * hg + wd * hg) (t := 1) (n := wd * hg) (by decide) (by omega) (by omega) (by omega)
  have n4 := fun (D : Nat → Option KD) (I : Nat → Nat → Int32) (L : Nat → Nat → Int64) (P : Nat → Nat → Option Nat) => nwA_r (b := b) (F := F) (D := D) (I := I) (L := L) (P := P) (nx := 149 + a + 4) (us := us + 15 + wd * hg + wd * hg + wd * hg) (t := 1) (n := wd * hg) (by decide) (by omega) (by omega) (by omega)
  rw [q1] at n1
  rw [q2] at n2
  rw [q3] at n3
  rw [q4] at n4
  have f1 := fun (I : Nat → Nat → Int32) (L : Nat → Nat → Int64) (P : Nat → Nat → Option Nat) (nx us : Nat) (v : Int32) => J_fillB (b := b) (F := F) (I := I) (L := L) (P := P) (nx := nx) (us := us) (D := u2 (u2 (u2 (u2 (u2 (kdf E) (149 + a) (some (.inr (8, false)))) (149 + a + 1) (some (.inl (2, wd * hg)))) (149 + a + 2) (some (.inl (1, wd * hg)))) (149 + a + 3) (some (.inl (1, wd * hg)))) (149 + a + 4) (some (.inl (1, wd * hg)))) (c := 149 + a + 2) (n := wd * hg) v (by simp (decide := true) only [u2_same, u2_dd, ne_eq]) (by omega)
  have f2 := fun (I : Nat → Nat → Int32) (L : Nat → Nat → Int64) (P : Nat → Nat → Option Nat) (nx us : Nat) (v : Int32) => J_fillB (b := b) (F := F) (I := I) (L := L) (P := P) (nx := nx) (us := us) (D := u2 (u2 (u2 (u2 (u2 (kdf E) (149 + a) (some (.inr (8, false)))) (149 + a + 1) (some (.inl (2, wd * hg)))) (149 + a + 2) (some (.inl (1, wd * hg)))) (149 + a + 3) (some (.inl (1, wd * hg)))) (149 + a + 4) (some (.inl (1, wd * hg)))) (c := 149 + a + 3) (n := wd * hg) v (by simp (decide := true) only [u2_same, u2_dd, ne_eq]) (by omega)
  apply Exists.intro
  apply Exists.intro
  refine ⟨?_, ?_⟩
  · simp (decide := true) only [f_X8_init, m1, m2, gI_r, gA_r, pI_r, pQ_r, u2_same, u2_u2, u2_dd, u2_d0, u2_0d, ne_eq, Option.bind_some, Option.map_some, b2, upd_same, upd_ne, oN_mul, n1, n2, n3, n4, vup_same, vup_ne, f1, f2, by_m1.2, by_m2.2]
    rw [lay_fin (c := 149 + a) (ci := 8)]
    · have hD : u2 (u2 (u2 (u2 (u2 (u2 (kdf E) (149 + a) (some (.inr (8, false)))) (149 + a + 1) (some (.inl (2, wd * hg)))) (149 + a + 2) (some (.inl (1, wd * hg)))) (149 + a + 3) (some (.inl (1, wd * hg)))) (149 + a + 4) (some (.inl (1, wd * hg)))) (149 + a) (some (.inr (8, true))) = kdf (nwE E a (wd * hg)) := by
        unfold nwE
        rw [← kdf_u2 (by omega), ← kdf_u2 (by omega), ← kdf_u2 (by omega), ← kdf_u2 (by omega), ← kdf_u2 (by omega)]
        funext q
        unfold u2
        by_cases hq : q = 149 + a
        · subst hq
          rw [if_pos rfl, if_neg (by omega), if_neg (by omega), if_neg (by omega), if_neg (by omega), if_pos rfl]
        · rw [if_neg hq, if_neg hq, if_neg hq]
      rw [hD]
      refine congrArg (fun z => some (ad b (149 + a), z)) ?_
      refine lay_congr ?_ (by omega)
      funext q
      unfold nwI nwRow u2
      by_cases h0 : q = 149 + a
      · subst h0
        simp (decide := true) only [if_true, show ¬ 149 + a = 149 + a + 1 by omega, show ¬ 149 + a = 149 + a + 2 by omega, show ¬ 149 + a = 149 + a + 3 by omega, show ¬ 149 + a = 149 + a + 4 by omega, if_false]
      · by_cases h1 : q = 149 + a + 1
        · subst h1
          simp (decide := true) only [if_true, show ¬ 149 + a + 1 = 149 + a by omega, show ¬ 149 + a + 1 = 149 + a + 2 by omega, show ¬ 149 + a + 1 = 149 + a + 3 by omega, show ¬ 149 + a + 1 = 149 + a + 4 by omega, if_false]
        · by_cases h2 : q = 149 + a + 2
          · subst h2
            simp (decide := true) only [if_true, show ¬ 149 + a + 2 = 149 + a by omega, show ¬ 149 + a + 2 = 149 + a + 1 by omega, show ¬ 149 + a + 2 = 149 + a + 3 by omega, show ¬ 149 + a + 2 = 149 + a + 4 by omega, if_false]
          · by_cases h3 : q = 149 + a + 3
            · subst h3
              simp (decide := true) only [if_true, show ¬ 149 + a + 3 = 149 + a by omega, show ¬ 149 + a + 3 = 149 + a + 1 by omega, show ¬ 149 + a + 3 = 149 + a + 2 by omega, show ¬ 149 + a + 3 = 149 + a + 4 by omega, if_false]
            · by_cases h4 : q = 149 + a + 4
              · subst h4
                simp (decide := true) only [if_true, show ¬ 149 + a + 4 = 149 + a by omega, show ¬ 149 + a + 4 = 149 + a + 1 by omega, show ¬ 149 + a + 4 = 149 + a + 2 by omega, show ¬ 149 + a + 4 = 149 + a + 3 by omega, if_false]
              · simp only [h0, h1, h2, h3, h4, if_false]
    · simp (decide := true) only [u2_same, u2_d0, ne_eq]
    · intro k j hk hj
      unfold cr at hj
      simp only at hj
      split at hj
      · cases hj; simp (decide := true) only [u2_same, u2_d0, u2_0d, u2_dd, vup_same, vup_ne, ne_eq]
      · cases hj; simp (decide := true) only [u2_same, u2_d0, u2_0d, u2_dd, vup_same, vup_ne, ne_eq]
      · cases hj; simp (decide := true) only [u2_same, u2_d0, u2_0d, u2_dd, vup_same, vup_ne, ne_eq]
      · cases hj; simp (decide := true) only [u2_same, u2_d0, u2_0d, u2_dd, vup_same, vup_ne, ne_eq]
      · cases hj
  · intro c hc
    refine ⟨?_, ?_⟩
    · repeat rw [u2_ne (by omega)]
    · repeat rw [u2_ne (by omega)]
end WALLC
