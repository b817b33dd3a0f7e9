/-! ===== right: a new spare right ===== -/
theorem dX13_dv : dX13 = dv 13 := by
  funext k
  unfold dX13 dv
  simp only [fk]
  unfold tyX13
  split <;> first | rfl | (split <;> first | rfl | simp_all [fkT, defaultValue])
def nrE (E : Nat → Option KD) (a : Nat) : Nat → Option KD := u2 (u2 (u2 E (149 + a) (some (.inr (13, true)))) (149 + a + 1) (some (.inl (0, 8)))) (149 + a + 2) (some (.inl (0, 8)))
def nrI (I : Nat → Nat → Int32) (a : Nat) : Nat → Nat → Int32 := u2 (u2 (u2 I (149 + a) (fun _ => 0)) (149 + a + 1) (fun _ => 0)) (149 + a + 2) (fun _ => 0)
theorem b2_p {α β γ : Type} (x : α) (y : β) (f : α → β → Option γ) : b2 (some (x, y)) f = f x y := rfl
section RGT5
variable {b : Nat} {F : Nat → Option AE} {D E : Nat → Option KD} {I : Nat → Nat → Int32} {L : Nat → Nat → Int64} {P : Nat → Nat → Option Nat} {nx us : Nat}
theorem M_newRight {a : Nat} (r1 : a + 3 + 149 ≤ 601024) (r2 : us + 19 ≤ 7293034) : ∃ L2 P2, (b2 (nwO 13 3 dX13 (lay b F E I L P (149 + a) us)) fun a17 h18 => (f_X13_init a17 h18).bind fun h19 => some (a17, h19)) = some (ad b (149 + a), lay b F (nrE E a) (nrI I a) L2 P2 (149 + a + 3) (us + 19)) ∧ ∀ c, c < 149 + a → L2 c = L c ∧ P2 c = P c := by
  have q1 : 149 + a + 1 + 1 = 149 + a + 2 := rfl
  have q2 : 149 + a + 2 + 1 = 149 + a + 3 := rfl
  rw [nwO_lay dX13_dv (by omega) (by omega)]
  rw [b2_p]
  have n1 := fun (D : Nat → Option KD) (I : Nat → Nat → Int32) (L : Nat → Nat → Int64) (P : Nat → Nat → Option Nat) => nwA_r (b := b) (F := F) (D := D) (I := I) (L := L) (P := P) (nx := 149 + a + 1) (us := us + 3) (t := 0) (n := 8) (by decide) (by omega) (by omega) (by omega)
  have n2 := fun (D : Nat → Option KD) (I : Nat → Nat → Int32) (L : Nat → Nat → Int64) (P : Nat → Nat → Option Nat) => nwA_r (b := b) (F := F) (D := D) (I := I) (L := L) (P := P) (nx := 149 + a + 2) (us := us + 3 + 8) (t := 0) (n := 8) (by decide) (by omega) (by omega) (by omega)
  rw [q1] at n1
  rw [q2] at n2
  rw [show Int32.ofNat 8 = 8 from rfl] at n1 n2
  apply Exists.intro
  apply Exists.intro
  refine ⟨?_, ?_⟩
  · simp (decide := true) only [f_X13_init, gI_r, gA_r, pI_r, pQ_r, u2_same, u2_u2, u2_dd, u2_d0, u2_0d, ne_eq, Option.bind_some, Option.map_some, b2_p, upd_same, upd_ne, n1, n2, vup_same, vup_ne]
    rw [lay_fin (c := 149 + a) (ci := 13)]
    · have hD : u2 (u2 (u2 (u2 (kdf E) (149 + a) (some (.inr (13, false)))) (149 + a + 1) (some (.inl (0, 8)))) (149 + a + 2) (some (.inl (0, 8)))) (149 + a) (some (.inr (13, true))) = kdf (nrE E a) := by
        unfold nrE
        rw [← kdf_u2 (by omega), ← kdf_u2 (by omega), ← kdf_u2 (by omega)]
        funext q
        unfold u2
        by_cases hq : q = 149 + a
        · subst hq
          rw [if_pos rfl, if_neg (by omega), if_neg (by omega), if_pos rfl]
        · rw [if_neg hq, if_neg hq, if_neg hq]
      rw [hD]
      refine congrArg (fun z => some (ad b (149 + a), z)) ?_
      exact lay_congr rfl (by omega)
    · simp (decide := true) only [u2_same, u2_d0, ne_eq]
    · intro k j hk hj
      unfold cr at hj
      simp only at hj
      split at hj
      · cases hj; simp (decide := true) only [u2_same, u2_d0, u2_0d, u2_dd, vup_same, vup_ne, ne_eq]
      · cases hj; simp (decide := true) only [u2_same, u2_d0, u2_0d, u2_dd, vup_same, vup_ne, ne_eq]
      · cases hj
  · intro c hc
    refine ⟨?_, ?_⟩
    · repeat rw [u2_ne (by omega)]
    · repeat rw [u2_ne (by omega)]
end RGT5
