/-- lengths of the static arrays -/
theorem LNs : ln 2 = 16 ∧ ln 3 = 16 ∧ ln 4 = 256 ∧ ln 6 = 10 ∧ ln 7 = 10 ∧ ln 8 = 10 ∧ ln 9 = 160 ∧ ln 10 = 160 ∧ ln 11 = 300 ∧ ln 12 = 300 ∧ ln 14 = 40 ∧ ln 15 = 40 ∧ ln 16 = 40 ∧ ln 17 = 40 ∧ ln 18 = 40 ∧ ln 19 = 40 ∧ ln 20 = 40 ∧ ln 21 = 40 ∧ ln 22 = 40 ∧ ln 23 = 115 ∧ ln 24 = 60 ∧ ln 25 = 60 ∧ ln 27 = 6 ∧ ln 28 = 60 ∧ ln 29 = 0 ∧ ln 30 = 6 ∧ ln 31 = 6 ∧ ln 32 = 16 ∧ ln 34 = 100 ∧ ln 35 = 100 ∧ ln 36 = 100 ∧ ln 37 = 9 ∧ ln 38 = 0 ∧ ln 39 = 400 ∧ ln 41 = 401 ∧ ln 42 = 401 ∧ ln 43 = 401 ∧ ln 46 = 360 ∧ ln 47 = 360 ∧ ln 48 = 360 ∧ ln 49 = 40 ∧ ln 50 = 6 ∧ ln 51 = 21 ∧ ln 52 = 12 ∧ ln 53 = 12 ∧ ln 55 = 9 ∧ ln 56 = 72 ∧ ln 57 = 72 ∧ ln 59 = 192 ∧ ln 60 = 192 ∧ ln 61 = 5 ∧ ln 62 = 32 ∧ ln 63 = 6 ∧ ln 64 = 6 ∧ ln 66 = 192 ∧ ln 67 = 192 ∧ ln 68 = 5 ∧ ln 69 = 32 ∧ ln 70 = 6 ∧ ln 71 = 6 ∧ ln 73 = 16 ∧ ln 74 = 16 ∧ ln 75 = 16 ∧ ln 76 = 16 ∧ ln 77 = 16 ∧ ln 78 = 16 ∧ ln 79 = 16 ∧ ln 80 = 16 ∧ ln 81 = 16 ∧ ln 82 = 16 ∧ ln 83 = 16 ∧ ln 84 = 3072 ∧ ln 85 = 256 ∧ ln 86 = 3072 ∧ ln 87 = 3072 ∧ ln 88 = 3072 ∧ ln 89 = 256 ∧ ln 91 = 400 ∧ ln 92 = 12 ∧ ln 94 = 40 ∧ ln 95 = 40 ∧ ln 96 = 40 ∧ ln 97 = 40 ∧ ln 98 = 40 ∧ ln 99 = 40 ∧ ln 100 = 160 ∧ ln 101 = 160 ∧ ln 102 = 400 ∧ ln 103 = 400 ∧ ln 104 = 40 ∧ ln 105 = 12 ∧ ln 106 = 192 ∧ ln 107 = 5 ∧ ln 108 = 400 ∧ ln 109 = 40 ∧ ln 110 = 192 ∧ ln 111 = 10 ∧ ln 112 = 10 ∧ ln 113 = 160 ∧ ln 114 = 300 ∧ ln 115 = 300 ∧ ln 116 = 300 ∧ ln 117 = 300 ∧ ln 118 = 6 ∧ ln 119 = 6 ∧ ln 120 = 6 ∧ ln 121 = 16 ∧ ln 122 = 10 ∧ ln 123 = 40 ∧ ln 124 = 40 ∧ ln 125 = 40 ∧ ln 126 = 40 ∧ ln 127 = 40 ∧ ln 128 = 40 ∧ ln 129 = 40 ∧ ln 130 = 40 ∧ ln 131 = 40 ∧ ln 132 = 7680 ∧ ln 133 = 3650 ∧ ln 134 = 3650 ∧ ln 135 = 60 ∧ ln 136 = 60 ∧ ln 137 = 40 ∧ ln 138 = 40 ∧ ln 139 = 100 ∧ ln 140 = 100 ∧ ln 141 = 100 ∧ ln 142 = 9 ∧ ln 143 = 4608 ∧ ln 144 = 8 ∧ ln 146 = 8 ∧ ln 147 = 8 ∧ ln 148 = 401 := ⟨rfl, rfl, rfl, rfl, rfl, rfl, rfl, rfl, rfl, rfl, rfl, rfl, rfl, rfl, rfl, rfl, rfl, rfl, rfl, rfl, rfl, rfl, rfl, rfl, rfl, rfl, rfl, rfl, rfl, rfl, rfl, rfl, rfl, rfl, rfl, rfl, rfl, rfl, rfl, rfl, rfl, rfl, rfl, rfl, rfl, rfl, rfl, rfl, rfl, rfl, rfl, rfl, rfl, rfl, rfl, rfl, rfl, rfl, rfl, rfl, rfl, rfl, rfl, rfl, rfl, rfl, rfl, rfl, rfl, rfl, rfl, rfl, rfl, rfl, rfl, rfl, rfl, rfl, rfl, rfl, rfl, rfl, rfl, rfl, rfl, rfl, rfl, rfl, rfl, rfl, rfl, rfl, rfl, rfl, rfl, rfl, rfl, rfl, rfl, rfl, rfl, rfl, rfl, rfl, rfl, rfl, rfl, rfl, rfl, rfl, rfl, rfl, rfl, rfl, rfl, rfl, rfl, rfl, rfl, rfl, rfl, rfl, rfl, rfl, rfl, rfl, rfl, rfl, rfl, rfl, rfl, rfl, rfl⟩
/-! ===== calls: tin, left ===== -/
/-- the tins of both sides -/
def GTin (n : Nat) (c l c' l' : Nat → Int32) : Prop := ∀ k, k < n → c k = c' k ∧ l k = l' k ∧ 0 ≤ c k ∧ c k ≤ 7 ∧ 0 ≤ l k
def Cn (n m : Nat) (x y : Int32) : Prop := n ≤ m ∧ x = Int32.ofNat n ∧ y = Int32.ofNat n
theorem oN_succ (n : Nat) : Int32.ofNat n + 1 = Int32.ofNat (n + 1) := oN_add n 1
theorem oN_pred (n : Nat) : Int32.ofNat (n + 1) - 1 = Int32.ofNat n := by
  rw [← oN_succ]
  exact Int32.add_sub_cancel _ _
theorem aW0 (x : Int32) : aW 0 x = x := rfl
section C2
variable {b : Nat} {F : Nat → Option AE} {D E : Nat → Option KD} {I : Nat → Nat → Int32} {L : Nat → Nat → Int64} {P : Nat → Nat → Option Nat} {nx us : Nat}
theorem call_tin (x y : Int32) {nt : Nat} (hT : GTI I) (hn : Cn nt 60 (I 13 15) (I 72 77)) (hG : GTin nt (I 24) (I 25) (I 135) (I 136)) : ∃ I2 nt2, Run b F E L P nx us (f_X11_tin (ad b 0) x y) (f_X15_tin (ad b 72) x y) I I2 ∧ GTI I2 ∧ Cn nt2 60 (I2 13 15) (I2 72 77) ∧ GTin nt2 (I2 24) (I2 25) (I2 135) (I2 136) ∧ Fr I I2 [(0, 16), (13, 15), (72, 0), (72, 1), (72, 2), (72, 77)] [24, 25, 135, 136] := by
  obtain ⟨hn1, hn2, hn3⟩ := hn
  by_cases hx : (x < 0 ∨ 7 < x)
  · apply Exists.intro
    refine ⟨nt, ?_, ?_, ?_, ?_, ?_⟩
    · apply Exists.intro; apply Exists.intro
      refine ⟨?_, ?_⟩
      · simp (decide := true) only [f_X11_tin, f_X11_tin_21, hx, isO_s, gI_s, gA_s, gL_s, pI_s, pL_s, aI_s, aL_s, aN_s, sI_s, sL_s, cr, LNs, Option.map_some, Option.bind_some, b2, tr, if_true, if_false, ckZ, X_within, M_in, inR_z, X_refuse, X_tell, X_deny, X_grant, M_refused, M_denied, M_done, M_granted, u2_same, u2_ne, u2_u2, upd_same, upd_ne]
        exact rfl
      · simp (decide := true) only [f_X15_tin, f_X15_tin_26, hx, isO_s, gI_s, gA_s, gL_s, pI_s, pL_s, aI_s, aL_s, aN_s, sI_s, sL_s, cr, LNs, Option.map_some, Option.bind_some, b2, tr, if_true, if_false, ckZ, X_within, M_in, inR_z, X_refuse, X_tell, X_deny, X_grant, M_refused, M_denied, M_done, M_granted, u2_same, u2_ne, u2_u2, upd_same, upd_ne]
        exact rfl
    · simp (decide := true) only [GTI, u2_same, u2_ne, u2_u2, upd_same, upd_ne, mE, u2_dyn, dyn_u2]
      exact GT_end hT (by decide)
    · simp (decide := true) only [u2_same, u2_ne, u2_u2, upd_same, upd_ne, mE, u2_dyn, dyn_u2]
      exact ⟨hn1, hn2, hn3⟩
    · simp (decide := true) only [u2_same, u2_ne, u2_u2, upd_same, upd_ne, mE, u2_dyn, dyn_u2]
      exact hG
    · exact (by intro c k h1 h2; simp at h1 h2; simp only [mE, u2, upd]; (repeat' split) <;> first | rfl | (subst_vars; simp_all [upd]))
  · by_cases hy : (y < 1 ∨ 999 < y)
    · apply Exists.intro
      refine ⟨nt, ?_, ?_, ?_, ?_, ?_⟩
      · apply Exists.intro; apply Exists.intro
        refine ⟨?_, ?_⟩
        · simp (decide := true) only [f_X11_tin, f_X11_tin_21, hx, hy, isO_s, gI_s, gA_s, gL_s, pI_s, pL_s, aI_s, aL_s, aN_s, sI_s, sL_s, cr, LNs, Option.map_some, Option.bind_some, b2, tr, if_true, if_false, ckZ, X_within, M_in, inR_z, X_refuse, X_tell, X_deny, X_grant, M_refused, M_denied, M_done, M_granted, u2_same, u2_ne, u2_u2, upd_same, upd_ne]
          exact rfl
        · simp (decide := true) only [f_X15_tin, f_X15_tin_26, hx, hy, isO_s, gI_s, gA_s, gL_s, pI_s, pL_s, aI_s, aL_s, aN_s, sI_s, sL_s, cr, LNs, Option.map_some, Option.bind_some, b2, tr, if_true, if_false, ckZ, X_within, M_in, inR_z, X_refuse, X_tell, X_deny, X_grant, M_refused, M_denied, M_done, M_granted, u2_same, u2_ne, u2_u2, upd_same, upd_ne]
          exact rfl
      · simp (decide := true) only [GTI, u2_same, u2_ne, u2_u2, upd_same, upd_ne, mE, u2_dyn, dyn_u2]
        exact GT_end hT (by decide)
      · simp (decide := true) only [u2_same, u2_ne, u2_u2, upd_same, upd_ne, mE, u2_dyn, dyn_u2]
        exact ⟨hn1, hn2, hn3⟩
      · simp (decide := true) only [u2_same, u2_ne, u2_u2, upd_same, upd_ne, mE, u2_dyn, dyn_u2]
        exact hG
      · exact (by intro c k h1 h2; simp at h1 h2; simp only [mE, u2, upd]; (repeat' split) <;> first | rfl | (subst_vars; simp_all [upd]))
    · by_cases hz : nt = 60
      · subst hz
        apply Exists.intro
        refine ⟨60, ?_, ?_, ?_, ?_, ?_⟩
        · apply Exists.intro; apply Exists.intro
          refine ⟨?_, ?_⟩
          · simp (decide := true) only [f_X11_tin, hx, hy, hn2, isO_s, gI_s, gA_s, gL_s, pI_s, pL_s, aI_s, aL_s, aN_s, sI_s, sL_s, cr, LNs, Option.map_some, Option.bind_some, b2, tr, if_true, if_false, ckZ, X_within, M_in, inR_z, X_refuse, X_tell, X_deny, X_grant, M_refused, M_denied, M_done, M_granted, u2_same, u2_ne, u2_u2, upd_same, upd_ne]
            exact rfl
          · simp (decide := true) only [f_X15_tin, hx, hy, hn3, isO_s, gI_s, gA_s, gL_s, pI_s, pL_s, aI_s, aL_s, aN_s, sI_s, sL_s, cr, LNs, Option.map_some, Option.bind_some, b2, tr, if_true, if_false, ckZ, X_within, M_in, inR_z, X_refuse, X_tell, X_deny, X_grant, M_refused, M_denied, M_done, M_granted, u2_same, u2_ne, u2_u2, upd_same, upd_ne]
            exact rfl
        · simp (decide := true) only [GTI, u2_same, u2_ne, u2_u2, upd_same, upd_ne, mE, u2_dyn, dyn_u2]
          exact GT_end hT (by decide)
        · simp (decide := true) only [u2_same, u2_ne, u2_u2, upd_same, upd_ne, mE, u2_dyn, dyn_u2]
          exact ⟨hn1, hn2, hn3⟩
        · simp (decide := true) only [u2_same, u2_ne, u2_u2, upd_same, upd_ne, mE, u2_dyn, dyn_u2]
          exact hG
        · exact (by intro c k h1 h2; simp at h1 h2; simp only [mE, u2, upd]; (repeat' split) <;> first | rfl | (subst_vars; simp_all [upd]))
      · have h1 : nt < 60 := by omega
        have e1 : Int32.ofNat nt < 60 := (oN_lt (by omega) (by omega : 60 < 2147483648)).mpr h1
        have e2 : ¬ Int32.ofNat nt = 60 := fun q => hz ((oN_eq (by omega) (by omega : 60 < 2147483648)).mp q)
        have e3 := iN_oN h1 (by omega)
        apply Exists.intro
        refine ⟨nt + 1, ?_, ?_, ?_, ?_, ?_⟩
        · apply Exists.intro; apply Exists.intro
          refine ⟨?_, ?_⟩
          · simp (decide := true) only [f_X11_tin, f_X10_addTin, hx, hy, hn2, e1, e3, oN_succ, oN_pred, aW0, isO_s, gI_s, gA_s, gL_s, pI_s, pL_s, aI_s, aL_s, aN_s, sI_s, sL_s, cr, LNs, Option.map_some, Option.bind_some, b2, tr, if_true, if_false, ckZ, X_within, M_in, inR_z, X_refuse, X_tell, X_deny, X_grant, M_refused, M_denied, M_done, M_granted, u2_same, u2_ne, u2_u2, upd_same, upd_ne]
            exact rfl
          · simp (decide := true) only [f_X15_tin, hx, hy, hn3, e2, e3, oN_succ, oN_pred, aW0, isO_s, gI_s, gA_s, gL_s, pI_s, pL_s, aI_s, aL_s, aN_s, sI_s, sL_s, cr, LNs, Option.map_some, Option.bind_some, b2, tr, if_true, if_false, ckZ, X_within, M_in, inR_z, X_refuse, X_tell, X_deny, X_grant, M_refused, M_denied, M_done, M_granted, u2_same, u2_ne, u2_u2, upd_same, upd_ne]
            exact rfl
        · simp (decide := true) only [GTI, u2_same, u2_ne, u2_u2, upd_same, upd_ne, mE, u2_dyn, dyn_u2]
          exact GT_end hT (by decide)
        · simp (decide := true) only [u2_same, u2_ne, u2_u2, upd_same, upd_ne, mE, u2_dyn, dyn_u2]
          exact ⟨h1, rfl, rfl⟩
        · simp (decide := true) only [u2_same, u2_ne, u2_u2, upd_same, upd_ne, mE, u2_dyn, dyn_u2]
          intro k hk
          by_cases hkn : k = nt
          · subst hkn
            simp only [upd_same]
            refine ⟨trivial, trivial, Int32.not_lt.mp fun q => hx (Or.inl q), Int32.not_lt.mp fun q => hx (Or.inr q), ?_⟩
            have : ¬ y < 1 := fun q => hy (Or.inl q)
            rw [Int32.lt_iff_toInt_lt] at this
            rw [Int32.le_iff_toInt_le]
            have e : (1 : Int32).toInt = 1 := by decide
            have e0 : (0 : Int32).toInt = 0 := by decide
            omega
          · simp only [upd_ne hkn]
            exact hG k (by omega)
        · exact (by intro c k h1 h2; simp at h1 h2; simp only [mE, u2, upd]; (repeat' split) <;> first | rfl | (subst_vars; simp_all [upd]))
end C2
