/-! ===== a work is finished: the relation ===== -/
/-- what stands within a day -/
def PRm (nw nk nt np ndr td : Nat) (q wd hg : Nat → Nat) (I : Nat → Nat → Int32) : Prop := Cn nw 16 (I 1 1) (I 72 4) ∧ Cn nk 40 (I 13 1) (I 72 76) ∧ Cn nt 60 (I 13 15) (I 72 77) ∧ Cn td 3649 (I 13 14) (I 72 5) ∧ GTin nt (I 24) (I 25) (I 135) (I 136) ∧ GWrk nk nw np ndr td (I 14) (I 15) (I 16) (I 17) (I 18) (I 20) (I 21) (I 22) (I 123) (I 124) (I 125) (I 126) (I 127) (I 128) (I 129) (I 130) (I 131) ∧ WALL nw nk nt q wd hg I
/-- the frame of finishing -/
def FinF (ow : Nat → Nat) (I I2 : Nat → Nat → Int32) : Prop := (∀ c, c < 149 → [20, 22, 25, 80, 81, 86, 87, 88, 129, 131, 136].contains c = false → I2 c = I c) ∧ ∀ c, ow c ≠ 1 → I2 (149 + c) = I (149 + c)
theorem FinF.refl {ow : Nat → Nat} (I : Nat → Nat → Int32) : FinF ow I I := ⟨fun _ _ _ => rfl, fun _ _ => rfl⟩
theorem FinF.trans {ow : Nat → Nat} {I I2 I3 : Nat → Nat → Int32} (h : FinF ow I I2) (h2 : FinF ow I2 I3) : FinF ow I I3 := ⟨fun c a b => by rw [h2.1 c a b, h.1 c a b], fun c a => by rw [h2.2 c a, h.2 c a]⟩
section FIN2
variable {b : Nat} {F : Nat → Option AE} {D E : Nat → Option KD} {I : Nat → Nat → Int32} {L : Nat → Nat → Int64} {P : Nat → Nat → Option Nat} {nx us : Nat}
theorem finish1 {nw nk nt np ndr td k : Nat} {q wd hg ow : Nat → Nat} (hA : WA nw q wd hg ow E (P 2)) (hP : PRm nw nk nt np ndr td q wd hg I) (hk : k < nk) (h3 : I 126 k = 3) (ho : I 129 k = -2) :
    ∃ I2 : Nat → Nat → Int32, PRm nw nk nt np ndr td q wd hg I2 ∧ I2 129 = upd (I 129) k (Int32.ofNat td) ∧ FinF ow I I2 ∧
    (∀ J : Nat → Nat → Int32, f_X10_finish (ad b 13) (Int32.ofNat k) (lay b F E (mX J I) L P nx us) = some (lay b F E (mX J I2) L P nx us)) ∧
    (∀ J : Nat → Nat → Int32, f_X15_isOver (ad b 72) (Int32.ofNat k) (lay b F E (mM J I) L P nx us) = some (lay b F E (mM J I2) L P nx us)) := by
  obtain ⟨hnw, hnk, hnt, htd, hTin, hWrk, hB, hC, hD, hE, hF, hG, hH, hI, hU⟩ := hP
  obtain ⟨g1, ⟨w, hw, g2⟩, g3, g4, g5, g6, g7, g8, g9, g10, g11, g12⟩ := hWrk k hk
  have hk40 : k < 40 := by have := hnk.1; omega
  have hw16 : w < 16 := by have := hnw.1; omega
  have h80 : I 80 w = Int32.ofNat k := hE.2 k w hk hw ho g2
  obtain ⟨-, hK, a1, a2, a3, a4, a5, a6⟩ := hA w hw
  have h192 := n192 a2 a4
  obtain ⟨b1, b2', b3, b4⟩ := hB w hw
  have e3 : iN (Int32.ofNat k) 40 = some k := iN_oN hk40 (by omega)
  have e4 : iN (Int32.ofNat w) 16 = some w := iN_oN hw16 (by omega)
  have hwa := wAt_w hnw.2.1 hnw.1 hA hw
  have hm80 : Int32.ofNat k ≠ -2 := oN_m2 (by omega)
  have hmtd : Int32.ofNat td ≠ -2 := oN_m2 (by have := htd.1; omega)
  let I0 : Nat → Nat → Int32 := u2 (u2 (u2 (u2 I 20 (upd (I 20) k (I 13 14))) 129 (upd (I 129) k (I 72 5))) 80 (upd (I 80) w (-2))) 81 (upd (I 81) w (Int32.ofNat k))
  have hCH : CH nt w k (q w) (wd w) (hg w) I0 := by
    unfold CH
    simp (decide := true) only [I0, u2_same, u2_ne, u2_u2, upd_same, upd_ne, mE, u2_dyn, dyn_u2, dyn_hi, u2_hi, u2_hj, u2_dynj, u2_dd, u2_d0, u2_0d]
    refine ⟨hnt, hTin, g12, b3, b4, fun c hc => ?_⟩
    obtain ⟨i1, i2, i3, -⟩ := hI w hw k hk40 h80 c hc
    rw [dy4] at i1
    exact ⟨i1, i2, i3⟩
  obtain ⟨I2, z1, ⟨f1, f2, f3, f4⟩, z3, z4, z5⟩ := cells (b := b) (F := F) (E := E) (L := L) (P := P) (nx := nx) (us := us) (nt := nt) hw16 hk40 h192 hK (wd w * hg w) 0 (by omega) I0 hCH
  -- rows of I2
  have rS : ∀ c, c < 149 → [20, 22, 25, 80, 81, 86, 87, 88, 129, 131, 136].contains c = false → I2 c = I c := by
    intro c c1 c2
    simp at c2
    rw [f1 c (by omega) (by omega) (by omega) (by omega) (by omega) (by omega) (by omega) (by omega) (by omega)]
    show u2 (u2 (u2 (u2 I 20 _) 129 _) 80 _) 81 _ c = _
    rw [u2_ne (by omega), u2_ne (by omega), u2_ne (by omega), u2_ne (by omega)]
  have r20 : I2 20 = upd (I 20) k (I 13 14) := by
    rw [f1 20 (by omega) (by omega) (by omega) (by omega) (by omega) (by omega) (by omega) (by omega) (by omega)]
    simp (decide := true) only [I0, u2_same, u2_ne, u2_u2, upd_same, upd_ne, mE, u2_dyn, dyn_u2, dyn_hi, u2_hi, u2_hj, u2_dynj, u2_dd, u2_d0, u2_0d]
  have r129 : I2 129 = upd (I 129) k (I 72 5) := by
    rw [f1 129 (by omega) (by omega) (by omega) (by omega) (by omega) (by omega) (by omega) (by omega) (by omega)]
    simp (decide := true) only [I0, u2_same, u2_ne, u2_u2, upd_same, upd_ne, mE, u2_dyn, dyn_u2, dyn_hi, u2_hi, u2_hj, u2_dynj, u2_dd, u2_d0, u2_0d]
  have r80 : I2 80 = upd (I 80) w (-2) := by
    rw [f1 80 (by omega) (by omega) (by omega) (by omega) (by omega) (by omega) (by omega) (by omega) (by omega)]
    simp (decide := true) only [I0, u2_same, u2_ne, u2_u2, upd_same, upd_ne, mE, u2_dyn, dyn_u2, dyn_hi, u2_hi, u2_hj, u2_dynj, u2_dd, u2_d0, u2_0d]
  have r81 : I2 81 = upd (I 81) w (Int32.ofNat k) := by
    rw [f1 81 (by omega) (by omega) (by omega) (by omega) (by omega) (by omega) (by omega) (by omega) (by omega)]
    simp (decide := true) only [I0, u2_same, u2_ne, u2_u2, upd_same, upd_ne, mE, u2_dyn, dyn_u2, dyn_hi, u2_hi, u2_hj, u2_dynj, u2_dd, u2_d0, u2_0d]
  have r22 : ∀ j, j ≠ k → I2 22 j = I 22 j ∧ I2 131 j = I 131 j := by
    intro j hj
    have := f2 j hj
    simp (decide := true) only [I0, u2_ne, ne_eq] at this
    exact this
  have r86 : ∀ x, (x < 192 * w ∨ 192 * w + wd w * hg w ≤ x) → I2 86 x = I 86 x ∧ I2 87 x = I 87 x ∧ I2 88 x = I 88 x := by
    intro x hx
    have := f4 x (by omega)
    simp (decide := true) only [I0, u2_ne, ne_eq] at this
    exact this
  have rD : ∀ c, c ≠ q w + 2 → c ≠ q w + 3 → I2 (149 + c) = I (149 + c) := by
    intro c c1 c2
    rw [f1 (149 + c) (by omega) (by omega) (by omega) (by omega) (by omega) (by omega) (by omega) (by omega) (by omega)]
    show u2 (u2 (u2 (u2 I 20 _) 129 _) 80 _) 81 _ (149 + c) = _
    rw [u2_ne (by omega), u2_ne (by omega), u2_ne (by omega), u2_ne (by omega)]
  obtain ⟨-, t2, t3, -, -, t6⟩ := z1
  have hoth : ∀ w', w' < nw → w' ≠ w → ∀ i, i < 5 → ∀ i', i' < 5 → q w' + i ≠ q w + i' := by
    intro w' hw' hne i hi i' hi'
    have := a5 w' hw' (Ne.symm hne)
    omega
  have rW : ∀ w', w' < nw → w' ≠ w → ∀ i, i < 5 → I2 (149 + (q w' + i)) = I (149 + (q w' + i)) := by
    intro w' hw' hne i hi
    exact rD _ (hoth w' hw' hne i hi 2 (by omega)) (hoth w' hw' hne i hi 3 (by omega))
  let r : RW := upd (upd (upd (I (149 + q w)) 8 (-2)) 9 (Int32.ofNat k)) 10 (I 13 14)
  have dW : u2 (dyn I2) (q w) r (q w) = r := u2_same _ _ _
  have dO : ∀ w', w' < nw → w' ≠ w → ∀ i, i < 5 → u2 (dyn I2) (q w) r (q w' + i) = dyn I (q w' + i) := by
    intro w' hw' hne i hi
    rw [u2_ne (by have := hoth w' hw' hne i hi 0 (by omega); omega)]
    exact rW w' hw' hne i hi
  have dI : ∀ i, 1 ≤ i → i < 5 → u2 (dyn I2) (q w) r (q w + i) = I2 (149 + q w + i) := by
    intro i h1 h2
    rw [u2_ne (by omega)]
    show I2 (149 + (q w + i)) = _
    rw [Nat.add_assoc]
  have htd' : I 13 14 = I 72 5 := by rw [htd.2.1, htd.2.2]
  refine ⟨u2 I2 (149 + q w) r, ⟨?_, ?_, ?_, ?_, ?_, ?_, ?_, ?_, ?_, ?_, ?_, ?_, ?_, ?_, ?_⟩, ?_, ⟨?_, ?_⟩, ?_, ?_⟩
  · simp (decide := true) only [u2_same, u2_ne, u2_u2, upd_same, upd_ne, mE, u2_dyn, dyn_u2, dyn_hi, u2_hi, u2_hj, u2_dynj, u2_dd, u2_d0, u2_0d]; rw [rS 1 (by decide) (by decide), rS 72 (by decide) (by decide)]; exact hnw
  · simp (decide := true) only [u2_same, u2_ne, u2_u2, upd_same, upd_ne, mE, u2_dyn, dyn_u2, dyn_hi, u2_hi, u2_hj, u2_dynj, u2_dd, u2_d0, u2_0d]; rw [rS 13 (by decide) (by decide), rS 72 (by decide) (by decide)]; exact hnk
  · simp (decide := true) only [u2_same, u2_ne, u2_u2, upd_same, upd_ne, mE, u2_dyn, dyn_u2, dyn_hi, u2_hi, u2_hj, u2_dynj, u2_dd, u2_d0, u2_0d]; rw [rS 13 (by decide) (by decide), rS 72 (by decide) (by decide)]; exact hnt
  · simp (decide := true) only [u2_same, u2_ne, u2_u2, upd_same, upd_ne, mE, u2_dyn, dyn_u2, dyn_hi, u2_hi, u2_hj, u2_dynj, u2_dd, u2_d0, u2_0d]; rw [rS 13 (by decide) (by decide), rS 72 (by decide) (by decide)]; exact htd
  · simp (decide := true) only [u2_same, u2_ne, u2_u2, upd_same, upd_ne, mE, u2_dyn, dyn_u2, dyn_hi, u2_hi, u2_hj, u2_dynj, u2_dd, u2_d0, u2_0d]; exact t2
  · simp (decide := true) only [u2_same, u2_ne, u2_u2, upd_same, upd_ne, mE, u2_dyn, dyn_u2, dyn_hi, u2_hi, u2_hj, u2_dynj, u2_dd, u2_d0, u2_0d]
    rw [rS 14 (by decide) (by decide), rS 15 (by decide) (by decide), rS 16 (by decide) (by decide), rS 17 (by decide) (by decide), rS 18 (by decide) (by decide), rS 21 (by decide) (by decide), rS 123 (by decide) (by decide), rS 124 (by decide) (by decide), rS 125 (by decide) (by decide), rS 126 (by decide) (by decide), rS 127 (by decide) (by decide), rS 128 (by decide) (by decide), rS 130 (by decide) (by decide), r20, r129]
    intro j hj
    by_cases hz : j = k
    · subst hz
      rw [upd_same, upd_same]
      exact ⟨g1, ⟨w, hw, g2⟩, g3, g4, g5, g6, g7, htd', fun q => absurd h3 q, Or.inr ⟨td, Nat.le_refl _, htd.2.2⟩, g11, t3⟩
    · rw [upd_ne hz, upd_ne hz, (r22 j hz).1, (r22 j hz).2]
      exact hWrk j hj
  · -- WB
    simp (decide := true) only [u2_same, u2_ne, u2_u2, upd_same, upd_ne, mE, u2_dyn, dyn_u2, dyn_hi, u2_hi, u2_hj, u2_dynj, u2_dd, u2_d0, u2_0d]
    rw [rS 73 (by decide) (by decide), rS 74 (by decide) (by decide)]
    intro w' hw'
    by_cases hz : w' = w
    · subst hz; rw [dW]; exact ⟨b1, b2', b3, b4⟩
    · have := dO w' hw' hz 0 (by omega); rw [Nat.add_zero] at this; rw [this]; exact hB w' hw'
  · -- WC
    simp (decide := true) only [u2_same, u2_ne, u2_u2, upd_same, upd_ne, mE, u2_dyn, dyn_u2, dyn_hi, u2_hi, u2_hj, u2_dynj, u2_dd, u2_d0, u2_0d]
    rw [rS 75 (by decide) (by decide), rS 76 (by decide) (by decide), rS 79 (by decide) (by decide)]
    intro w' hw'
    by_cases hz : w' = w
    · subst hz; rw [dW]; exact hC w' hw'
    · have := dO w' hw' hz 0 (by omega); rw [Nat.add_zero] at this; rw [this]; exact hC w' hw'
  · -- WD
    simp (decide := true) only [u2_same, u2_ne, u2_u2, upd_same, upd_ne, mE, u2_dyn, dyn_u2, dyn_hi, u2_hi, u2_hj, u2_dynj, u2_dd, u2_d0, u2_0d]
    rw [rS 72 (by decide) (by decide), rS 77 (by decide) (by decide), rS 78 (by decide) (by decide), rS 83 (by decide) (by decide)]
    intro w' hw'
    by_cases hz : w' = w
    · subst hz; rw [dW]; exact hD w' hw'
    · have := dO w' hw' hz 0 (by omega); rw [Nat.add_zero] at this; rw [this]; exact hD w' hw'
  · -- WE
    simp (decide := true) only [u2_same, u2_ne, u2_u2, upd_same, upd_ne, mE, u2_dyn, dyn_u2, dyn_hi, u2_hi, u2_hj, u2_dynj, u2_dd, u2_d0, u2_0d]
    rw [r80, r81, r129, rS 82 (by decide) (by decide), rS 123 (by decide) (by decide)]
    constructor
    · intro w' hw'
      by_cases hz : w' = w
      · subst hz
        rw [dW, upd_same, upd_same]
        obtain ⟨-, -, q3, -, -⟩ := hE.1 w' hw'
        rw [h80, if_pos hm80] at q3
        refine ⟨rfl, rfl, ?_, Or.inl rfl, Or.inr ⟨k, hk, rfl, ?_, ?_⟩⟩
        · rw [q3, if_neg (fun q => q rfl), if_pos hm80]
        · rw [upd_same, htd.2.2]; exact hmtd
        · rw [upd_same]; exact htd'
      · have hd := dO w' hw' hz 0 (by omega)
        rw [Nat.add_zero] at hd
        rw [hd, upd_ne hz, upd_ne hz]
        obtain ⟨q1, q2, q3, q4, q5⟩ := hE.1 w' hw'
        refine ⟨q1, q2, q3, ?_, ?_⟩
        · rcases q4 with q4 | ⟨k', c1, c2, c3, c4⟩
          · exact Or.inl q4
          · have hne : k' ≠ k := by
              rintro rfl
              rw [g2] at c3
              exact hz ((oN_eq (by omega) (by have := hnw.1; omega)).mp c3).symm
            exact Or.inr ⟨k', c1, c2, c3, by rw [upd_ne hne]; exact c4⟩
        · rcases q5 with q5 | ⟨k', c1, c2, c3, c4⟩
          · exact Or.inl q5
          · have hne : k' ≠ k := by rintro rfl; exact c3 ho
            exact Or.inr ⟨k', c1, c2, by rw [upd_ne hne]; exact c3, by rw [upd_ne hne]; exact c4⟩
    · intro k' w' hk' hw' hov hww
      by_cases hne : k' = k
      · subst hne
        rw [upd_same, htd.2.2] at hov
        exact absurd hov hmtd
      · rw [upd_ne hne] at hov
        have := hE.2 k' w' hk' hw' hov hww
        have hz : w' ≠ w := by
          rintro rfl
          rw [h80, oN_eq (by omega) (by have := hnk.1; omega)] at this
          exact hne this.symm
        rw [upd_ne hz]
        exact this
  · -- WF
    simp (decide := true) only [u2_same, u2_ne, u2_u2, upd_same, upd_ne, mE, u2_dyn, dyn_u2, dyn_hi, u2_hi, u2_hj, u2_dynj, u2_dd, u2_d0, u2_0d]
    rw [rS 84 (by decide) (by decide)]
    intro w' hw' c hc
    by_cases hz : w' = w
    · subst hz
      rw [dI 1 (by omega) (by omega)]
      have : I2 (149 + q w' + 1) = I (149 + q w' + 1) := rD (q w' + 1) (by omega) (by omega)
      rw [this]
      exact hF w' hw' c hc
    · rw [dO w' hw' hz 1 (by omega)]; exact hF w' hw' c hc
  · -- WG
    simp (decide := true) only [u2_same, u2_ne, u2_u2, upd_same, upd_ne, mE, u2_dyn, dyn_u2, dyn_hi, u2_hi, u2_hj, u2_dynj, u2_dd, u2_d0, u2_0d]
    rw [rS 84 (by decide) (by decide)]
    intro w' hw' c hc
    by_cases hz : w' = w
    · subst hz
      rw [dI 2 (by omega) (by omega)]
      obtain ⟨y1, y2, -, -⟩ := z3 c (by omega) hc
      obtain ⟨-, i2, i3, i4⟩ := hI w' hw' k hk40 h80 c hc
      rw [y1, y2, rS 132 (by decide) (by decide)]
      exact ⟨rfl, i2, i3, i4⟩
    · rw [dO w' hw' hz 2 (by omega)]
      obtain ⟨-, -, c1, c2, c3, c4, -, -⟩ := hA w' hw'
      have h192' := n192 c2 c4
      rw [(r86 (192 * w' + c) (by omega)).1]
      exact hG w' hw' c hc
  · -- WH
    simp (decide := true) only [u2_same, u2_ne, u2_u2, upd_same, upd_ne, mE, u2_dyn, dyn_u2, dyn_hi, u2_hi, u2_hj, u2_dynj, u2_dd, u2_d0, u2_0d]
    rw [r81]
    intro w' hw' c hc
    by_cases hz : w' = w
    · subst hz
      rw [dI 3 (by omega) (by omega), upd_same]
      obtain ⟨y1, y2, y3, y4⟩ := z3 c (by omega) hc
      rw [y2]
      exact ⟨y3, fun h => ⟨(y4 h).1, (y4 h).2.1, hm80, (y4 h).2.2⟩⟩
    · rw [dO w' hw' hz 3 (by omega), upd_ne hz]
      obtain ⟨-, -, c1, c2, c3, c4, -, -⟩ := hA w' hw'
      have h192' := n192 c2 c4
      obtain ⟨u1, u2', u3⟩ := r86 (192 * w' + c) (by omega)
      rw [u1, u2', u3]
      exact hH w' hw' c hc
  · -- WI
    simp (decide := true) only [u2_same, u2_ne, u2_u2, upd_same, upd_ne, mE, u2_dyn, dyn_u2, dyn_hi, u2_hi, u2_hj, u2_dynj, u2_dd, u2_d0, u2_0d]
    rw [r80, rS 84 (by decide) (by decide), rS 132 (by decide) (by decide)]
    intro w' hw' k' hk' hz80
    by_cases hz : w' = w
    · subst hz
      rw [upd_same] at hz80
      exact absurd hz80.symm (oN_m2 (by omega))
    · rw [upd_ne hz] at hz80
      rw [dO w' hw' hz 4 (by omega)]
      exact hI w' hw' k' hk' hz80
  · -- WU
    simp (decide := true) only [u2_same, u2_ne, u2_u2, upd_same, upd_ne, mE, u2_dyn, dyn_u2, dyn_hi, u2_hi, u2_hj, u2_dynj, u2_dd, u2_d0, u2_0d]
    rw [rS 79 (by decide) (by decide), rS 83 (by decide) (by decide), rS 84 (by decide) (by decide)]
    intro w' h1 h2
    obtain ⟨u1, u2', u3⟩ := hU w' h1 h2
    refine ⟨u1, u2', fun c hc => ?_⟩
    rw [(r86 (192 * w' + c) (by omega)).1]
    exact u3 c hc
  · simp (decide := true) only [u2_same, u2_ne, u2_u2, upd_same, upd_ne, mE, u2_dyn, dyn_u2, dyn_hi, u2_hi, u2_hj, u2_dynj, u2_dd, u2_d0, u2_0d]
    rw [r129, htd.2.2]
  · intro c c1 c2
    rw [u2_ne (by omega)]
    exact rS c c1 c2
  · intro c hc
    have h0 : c ≠ q w + 0 := fun e => hc (e ▸ a6 0 (by omega))
    have h2 : c ≠ q w + 2 := fun e => hc (e ▸ a6 2 (by omega))
    have h3 : c ≠ q w + 3 := fun e => hc (e ▸ a6 3 (by omega))
    rw [u2_ne (by omega)]
    exact rD c h2 h3
  · intro J
    have z4 := z4 J FU (by unfold FU; omega)
    simp (decide := true) only [I0, u2_dyn, u2_ne, ne_eq] at z4
    have e0 : Int32.ofNat 0 = 0 := rfl
    rw [e0] at z4
    have hI0 : mX J I0 = u2 (mX J I) 20 (upd (I 20) k (I 13 14)) := by simp (decide := true) only [I0, isO_s, gI_s, gA_s, gL_s, pI_s, pZ_s, pL_s, aI_s, aL_s, aN_s, aQ_s, sI_s, sL_s, cr, LNs, Option.map_some, Option.map_none, Option.bind_some, b2, tr, lt, if_true, if_false, ckZ, X_within, M_in, inR_z, X_refuse, X_tell, X_deny, X_grant, M_refused, M_denied, M_done, M_granted, u2_same, u2_ne, u2_u2, upd_same, upd_ne, aW0, ixR_z, ixR_1, M_isWall, M_isPainter, M_isWork, X_has4, X_has10, X_at, or_false, false_or, or_true, true_or, not_true, not_false_iff, Option.isSome_some, isO_d, gI_d, gA_d, pI_d, ne_eq, not_false_eq_true, u2_hi, u2_hj, u2_dyn, u2_dynj, Nat.reduceAdd, mX_r, mX_rD, mX_rDj, mM_r, mX_u, mX_uM, mX_uD, mX_uDj, mM_u, mM_uX, mM_uD, mM_uDj, u2_dd, u2_d0, u2_0d]
    simp (decide := true) only [I0] at hI0
    rw [hI0] at z4
    have hwa' : wAt (I 14 k) (I 1 1) (P 2) = some (149 + q w) := by rw [g1, g2]; exact hwa
    simp (decide := true) only [f_X10_finish_108, f_X10_finish_65, f_X10_finish, e3, hwa', isO_s, gI_s, gA_s, gL_s, pI_s, pZ_s, pL_s, aI_s, aL_s, aN_s, aQ_s, sI_s, sL_s, cr, LNs, Option.map_some, Option.map_none, Option.bind_some, b2, tr, lt, if_true, if_false, ckZ, X_within, M_in, inR_z, X_refuse, X_tell, X_deny, X_grant, M_refused, M_denied, M_done, M_granted, u2_same, u2_ne, u2_u2, upd_same, upd_ne, aW0, ixR_z, ixR_1, M_isWall, M_isPainter, M_isWork, X_has4, X_has10, X_at, or_false, false_or, or_true, true_or, not_true, not_false_iff, Option.isSome_some, isO_d, gI_d, gA_d, pI_d, ne_eq, not_false_eq_true, u2_hi, u2_hj, u2_dyn, u2_dynj, Nat.reduceAdd, mX_r, mX_rD, mX_rDj, mM_r, mX_u, mX_uM, mX_uDj, mM_u, mM_uX, mM_uD, mM_uDj, u2_dd, u2_d0, u2_0d]
    exact z4
  · intro J
    have z5 := z5 J FU (by unfold FU; omega)
    have e0 : Int32.ofNat 0 = 0 := rfl
    rw [e0] at z5
    have hI0 : mM J I0 = u2 (u2 (u2 (mM J I) 129 (upd (I 129) k (I 72 5))) 80 (upd (I 80) w (-2))) 81 (upd (I 81) w (Int32.ofNat k)) := by simp (decide := true) only [I0, isO_s, gI_s, gA_s, gL_s, pI_s, pZ_s, pL_s, aI_s, aL_s, aN_s, aQ_s, sI_s, sL_s, cr, LNs, Option.map_some, Option.map_none, Option.bind_some, b2, tr, lt, if_true, if_false, ckZ, X_within, M_in, inR_z, X_refuse, X_tell, X_deny, X_grant, M_refused, M_denied, M_done, M_granted, u2_same, u2_ne, u2_u2, upd_same, upd_ne, aW0, ixR_z, ixR_1, M_isWall, M_isPainter, M_isWork, X_has4, X_has10, X_at, or_false, false_or, or_true, true_or, not_true, not_false_iff, Option.isSome_some, isO_d, gI_d, gA_d, pI_d, ne_eq, not_false_eq_true, u2_hi, u2_hj, u2_dyn, u2_dynj, Nat.reduceAdd, mX_r, mX_rD, mX_rDj, mM_r, mX_u, mX_uM, mX_uD, mX_uDj, mM_u, mM_uX, mM_uD, mM_uDj, u2_dd, u2_d0, u2_0d]
    rw [hI0] at z5
    simp (decide := true) only [f_X15_isOver_196, f_X15_isOver_162, f_X15_isOver_140, f_X15_isOver_134, f_X15_isOver, e3, e4, g2, isO_s, gI_s, gA_s, gL_s, pI_s, pZ_s, pL_s, aI_s, aL_s, aN_s, aQ_s, sI_s, sL_s, cr, LNs, Option.map_some, Option.map_none, Option.bind_some, b2, tr, lt, if_true, if_false, ckZ, X_within, M_in, inR_z, X_refuse, X_tell, X_deny, X_grant, M_refused, M_denied, M_done, M_granted, u2_same, u2_ne, u2_u2, upd_same, upd_ne, aW0, ixR_z, ixR_1, M_isWall, M_isPainter, M_isWork, X_has4, X_has10, X_at, or_false, false_or, or_true, true_or, not_true, not_false_iff, Option.isSome_some, isO_d, gI_d, gA_d, pI_d, ne_eq, not_false_eq_true, u2_hi, u2_hj, u2_dyn, u2_dynj, Nat.reduceAdd, mX_r, mX_rD, mX_rDj, mM_r, mX_u, mX_uM, mX_uD, mX_uDj, mM_u, mM_uX, mM_uD, mM_uDj, u2_dd, u2_d0, u2_0d]
    exact z5
end FIN2
