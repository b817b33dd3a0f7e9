/-! ===== work: the groups behind a work begun ===== -/
theorem coats : ∀ c, c < 193 → 1 ≤ mxI 1 ((Int32.ofNat c + 23) / 24) ∧ mxI 1 ((Int32.ofNat c + 23) / 24) ≤ 8 := by decide +kernel
theorem n24 (n : Int32) : n + 24 - 1 = n + 23 := by grind
theorem work_post {nw nk nt np nd td w p d cc : Nat} {q wd hg ow : Nat → Nat} {E : Nat → Option KD} {P2 : Nat → Option Nat} {I I2 : Nat → Nat → Int32} {n : Int32} {cn : RW} (hw : w < nw) (hnw : nw ≤ 16) (hp : p < np) (hnp : np ≤ 10) (hd : d < nd) (hnk : nk < 40) (hA : WA nw q wd hg ow E P2) (hW : WALL nw nk nt q wd hg I) (hBe : GBeg nk (I 8) (I 124)) (hWk : GWrk nk nw np nd td (I 14) (I 15) (I 16) (I 17) (I 18) (I 20) (I 21) (I 22) (I 123) (I 124) (I 125) (I 126) (I 127) (I 128) (I 129) (I 130) (I 131)) (hWo : GWo nk (I 126) (I 129)) (h80n : I 80 w = -2) (hcc : cc ≤ 192) (hn : n = Int32.ofNat cc) (hcb : ∀ c, c < wd w * hg w → -1 ≤ cn c ∧ cn c ≤ 7 ∧ (I 84 (192 * w + c) ≠ 0 → cn c = -1))
    (r8 : I2 8 = upd (I 8) p (I 8 p + 1)) (r14 : I2 14 = upd (I 14) nk (Int32.ofNat w)) (r15 : I2 15 = upd (I 15) nk (Int32.ofNat p)) (r16 : I2 16 = upd (I 16) nk (Int32.ofNat d)) (r17 : I2 17 = upd (I 17) nk (3 + mxI 1 ((n + 24 - 1) / 24))) (r18 : I2 18 = upd (I 18) nk 0) (r20 : I2 20 = upd (I 20) nk (-2)) (r21 : I2 21 = upd (I 21) nk n) (r22 : I2 22 = upd (I 22) nk 0) (r80 : I2 80 = upd (I 80) w (Int32.ofNat nk)) (r82 : I2 82 = upd (I 82) w (Int32.ofNat nk)) (r123 : I2 123 = upd (I 123) nk (Int32.ofNat w)) (r124 : I2 124 = upd (I 124) nk (Int32.ofNat p)) (r125 : I2 125 = upd (I 125) nk (Int32.ofNat d)) (r126 : I2 126 = upd (I 126) nk 0) (r127 : I2 127 = upd (I 127) nk 1) (r128 : I2 128 = upd (I 128) nk (mxI 1 ((n + 23) / 24))) (r129 : I2 129 = upd (I 129) nk (-2)) (r130 : I2 130 = upd (I 130) nk n) (r131 : I2 131 = upd (I 131) nk 0) (ra : ∀ c, c < 192 → I2 132 (192 * nk + c) = cn c) (rb : ∀ k, (k < 192 * nk ∨ 192 * nk + 192 ≤ k) → I2 132 k = I 132 k) (rc : ∀ c, 73 ≤ c → c ≤ 88 → c ≠ 80 → c ≠ 82 → I2 c = I c) (r5 : I2 72 5 = I 72 5) (rq : I2 (149 + q w) = upd (I (149 + q w)) 8 (Int32.ofNat nk)) (rq4 : ∀ c, c < wd w * hg w → I2 (149 + q w + 4) c = cn c) (rd : ∀ c, c ≠ q w → c ≠ q w + 4 → I2 (149 + c) = I (149 + c)) : WALL nw (nk + 1) nt q wd hg I2 ∧ GBeg (nk + 1) (I2 8) (I2 124) ∧ GWrk (nk + 1) nw np nd td (I2 14) (I2 15) (I2 16) (I2 17) (I2 18) (I2 20) (I2 21) (I2 22) (I2 123) (I2 124) (I2 125) (I2 126) (I2 127) (I2 128) (I2 129) (I2 130) (I2 131) ∧ GWo (nk + 1) (I2 126) (I2 129) := by
  obtain ⟨hB, hC, hD, hE, hF, hG, hH, hI, hU⟩ := hW
  have dis : ∀ w', w' < nw → w' ≠ w → ∀ i, i < 5 → q w' + i ≠ q w ∧ q w' + i ≠ q w + 4 := by
    intro w' hw' hne i hi
    have := (hA w' hw').2.2.2.2.2.2.1 w hw hne
    omega
  have g0 : ∀ w', w' < nw → ∀ k, k ≠ 8 → dyn I2 (q w') k = dyn I (q w') k := by
    intro w' hw' k hk
    show I2 (149 + q w') k = I (149 + q w') k
    by_cases h : w' = w
    · subst h; rw [rq, upd_ne hk]
    · obtain ⟨e1, e2⟩ := dis w' hw' h 0 (by decide)
      rw [rd (q w') (by omega) (by omega)]
  have gi : ∀ w', w' < nw → ∀ i, 1 ≤ i → i ≤ 3 → dyn I2 (q w' + i) = dyn I (q w' + i) := by
    intro w' hw' i i1 i2
    show I2 (149 + (q w' + i)) = I (149 + (q w' + i))
    by_cases h : w' = w
    · subst h; exact rd _ (by omega) (by omega)
    · obtain ⟨e1, e2⟩ := dis w' hw' h i (by omega)
      exact rd _ e1 e2
  have g8 : ∀ w', w' < nw → w' ≠ w → dyn I2 (q w') = dyn I (q w') ∧ dyn I2 (q w' + 4) = dyn I (q w' + 4) := by
    intro w' hw' h
    obtain ⟨e1, e2⟩ := dis w' hw' h 0 (by decide)
    obtain ⟨e3, e4⟩ := dis w' hw' h 4 (by decide)
    exact ⟨rd _ (by omega) (by omega), rd _ e3 e4⟩
  have nk2 : ∀ k, k < nk → k ≠ nk := fun k hk => by omega
  have onk : ∀ k, k < 2147483648 → Int32.ofNat k ≠ -2 := fun k hk q => by
    have := oN_neg (w := k) hk
    rw [q] at this
    exact this ▸ (by decide)
  have r80n : ∀ w', w' ≠ w → I2 80 w' = I 80 w' := fun w' h => by rw [r80, upd_ne h]
  have r80w : I2 80 w = Int32.ofNat nk := by rw [r80, upd_same]
  obtain ⟨hE1, hE2⟩ := hE
  refine ⟨⟨?_, ?_, ?_, ⟨?_, ?_⟩, ?_, ?_, ?_, ?_, ?_⟩, ?_, ?_, ?_⟩
  · intro w' hw'
    rw [g0 w' hw' 0 (by decide), g0 w' hw' 1 (by decide), rc 73 (by decide) (by decide) (by decide) (by decide), rc 74 (by decide) (by decide) (by decide) (by decide)]
    exact hB w' hw'
  · intro w' hw'
    rw [g0 w' hw' 2 (by decide), g0 w' hw' 3 (by decide), g0 w' hw' 7 (by decide), rc 75 (by decide) (by decide) (by decide) (by decide), rc 76 (by decide) (by decide) (by decide) (by decide), rc 79 (by decide) (by decide) (by decide) (by decide)]
    exact hC w' hw'
  · intro w' hw'
    rw [g0 w' hw' 6 (by decide), g0 w' hw' 4 (by decide), g0 w' hw' 5 (by decide), rc 77 (by decide) (by decide) (by decide) (by decide), rc 78 (by decide) (by decide) (by decide) (by decide), rc 83 (by decide) (by decide) (by decide) (by decide), r5]
    exact hD w' hw'
  · intro w' hw'
    obtain ⟨e1, e2, e3, e4, e5⟩ := hE1 w' hw'
    rw [g0 w' hw' 9 (by decide), g0 w' hw' 10 (by decide), rc 81 (by decide) (by decide) (by decide) (by decide)]
    have e5' : I 81 w' = -2 ∨ ∃ k, k < nk + 1 ∧ I 81 w' = Int32.ofNat k ∧ I2 129 k ≠ -2 ∧ dyn I (q w') 10 = I2 129 k := by
      rcases e5 with e5 | ⟨k, k1, k2, k3, k4⟩
      · exact Or.inl e5
      · exact Or.inr ⟨k, by omega, k2, by rw [r129, upd_ne (nk2 k k1)]; exact k3, by rw [r129, upd_ne (nk2 k k1)]; exact k4⟩
    by_cases h : w' = w
    · subst h
      refine ⟨?_, e2, ?_, Or.inr ⟨nk, by omega, r80w, by rw [r123, upd_same], by rw [r129, upd_same]⟩, e5'⟩
      · rw [r80w]
        show I2 (149 + q w') 8 = _
        rw [rq, upd_same]
      · rw [r82, upd_same, r80w, if_pos (onk nk (by omega))]
    · rw [r80n w' h]
      refine ⟨by rw [(g8 w' hw' h).1]; exact e1, e2, by rw [r82, upd_ne h]; exact e3, ?_, e5'⟩
      rcases e4 with e4 | ⟨k, k1, k2, k3, k4⟩
      · exact Or.inl e4
      · exact Or.inr ⟨k, by omega, k2, by rw [r123, upd_ne (nk2 k k1)]; exact k3, by rw [r129, upd_ne (nk2 k k1)]; exact k4⟩
  · intro k w' hk hw' h1 h2
    by_cases hkn : k = nk
    · subst hkn
      rw [r123, upd_same] at h2
      have : w = w' := (oN_eq (by omega) (by omega)).mp h2
      subst this
      exact r80w
    · rw [r129, upd_ne hkn] at h1
      rw [r123, upd_ne hkn] at h2
      have h3 := hE2 k w' (by omega) hw' h1 h2
      by_cases h : w' = w
      · subst h
        rw [h80n] at h3
        exact absurd h3.symm (onk k (by omega))
      · rw [r80n w' h]; exact h3
  · intro w' hw'
    rw [gi w' hw' 1 (by decide) (by decide), rc 84 (by decide) (by decide) (by decide) (by decide)]
    exact hF w' hw'
  · intro w' hw'
    rw [gi w' hw' 2 (by decide) (by decide), rc 84 (by decide) (by decide) (by decide) (by decide), rc 86 (by decide) (by decide) (by decide) (by decide)]
    exact hG w' hw'
  · intro w' hw'
    rw [gi w' hw' 3 (by decide) (by decide), rc 81 (by decide) (by decide) (by decide) (by decide), rc 86 (by decide) (by decide) (by decide) (by decide), rc 87 (by decide) (by decide) (by decide) (by decide), rc 88 (by decide) (by decide) (by decide) (by decide)]
    exact hH w' hw'
  · intro w' hw' k hk h80 c hc
    rw [rc 84 (by decide) (by decide) (by decide) (by decide)]
    have hc192 : c < 192 := by
      obtain ⟨-, -, -, a2, -, a4, -⟩ := hA w' hw'
      exact Nat.lt_of_lt_of_le hc (Nat.mul_le_mul a2 a4)
    by_cases h : w' = w
    · subst h
      rw [r80w] at h80
      have hkn : nk = k := (oN_eq (by omega) (by omega)).mp h80
      subst hkn
      rw [ra c hc192]
      obtain ⟨c1, c2, c3⟩ := hcb c hc
      refine ⟨?_, c1, c2, c3⟩
      show I2 (149 + (q w' + 4)) c = cn c
      rw [← Nat.add_assoc]
      exact rq4 c hc
    · rw [r80n w' h] at h80
      have hkn : k ≠ nk := by
        intro e
        subst e
        rcases (hE1 w' hw').2.2.2.1 with e4 | ⟨k', k1, k2, -⟩
        · rw [e4] at h80
          exact onk k (by omega) h80.symm
        · rw [k2] at h80
          have := (oN_eq (by omega) (by omega)).mp h80
          omega
      rw [rb _ (by omega), (g8 w' hw' h).2]
      exact hI w' hw' k hk h80 c hc
  · intro w' h1 h2
    rw [rc 79 (by decide) (by decide) (by decide) (by decide), rc 83 (by decide) (by decide) (by decide) (by decide), rc 84 (by decide) (by decide) (by decide) (by decide), rc 86 (by decide) (by decide) (by decide) (by decide)]
    exact hU w' h1 h2
  · intro p' hp'
    rw [sm_last]
    have e : sm (fun k => if I2 124 k = Int32.ofNat p' then 1 else 0) 0 nk = sm (fun k => if I 124 k = Int32.ofNat p' then 1 else 0) 0 nk := sm_congr nk 0 (fun k _ k2 => by rw [r124, upd_ne (by omega)])
    rw [e, r8, r124, upd_same, ← hBe p' hp']
    by_cases hpp : p' = p
    · subst hpp
      rw [upd_same, if_pos rfl]
    · rw [upd_ne hpp, if_neg (fun q => hpp ((oN_eq (by omega) (by omega)).mp q).symm), Int32.add_zero]
  · intro k hk
    rw [r14, r15, r16, r17, r18, r20, r21, r22, r123, r124, r125, r126, r127, r128, r129, r130, r131]
    by_cases hkn : k = nk
    · subst hkn
      repeat rw [upd_same]
      obtain ⟨q1, q2⟩ := coats cc (by omega)
      rw [← hn] at q1 q2
      refine ⟨rfl, ⟨w, hw, rfl⟩, rfl, ⟨p, hp, rfl⟩, rfl, ⟨d, hd, rfl⟩, ⟨q1, q2, by rw [n24], Or.inl ⟨rfl, rfl, rfl⟩⟩, rfl, fun _ => rfl, Or.inl rfl, rfl, rfl⟩
    · simp only [upd_ne hkn]
      exact hWk k (by omega)
  · intro k hk h3
    rw [r126] at h3
    rw [r129]
    by_cases hkn : k = nk
    · subst hkn
      rw [upd_same] at h3
      exact absurd h3 (by decide)
    · rw [upd_ne hkn] at h3 ⊢
      exact hWo k (by omega) h3
