/-! ===== drawing: the class reads a step with a body ===== -/
section BLK2
variable {b : Nat} {F : Nat → Option AE} {D E : Nat → Option KD} {I : Nat → Nat → Int32} {L : Nat → Nat → Int64} {P : Nat → Nat → Option Nat} {nx us : Nat}
theorem X_blk {z : ZX} {t : RW} {n la f i i1 bl d dl wc w : Nat} {D D1 : DSt} {v : Int32} {K : Nat → Nat → Int32} (hLA : LA t n la) (hbl : bl ≤ 6) (hv : VL v)
    (h0 : bl < 6 → ∀ (i : Nat) (D : DSt) (I : Nat → Nat → Int32) (L : Nat → Nat → Int64) (dl wc : Nat), muD la 0 i ≤ f → DB la i D → dl + (bl + 1) ≤ 3 * D.1 + D.2.2.1 → wc ≤ D.1 → XDs t n la i D.1 D.2.1 (bl + 1) dl wc I L → XTo b F E P nx us z t n la (bl + 1) wc dl 0 D I L (pLp z b D.1 (lay b F E I L P nx us)) (dS t n f 0 i (bl + 1) D))
    (hm : muD la 1 i ≤ f + 1) (hii : i < i1) (hT : D.1 < 40) (h5 : I 44 5 = Int32.ofNat bl) (hb : DB la i1 D1) (hD1 : D1.1 = D.1 + 1) (hX : XDs t n la i1 D1.1 D1.2.1 bl d wc K L) (hf : FXd bl wc dl I K L L) (hdl : dl < d) (hcap : d + 1 + (bl + 1) ≤ 3 * D1.1 + D1.2.2.1) (hwc : wc ≤ D.1) (hFR : FRT D D1) (hK0 : K 46 dl = 0) (hS : SumsAt D1.2.2.2.1 (K 46) (K 47) D1.2.2.1 D.1 2 0 (dl + 1) d)
    (hw : (w = 9 ∧ D1.2.2.2.1 1 D.1 = 3 ∧ v = D1.2.2.2.1 3 D.1 ∧ ∃ v, v < 5 ∧ D1.2.2.2.1 3 D.1 = Int32.ofNat v) ∨ (w = 11 ∧ D1.2.2.2.1 1 D.1 = 4 ∧ ((v = 60 ∧ D1.2.2.2.1 4 D.1 = 0) ∨ (v = 61 ∧ D1.2.2.2.1 4 D.1 = 1) ∨ (v = 62 ∧ D1.2.2.2.1 4 D.1 = 2))))
    (hrun : f_X2_readStep (ad b 44) (lay b F E I L P nx us) = b2 (f_X2_openBracket (ad b 44) (Int32.ofNat w) v (lay b F E K L P nx us)) fun x h => if x = 0 then some (0, h) else some (1, h)) :
    XTo b F E P nx us z t n la bl wc dl 1 D I L (pLp z b D.1 (lay b F E I L P nx us)) (if ¬ isC t n i1 91 then .inl (1, i1) else if bl = 6 then .inl (4, i1) else dThen (dS t n f 0 (i1 + 1) (bl + 1) D1) fun i2 D2 => if isC t n i2 93 then .inr (i2 + 1, dEnd D2 D.1) else .inl (1, i2)) := by
  have hi120 := hb.2.2.1
  have hit := hb.2.2.2
  have hop := X_open (b := b) (F := F) (E := E) (P := P) (nx := nx) (us := us) (w := w) (v := v) hLA hbl (by omega) hv (by omega) hX
  have e10 : ((1 : Int32) = 0) = False := by decide
  by_cases c91 : isC t n i1 91
  · rw [if_neg (fun q => q c91)] at hop ⊢
    by_cases h6 : bl = 6
    · rw [if_pos h6] at hop ⊢
      have hr : f_X2_readStep (ad b 44) (lay b F E I L P nx us) = some (0, lay b F E (aF K 4 (pl t n i1)) L P nx us) := by
        rw [hrun, hop]
        rfl
      exact ⟨K, L, X_f0 (by omega) hr, hf⟩
    · rw [if_neg h6] at hop ⊢
      have hr : f_X2_readStep (ad b 44) (lay b F E I L P nx us) = some (1, lay b F E (xOpn bl d i1 (Int32.ofNat w) v K) L P nx us) := by
        rw [hrun, hop]
        rfl
      obtain ⟨o46, o47, o50, oF⟩ := xOpn_R (bl := bl) (d := d) (i := i1) (w := Int32.ofNat w) (v := v) (K := K) (fb_d w (by omega)) hv
      have hil := isC_lt hLA hX.2.1 c91
      have hXo : XDs t n la (i1 + 1) D1.1 D1.2.1 (bl + 1) (d + 1) wc (xOpn bl d i1 (Int32.ofNat w) v K) L := by
        obtain ⟨a1, a2, a3, a4, a5, a6, a7, a8, a9⟩ := hX
        have hX0 : XDs t n la i1 D1.1 D1.2.1 (bl + 1) d wc (u2 (u2 K 50 (upd (K 50) bl (Int32.ofNat d))) 44 (upd (K 44) 5 (Int32.ofNat (bl + 1)))) L := ⟨a1.fr (by simp (decide := true) only [u2_same, u2_ne, u2_u2, upd_same, upd_ne, mE, u2_dyn, dyn_u2, dyn_hi, u2_hi, u2_hj, u2_dynj, u2_dd, u2_d0, u2_0d]) (by simp (decide := true) only [u2_same, u2_ne, u2_u2, upd_same, upd_ne, mE, u2_dyn, dyn_u2, dyn_hi, u2_hi, u2_hj, u2_dynj, u2_dd, u2_d0, u2_0d]) (by simp (decide := true) only [u2_same, u2_ne, u2_u2, upd_same, upd_ne, mE, u2_dyn, dyn_u2, dyn_hi, u2_hi, u2_hj, u2_dynj, u2_dd, u2_d0, u2_0d]) (by simp (decide := true) only [u2_same, u2_ne, u2_u2, upd_same, upd_ne, mE, u2_dyn, dyn_u2, dyn_hi, u2_hi, u2_hj, u2_dynj, u2_dd, u2_d0, u2_0d]), a2, by simp (decide := true) only [u2_same, u2_ne, u2_u2, upd_same, upd_ne, mE, u2_dyn, dyn_u2, dyn_hi, u2_hi, u2_hj, u2_dynj, u2_dd, u2_d0, u2_0d]; exact a3, by simp (decide := true) only [u2_same, u2_ne, u2_u2, upd_same, upd_ne, mE, u2_dyn, dyn_u2, dyn_hi, u2_hi, u2_hj, u2_dynj, u2_dd, u2_d0, u2_0d]; exact a4, by simp (decide := true) only [u2_same, u2_ne, u2_u2, upd_same, upd_ne, mE, u2_dyn, dyn_u2, dyn_hi, u2_hi, u2_hj, u2_dynj, u2_dd, u2_d0, u2_0d]; exact a5, by simp (decide := true) only [u2_same, u2_ne, u2_u2, upd_same, upd_ne, mE, u2_dyn, dyn_u2, dyn_hi, u2_hi, u2_hj, u2_dynj, u2_dd, u2_d0, u2_0d]; exact a6, by simp (decide := true) only [u2_same, u2_ne, u2_u2, upd_same, upd_ne, mE, u2_dyn, dyn_u2, dyn_hi, u2_hi, u2_hj, u2_dynj, u2_dd, u2_d0, u2_0d], by simp (decide := true) only [u2_same, u2_ne, u2_u2, upd_same, upd_ne, mE, u2_dyn, dyn_u2, dyn_hi, u2_hi, u2_hj, u2_dynj, u2_dd, u2_d0, u2_0d]; exact a8, by simp (decide := true) only [u2_same, u2_ne, u2_u2, upd_same, upd_ne, mE, u2_dyn, dyn_u2, dyn_hi, u2_hi, u2_hj, u2_dynj, u2_dd, u2_d0, u2_0d]; exact a9⟩
        exact hX0.put.adv hil
      have hr2 := X_o1 (z := z) (T := D.1) (by omega) hbl h5 hXo.2.2.2.2.2.2.1 hr
      have hfo : FXd bl wc dl I (xOpn bl d i1 (Int32.ofNat w) v K) L L := hf.trans (oF wc L dl (by omega)) (Nat.le_refl _) (Nat.le_refl _) (Nat.le_refl _)
      unfold muD at hm
      simp at hm
      have hla1 := hb.1
      have y := h0 (by omega) (i1 + 1) D1 (xOpn bl d i1 (Int32.ofNat w) v K) L (d + 1) wc (by unfold muD; simp; omega) ⟨hil, hb.2⟩ hcap (by omega) hXo
      rw [hr2, ← hD1]
      cases hout : dS t n f 0 (i1 + 1) (bl + 1) D1 with
      | inl e =>
        obtain ⟨c, j⟩ := e
        rw [hout] at y
        obtain ⟨K2, M2, y1, y2⟩ := y
        exact ⟨K2, M2, y1, hfo.trans y2 (by omega) (Nat.le_refl _) (by omega)⟩
      | inr q =>
        obtain ⟨i2, D2⟩ := q
        have hb2 := dS_b hLA f 0 (i1 + 1) (bl + 1) D1 i2 D2 ⟨hil, hb.2⟩ hout
        have n59 := dS_e _ _ _ _ _ _ hout
        rw [hout] at y
        obtain ⟨K2, M2, u, dl1, wc1, y1, y2, y3, y4, y5, y6, y7, y8, y9, -, yb⟩ := y
        have yb := yb rfl
        have hf2 : FXd bl wc dl I K2 L M2 := hfo.trans y4 (by omega) (Nat.le_refl _) (by omega)
        show XTo b F E P nx us z t n la bl wc dl 1 D I L _ (if isC t n i2 93 then .inr (i2 + 1, dEnd D2 D.1) else .inl (1, i2))
        have hj120 := hb2.1.2.2.1
        have hjt := hb2.1.2.2.2
        have hj40 := hb2.1.2.1
        by_cases c93 : isC t n i2 93
        · rw [if_pos c93]
          have k50 : K2 50 bl = Int32.ofNat d := (y4.2.2.2.1 bl (by omega)).trans o50
          have k46 : K2 46 d = Int32.ofNat w := by rw [(y4.2.2.1 d (by omega)).1, o46, upd_same]
          have k47 : K2 47 d = v := by rw [(y4.2.2.1 d (by omega)).2.1, o47, upd_same]
          obtain ⟨u, rfl⟩ : ∃ e, u = e + 1 := ⟨u - 1, by omega⟩
          have hcl : ∃ J dl2, pA z b (D2.1 - 1) (u + 1 + 1) (lay b F E K2 M2 P nx us) = pA z b (D2.1 - 1) (u + 1) (lay b F E J M2 P nx us) ∧ XDs t n la (i2 + 1) D2.1 D2.2.1 bl dl2 wc1 J M2 ∧ ClS w d dl1 dl2 K2 J ∧ (∀ (wc : Nat) (M : Nat → Nat → Int64) (o : Nat), o ≤ d → FXd bl wc o K2 J M M) ∧ dl1 ≤ dl2 ∧ dl2 ≤ dl1 + 1 := by
            rcases hw with hw | hw
            · obtain ⟨rfl, -⟩ := hw
              obtain ⟨c1, c2⟩ := X_cl9 (b := b) (F := F) (E := E) (P := P) (nx := nx) (us := us) (z := z) (T := D2.1 - 1) (u := u + 1) hLA (by omega) y3 c93 k50 (by omega) (by omega) k46
              exact ⟨_, _, c1, c2, (xC9_C (by omega) (by omega)).1, (xC9_C (by omega) (by omega)).2, by omega, by omega⟩
            · obtain ⟨rfl, -⟩ := hw
              obtain ⟨c1, c2⟩ := X_cl11 (b := b) (F := F) (E := E) (P := P) (nx := nx) (us := us) (z := z) (T := D2.1 - 1) (u := u + 1) hLA (by omega) y3 c93 k50 (by omega) (by omega) k46
              exact ⟨_, _, c1, c2, (xC11_C (by omega) (by omega)).1, (xC11_C (by omega) (by omega)).2, by omega, by omega⟩
          obtain ⟨J, dl2, c1, c2, ⟨s1, s2, s3, s4⟩, c4, c5, c6⟩ := hcl
          have j46 : ∀ j, j < dl1 → J 46 j = K2 46 j := fun j hj => (s1 j hj).1
          have j47 : ∀ j, j < dl1 → J 47 j = K2 47 j := fun j hj => (s1 j hj).2
          have hrow : ∀ j, 1 ≤ j → j ≤ 6 → j ≠ 5 → (dEnd D2 D.1).2.2.2.1 j D.1 = D1.2.2.2.1 j D.1 := fun j j1 j2 j5 => by rw [dEnd_r j5]; exact y9.1 j j1 j2 D.1 (by omega)
          refine ⟨J, M2, u, dl2, wc1, ?_, by omega, c2, hf2.trans (c4 wc M2 dl (by omega)) (Nat.le_refl _) (Nat.le_refl _) (Nat.le_refl _), by omega, by omega, ?_, y8, FRT_end (hFR.trans y9) (Nat.le_refl _), fun _ g hg => ?_, fun q => by omega⟩
          · rw [y1, c1]
            rfl
          · show dl2 + bl ≤ 3 * D2.1 + D2.2.2.1
            omega
          · have hg' : D2.1 ≤ D.1 + 1 + g := hg
            have sm : SumsAt (dEnd D2 D.1).2.2.2.1 (J 46) (J 47) D2.2.2.1 D.1 2 0 (dl + 1) d := by
              refine SumsAt_fr y9.2.2.2.1 (fun x hx => by rw [dEnd_r (by decide), dEnd_r (by decide)]; exact y9.2.2.2.2.1 x hx) 2 0 (dl + 1) d (fun x _ x2 => by rw [dEnd_r (by decide), dEnd_r (by decide)]; exact y9.2.1 (4 * D.1 + x) (by omega)) (fun j _ j2 => ?_) hS
              rw [j46 j (by omega), j47 j (by omega), (y4.2.2.1 j (by omega)).1, (y4.2.2.1 j (by omega)).2.1, o46, o47, upd_ne (by omega), upd_ne (by omega)]
              exact ⟨rfl, rfl⟩
            have hB : bq (bRw (dEnd D2 D.1) J M2) D2.2.2.1 wc1 g (6 - bl) (D.1 + 1) D2.1 (d + 1) dl1 := by
              refine ⟨by omega, ?_⟩
              have yb' := yb g (by omega)
              rw [hD1, show 6 - (bl + 1) = 6 - bl - 1 by omega] at yb'
              refine Blk_fr (Nat.le_refl _) (Nat.le_refl _) g (6 - bl - 1) (D.1 + 1) D2.1 (d + 1) dl1 ?_ yb'
              refine ⟨fun j _ _ x x1 _ => ?_, fun x _ _ => ?_, fun x _ => ?_, fun _ _ _ => rfl, fun j j1 j2 => ⟨j46 j j2, j47 j j2, s2 j j2 (by omega)⟩, fun _ _ => rfl⟩
              · by_cases hj : j = 5
                · subst hj; exact dEnd_5n (by omega)
                · exact congrFun (dEnd_r hj) x
              · exact ⟨congrFun (dEnd_r (D := D2) (s := D.1) (j := 7) (by decide)) x, congrFun (dEnd_r (D := D2) (s := D.1) (j := 8) (by decide)) x⟩
              · exact ⟨congrFun (dEnd_r (D := D2) (s := D.1) (j := 9) (by decide)) x, congrFun (dEnd_r (D := D2) (s := D.1) (j := 10) (by decide)) x⟩
            have hlt : D.1 + 1 < D2.1 := by have := hb2.2.2; omega
            refine ⟨?_, dEnd_5, ?_⟩
            · show J 46 dl = 0
              rw [j46 dl (by omega), (y4.2.2.1 dl (by omega)).1, o46, upd_ne (by omega)]
              exact hK0
            · rcases hw with ⟨w9, w1, w2, w3⟩ | ⟨w11, w1, w2⟩
              · rcases s4 with ⟨-, t1, t2, t3⟩ | ⟨t0, -⟩
                · refine Or.inr (Or.inr (Or.inl ⟨d, dl1, (hrow 1 (by decide) (by decide) (by decide)).trans w1, sm, ?_, ?_, ?_, hlt, by omega, hB, t1, t2, t3, s3⟩))
                  · show J 46 d = 9
                    rw [j46 d (by omega), k46, w9]; rfl
                  · show J 47 d = (dEnd D2 D.1).2.2.2.1 3 D.1
                    rw [hrow 3 (by decide) (by decide) (by decide), j47 d (by omega), k47, w2]
                  · rw [show (bRw (dEnd D2 D.1) J M2).1 3 D.1 = D1.2.2.2.1 3 D.1 from hrow 3 (by decide) (by decide) (by decide)]
                    exact w3
                · omega
              · rcases s4 with ⟨t0, -⟩ | ⟨-, t3⟩
                · omega
                · subst t3
                  refine Or.inr (Or.inr (Or.inr ⟨d, v, (hrow 1 (by decide) (by decide) (by decide)).trans w1, sm, ?_, ?_, ?_, hlt, by omega, hB, s3⟩))
                  · show J 46 d = 11
                    rw [j46 d (by omega), k46, w11]; rfl
                  · show J 47 d = v
                    rw [j47 d (by omega), k47]
                  · rw [show (bRw (dEnd D2 D.1) J M2).1 4 D.1 = D1.2.2.2.1 4 D.1 from hrow 4 (by decide) (by decide) (by decide)]
                    exact w2
        · rw [if_neg c93]
          obtain ⟨-, x2, -, -⟩ := X_aft (b := b) (F := F) (E := E) (P := P) (nx := nx) (us := us) (z := z) (T := D2.1 - 1) (u := u) hLA (by omega) y3
          exact ⟨K2, M2, y1.trans (x2 (by omega) c93 n59), hf2⟩
  · rw [if_pos c91] at hop ⊢
    have hr : f_X2_readStep (ad b 44) (lay b F E I L P nx us) = some (0, lay b F E (aF K 1 (pl t n i1)) L P nx us) := by
      rw [hrun, hop]
      rfl
    exact ⟨K, L, X_f0 (by omega) hr, hf⟩
end BLK2
