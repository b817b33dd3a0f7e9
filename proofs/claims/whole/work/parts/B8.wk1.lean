/-! ===== work: the call ===== -/
theorem sm_01 {f : Nat → Int32} : ∀ m : Nat, (∀ k, k < m → f k = 0 ∨ f k = 1) → ∃ c, c ≤ m ∧ sm f 0 m = Int32.ofNat c ∧ ((∃ k, k < m ∧ f k = 1) → 1 ≤ c) := by
  intro m
  induction m with
  | zero => intro _; exact ⟨0, Nat.le_refl _, rfl, fun ⟨k, hk, _⟩ => absurd hk (Nat.not_lt_zero _)⟩
  | succ m ih =>
    intro h
    obtain ⟨c, c1, c2, c3⟩ := ih (fun k hk => h k (by omega))
    rcases h m (by omega) with hm | hm
    · refine ⟨c, by omega, by rw [sm_last, c2, hm, Int32.add_zero], fun ⟨k, hk, q⟩ => c3 ⟨k, ?_, q⟩⟩
      have : k ≠ m := fun e => by rw [e, hm] at q; exact absurd q (by decide)
      omega
    · exact ⟨c + 1, by omega, by rw [sm_last, c2, hm, oN_succ], fun _ => by omega⟩
theorem pnt_n (r : RW) : ∃ c, c ≤ 192 ∧ sm (pntF r) 0 192 = Int32.ofNat c := by
  obtain ⟨c, c1, c2, -⟩ := sm_01 (f := pntF r) 192 (fun k _ => by unfold pntF; split <;> simp)
  exact ⟨c, c1, c2⟩
/-- bits and bars: none of one is none of the other -/
theorem BT_0 {nb m : Nat} {bars sh : Nat → Int64} {x : Int32} (hnb : nb ≤ 12) (h : BT nb bars m sh x) : (x = 0 ↔ bcI x 12 ≤ 0) := by
  obtain ⟨c, c1, c2, c3⟩ := sm_01 (f := fun i => if (x >>> (Int32.ofNat i &&& 31)) &&& 1 = 1 then 1 else 0) 12 (fun k _ => by split <;> simp)
  unfold bcI
  rw [c2]
  constructor
  · intro hx
    have hz : sm (fun i => if (x >>> (Int32.ofNat i &&& 31)) &&& 1 = 1 then 1 else 0) 0 12 = 0 := by
      refine sm_z 12 0 (fun k _ k2 => ?_)
      rw [if_neg]
      rw [bt_1 (by omega), hx, b_0]
      decide
    rw [← c2, hz]
    exact Int32.le_refl _
  · intro hc
    have hc0 : c = 0 := by have := (oN_le (c := 0) (by omega) (by omega)).mp hc; omega
    apply b_ext
    intro i hi
    rw [b_0]
    cases hb : bt x i with
    | false => rfl
    | true =>
      exfalso
      have hi2 := (h i hi).mp hb
      have := c3 ⟨i, by omega, by rw [if_pos ((bt_1 hi).mpr hb)]⟩
      omega
theorem WALL_fr {nw nk nt : Nat} {q wd hg : Nat → Nat} {I I2 : Nat → Nat → Int32} (h : WALL nw nk nt q wd hg I) (hd : ∀ c, I2 (149 + c) = I (149 + c)) (hc : ∀ c, 73 ≤ c → c ≤ 88 → I2 c = I c) (h1 : I2 123 = I 123) (h2 : I2 129 = I 129) (h3 : I2 132 = I 132) (h5 : I2 72 5 = I 72 5) : WALL nw nk nt q wd hg I2 := by
  have hdy : dyn I2 = dyn I := funext hd
  unfold WALL at h ⊢
  rw [hdy, hc 73 (by decide) (by decide), hc 74 (by decide) (by decide), hc 75 (by decide) (by decide), hc 76 (by decide) (by decide), hc 77 (by decide) (by decide), hc 78 (by decide) (by decide), hc 79 (by decide) (by decide), hc 80 (by decide) (by decide), hc 81 (by decide) (by decide), hc 82 (by decide) (by decide), hc 83 (by decide) (by decide), hc 84 (by decide) (by decide), hc 86 (by decide) (by decide), hc 87 (by decide) (by decide), hc 88 (by decide) (by decide), h1, h2, h3, h5]
  exact h
/-- what a work leaves alone -/
def FrWk (ow : Nat → Nat) (I : Nat → Nat → Int32) (L : Nat → Nat → Int64) (I2 : Nat → Nat → Int32) (L2 : Nat → Nat → Int64) : Prop := (∀ c, c < 149 → [0, 8, 13, 14, 15, 16, 17, 18, 20, 21, 22, 65, 66, 67, 68, 69, 70, 71, 72, 80, 82, 106, 107, 108, 123, 124, 125, 126, 127, 128, 129, 130, 131, 132].contains c = false → I2 c = I c) ∧ (∀ k, k ≠ 16 → I2 0 k = I 0 k) ∧ (∀ k, k ≠ 1 → I2 13 k = I 13 k) ∧ (∀ k, [0, 1, 2, 47, 48, 49, 50, 76].contains k = false → I2 72 k = I 72 k) ∧ (∀ c, ow c ≠ 1 → I2 (149 + c) = I (149 + c)) ∧ ∀ c, c ≠ 109 → L2 c = L c
theorem wT_eq (b : Nat) (p1 p2 p3 : Int32) (h : AH) : f_X15_work (ad b 72) p1 p2 p3 h = if isO 15 h (ad b 72) = true then (pI 15 h (ad b 72) 0 0).bind fun h1 => b2 (f_X15_isWall (ad b 72) p1 h1) fun x2 h3 => if x2 = 0 then f_X15_work_29 (ad b 72) h3 else b2 (f_X15_isPainter (ad b 72) p2 h3) fun x4 h5 => if x4 = 0 then f_X15_work_29 (ad b 72) h5 else b2 (f_X15_isDrawing (ad b 72) p3 h5) fun x6 h7 => if x6 = 0 then f_X15_work_29 (ad b 72) h7 else b2 (f_X15_hasLeave (ad b 72) p1 h7) fun x8 h9 => if x8 = 0 then f_X15_work_54 (ad b 72) h9 else (gA 15 h9 (ad b 72) 13).bind fun a10 => (aI 0 h9 a10 p1).bind fun x11 => if x11 = (-2) then b2 (f_X15_paintsOn (ad b 72) p3 p1 h9) fun x12 h13 => b2 (f_X15_barsShown (ad b 72) h13) fun x14 h15 => if x14 ≤ 0 then (gI 15 h15 (ad b 72) 76).bind fun x16 => if x16 = 40 then b2 (f_X15_refused (ad b 72) 3 h15) fun x38 h39 => some (x38, h39) else mWt b p1 p2 p3 x12 h15 else b2 (f_X15_refused (ad b 72) 5 h15) fun x41 h42 => some (x41, h42) else f_X15_work_54 (ad b 72) h9 else none := rfl
theorem quietW {nw nk nt np nd td : Nat} {q wd hg ow : Nat → Nat} {I : Nat → Nat → Int32} {L : Nat → Nat → Int64} (hk : Cn nk 40 (I 13 1) (I 72 76)) (hW : WALL nw nk nt q wd hg I) (hBe : GBeg nk (I 8) (I 124)) (hWk : GWrk nk nw np nd td (I 14) (I 15) (I 16) (I 17) (I 18) (I 20) (I 21) (I 22) (I 123) (I 124) (I 125) (I 126) (I 127) (I 128) (I 129) (I 130) (I 131)) (hWo : GWo nk (I 126) (I 129)) : ∀ (I2 : Nat → Nat → Int32) (L2 : Nat → Nat → Int64), (∀ c, c ≠ 0 → (c < 65 ∨ 71 < c) → c ≠ 72 → c ≠ 106 → c ≠ 107 → c ≠ 108 → I2 c = I c) → (∀ k, k ≠ 16 → I2 0 k = I 0 k) → (∀ k, [0, 1, 2, 47, 48, 49, 50].contains k = false → I2 72 k = I 72 k) → (∀ c, c ≠ 109 → L2 c = L c) → nk ≤ nk ∧ Cn nk 40 (I2 13 1) (I2 72 76) ∧ WALL nw nk nt q wd hg I2 ∧ GBeg nk (I2 8) (I2 124) ∧ GWrk nk nw np nd td (I2 14) (I2 15) (I2 16) (I2 17) (I2 18) (I2 20) (I2 21) (I2 22) (I2 123) (I2 124) (I2 125) (I2 126) (I2 127) (I2 128) (I2 129) (I2 130) (I2 131) ∧ GWo nk (I2 126) (I2 129) ∧ FrWk ow I L I2 L2 := by
  intro I2 L2 g1 g2 g3 g4
  have r : ∀ c, c ≠ 0 → (c < 65 ∨ 71 < c) → c ≠ 72 → c ≠ 106 → c ≠ 107 → c ≠ 108 → I2 c = I c := g1
  rw [r 8 (by decide) (by decide) (by decide) (by decide) (by decide) (by decide), r 13 (by decide) (by decide) (by decide) (by decide) (by decide) (by decide), r 14 (by decide) (by decide) (by decide) (by decide) (by decide) (by decide), r 15 (by decide) (by decide) (by decide) (by decide) (by decide) (by decide), r 16 (by decide) (by decide) (by decide) (by decide) (by decide) (by decide), r 17 (by decide) (by decide) (by decide) (by decide) (by decide) (by decide), r 18 (by decide) (by decide) (by decide) (by decide) (by decide) (by decide), r 20 (by decide) (by decide) (by decide) (by decide) (by decide) (by decide), r 21 (by decide) (by decide) (by decide) (by decide) (by decide) (by decide), r 22 (by decide) (by decide) (by decide) (by decide) (by decide) (by decide), r 123 (by decide) (by decide) (by decide) (by decide) (by decide) (by decide), r 124 (by decide) (by decide) (by decide) (by decide) (by decide) (by decide), r 125 (by decide) (by decide) (by decide) (by decide) (by decide) (by decide), r 126 (by decide) (by decide) (by decide) (by decide) (by decide) (by decide), r 127 (by decide) (by decide) (by decide) (by decide) (by decide) (by decide), r 128 (by decide) (by decide) (by decide) (by decide) (by decide) (by decide), r 129 (by decide) (by decide) (by decide) (by decide) (by decide) (by decide), r 130 (by decide) (by decide) (by decide) (by decide) (by decide) (by decide), r 131 (by decide) (by decide) (by decide) (by decide) (by decide) (by decide), g3 76 (by decide)]
  refine ⟨Nat.le_refl _, hk, WALL_fr hW (fun c => r _ (by omega) (by omega) (by omega) (by omega) (by omega) (by omega)) (fun c c1 c2 => r c (by omega) (by omega) (by omega) (by omega) (by omega) (by omega)) (r 123 (by decide) (by decide) (by decide) (by decide) (by decide) (by decide)) (r 129 (by decide) (by decide) (by decide) (by decide) (by decide) (by decide)) (r 132 (by decide) (by decide) (by decide) (by decide) (by decide) (by decide)) (g3 5 (by decide)), hBe, hWk, hWo, fun c hc hl => ?_, g2, fun k _ => by rw [r 13 (by decide) (by decide) (by decide) (by decide) (by decide) (by decide)], fun k hk => ?_, fun c _ => r _ (by omega) (by omega) (by omega) (by omega) (by omega) (by omega), g4⟩
  · simp at hl
    exact r c (by omega) (by omega) (by omega) (by omega) (by omega) (by omega)
  · simp at hk
    exact g3 k (by simp; omega)
section WOK
variable {b : Nat} {F : Nat → Option AE} {D E : Nat → Option KD} {I : Nat → Nat → Int32} {L : Nat → Nat → Int64} {P : Nat → Nat → Option Nat} {nx us : Nat}
theorem work_ok {nw nk nt np nd nb td wn a w p d : Nat} {q wd hg ow cd rd : Nat → Nat} (hw : w < nw) (hp : p < np) (hd : d < nd) (hT : GTI I) (hnw : Cn nw 16 (I 1 1) (I 72 4)) (hnd : Cn nd 12 (I 0 10) (I 72 38)) (hnb : Cn nb 12 (I 0 12) (I 72 41)) (hnp : Cn np 10 (I 5 0) (I 72 58)) (hk : Cn nk 40 (I 13 1) (I 72 76)) (ht : Cn td 3649 (I 13 14) (I 72 5)) (hA : WA nw q wd hg ow E (P 2)) (hW : WALL nw nk nt q wd hg I) (hD : GDr nd cd rd wn E I L P ow) (hBr : GBar nb (L 53) (L 105)) (hBe : GBeg nk (I 8) (I 124)) (hWk : GWrk nk nw np nd td (I 14) (I 15) (I 16) (I 17) (I 18) (I 20) (I 21) (I 22) (I 123) (I 124) (I 125) (I 126) (I 127) (I 128) (I 129) (I 130) (I 131)) (hWo : GWo nk (I 126) (I 129)) (hO : ∀ c, a ≤ c → ow c = 0) (h1 : wAt (Int32.ofNat w) (I 1 1) (P 2) = some (149 + q w)) (h2 : ixR (Int32.ofNat w) (I 72 4) = 1) (d1 : dAt (Int32.ofNat d) (I 0 10) (P 52) = some (cd d)) (d2 : ixR (Int32.ofNat d) (I 72 38) = 1) (hp1 : ixR (Int32.ofNat p) (I 72 58) = 1) (hrf : ∀ x : Int32, x ≠ 4 → GTI (rf I x) ∧ nk ≤ nk ∧ Cn nk 40 (rf I x 13 1) (rf I x 72 76) ∧ WALL nw nk nt q wd hg (rf I x) ∧ GBeg nk (rf I x 8) (rf I x 124) ∧ GWrk nk nw np nd td (rf I x 14) (rf I x 15) (rf I x 16) (rf I x 17) (rf I x 18) (rf I x 20) (rf I x 21) (rf I x 22) (rf I x 123) (rf I x 124) (rf I x 125) (rf I x 126) (rf I x 127) (rf I x 128) (rf I x 129) (rf I x 130) (rf I x 131) ∧ GWo nk (rf I x 126) (rf I x 129) ∧ FrWk ow I L (rf I x) L) : ∃ I2 L2 nk2, RunG b F (f_X11_work (ad b 0) (Int32.ofNat w) (Int32.ofNat p) (Int32.ofNat d)) (f_X15_work (ad b 72) (Int32.ofNat w) (Int32.ofNat p) (Int32.ofNat d)) E I L P nx us E I2 L2 P nx us ∧ GTI I2 ∧ nk ≤ nk2 ∧ Cn nk2 40 (I2 13 1) (I2 72 76) ∧ WALL nw nk2 nt q wd hg I2 ∧ GBeg nk2 (I2 8) (I2 124) ∧ GWrk nk2 nw np nd td (I2 14) (I2 15) (I2 16) (I2 17) (I2 18) (I2 20) (I2 21) (I2 22) (I2 123) (I2 124) (I2 125) (I2 126) (I2 127) (I2 128) (I2 129) (I2 130) (I2 131) ∧ GWo nk2 (I2 126) (I2 129) ∧ FrWk ow I L I2 L2 := by
  have hdr := fun (J : Nat → Nat → Int32) => X_drAt (b := b) (F := F) (E := E) (I := J) (L := L) (P := P) (nx := nx) (us := us) (Int32.ofNat d)
  have hp10 : I 5 0 ≤ 10 := by rw [hnp.2.1]; exact oN_leL (m := 10) hnp.1 (by omega)
  have h4 := X_has4 (b := b) (F := F) (E := E) (I := I) (L := L) (P := P) (nx := nx) (us := us) (p := Int32.ofNat p) hp10
  have eqp : ixR (Int32.ofNat p) (I 5 0) = 1 := by rw [hnp.2.1, ← hnp.2.2]; exact hp1
  have hw16 : w < 16 := by have := hnw.1; omega
  have hp10' : p < 10 := by have := hnp.1; omega
  obtain ⟨hB, hC, hDd, hE, hF, hG, hH, hI, hU⟩ := hW
  obtain ⟨-, ⟨wk0, wk1, wk2, wk3, wk4⟩, w1, w2, w3, w4, -, -⟩ := hA w hw
  have k0 : kdf E (149 + q w) = some (.inr (8, true)) := kdf_of (by omega) wk0
  have k4 : kdf E (149 + q w + 4) = some (.inl (1, wd w * hg w)) := kdf_of (by omega) wk4
  have hN : wd w * hg w ≤ 192 := Nat.mul_le_mul w2 w4
  have hy : I 13 14 = I 72 5 := by rw [ht.2.1, ht.2.2]
  have hl : inR (I 72 5 / 365) (I (149 + q w) 4) (I (149 + q w) 5) = inR (I 72 5 / 365) (I 77 w) (I 78 w) := (hDd w hw).2.2 _ (Int32.le_refl _)
  have h8 : I (149 + q w) 8 = I 80 w := (hE.1 w hw).1
  have ew : iN (Int32.ofNat w) 16 = some w := iN_oN hw16 (by omega)
  have n10 : ¬ (1 : Int32) = 0 := by decide
  have hw' : ∀ (J : Nat → Nat → Int32), J 72 4 = I 72 4 → f_X15_isWall (ad b 72) (Int32.ofNat w) (lay b F E J L P nx us) = some (1, lay b F E J L P nx us) := fun J hJ => by rw [M_isWall, hJ, h2]
  have hd' : ∀ (J : Nat → Nat → Int32), J 72 38 = I 72 38 → f_X15_isDrawing (ad b 72) (Int32.ofNat d) (lay b F E J L P nx us) = some (1, lay b F E J L P nx us) := fun J hJ => by rw [M_isDrw, hJ, d2]
  have hp' : ∀ (J : Nat → Nat → Int32), J 72 58 = I 72 58 → f_X15_isPainter (ad b 72) (Int32.ofNat p) (lay b F E J L P nx us) = some (1, lay b F E J L P nx us) := fun J hJ => by rw [M_isPainter, hJ, hp1]
  have hlv : ∀ (J : Nat → Nat → Int32), J 72 5 = I 72 5 → J 77 = I 77 → J 78 = I 78 → f_X15_hasLeave (ad b 72) (Int32.ofNat w) (lay b F E J L P nx us) = some (inR (I 72 5 / 365) (I 77 w) (I 78 w), lay b F E J L P nx us) := by
    intro J j1 j2 j3
    rcases inR_2 (I 72 5 / 365) (I 77 w) (I 78 w) with h | h
    · simp (decide := true) only [f_X15_hasLeave, f_X15_year, ew, j1, j2, j3, h, isO_s, gI_s, gA_s, gL_s, pI_s, pZ_s, pL_s, aI_s, aL_s, aN_s, aQ_s, sI_s, sL_s, cr, LNs, Option.map_some, Option.map_none, Option.bind_some, b2, tr, lt, if_true, if_false, ckZ, X_within, M_in, X_refuse, X_tell, X_deny, X_grant, M_refused, M_denied, M_done, M_granted, u2_same, u2_ne, u2_u2, upd_same, upd_ne, aW0, ixR_z, ixR_1, M_isWall, M_isPainter, M_isWork, X_has4, X_has10, X_at, or_false, false_or, or_true, true_or, not_true, not_false_iff, Option.isSome_some, isO_d, gI_d, gA_d, pI_d, ne_eq, not_false_eq_true, u2_hi, u2_hj, u2_dyn, u2_dynj, Nat.reduceAdd, mX_r, mX_rD, mX_rDj, mM_r, mX_u, mX_uM, mX_uD, mX_uDj, mM_u, mM_uX, mM_uD, mM_uDj, u2_dd, u2_d0, u2_0d]
    · simp (decide := true) only [f_X15_hasLeave, f_X15_year, ew, j1, j2, j3, h, isO_s, gI_s, gA_s, gL_s, pI_s, pZ_s, pL_s, aI_s, aL_s, aN_s, aQ_s, sI_s, sL_s, cr, LNs, Option.map_some, Option.map_none, Option.bind_some, b2, tr, lt, if_true, if_false, ckZ, X_within, M_in, X_refuse, X_tell, X_deny, X_grant, M_refused, M_denied, M_done, M_granted, u2_same, u2_ne, u2_u2, upd_same, upd_ne, aW0, ixR_z, ixR_1, M_isWall, M_isPainter, M_isWork, X_has4, X_has10, X_at, or_false, false_or, or_true, true_or, not_true, not_false_iff, Option.isSome_some, isO_d, gI_d, gA_d, pI_d, ne_eq, not_false_eq_true, u2_hi, u2_hj, u2_dyn, u2_dynj, Nat.reduceAdd, mX_r, mX_rD, mX_rDj, mM_r, mX_u, mX_uM, mX_uD, mX_uDj, mM_u, mM_uX, mM_uD, mM_uDj, u2_dd, u2_d0, u2_0d]
  have h80 : ∀ (J : Nat → Nat → Int32), J 80 = I 80 → ((gA 15 (lay b F E J L P nx us) (ad b 72) 13).bind fun a => aI 0 (lay b F E J L P nx us) a (Int32.ofNat w)) = some (I 80 w) := fun J hJ => by
    simp (decide := true) only [ew, hJ, isO_s, gI_s, gA_s, gL_s, pI_s, pZ_s, pL_s, aI_s, aL_s, aN_s, aQ_s, sI_s, sL_s, cr, LNs, Option.map_some, Option.map_none, Option.bind_some, b2, tr, lt, if_true, if_false, ckZ, X_within, M_in, inR_z, X_refuse, X_tell, X_deny, X_grant, M_refused, M_denied, M_done, M_granted, u2_same, u2_ne, u2_u2, upd_same, upd_ne, aW0, ixR_z, ixR_1, M_isWall, M_isPainter, M_isWork, X_has4, X_has10, X_at, or_false, false_or, or_true, true_or, not_true, not_false_iff, Option.isSome_some, isO_d, gI_d, gA_d, pI_d, ne_eq, not_false_eq_true, u2_hi, u2_hj, u2_dyn, u2_dynj, Nat.reduceAdd, mX_r, mX_rD, mX_rDj, mM_r, mX_u, mX_uM, mX_uD, mX_uDj, mM_u, mM_uX, mM_uD, mM_uDj, u2_dd, u2_d0, u2_0d]
  have h80' : ∀ {α : Type} (J : Nat → Nat → Int32) (G : Int32 → Option α), J 80 = I 80 → ((gA 15 (lay b F E J L P nx us) (ad b 72) 13).bind fun a => (aI 0 (lay b F E J L P nx us) a (Int32.ofNat w)).bind G) = G (I 80 w) := fun J G hJ => by
    simp (decide := true) only [ew, hJ, isO_s, gI_s, gA_s, gL_s, pI_s, pZ_s, pL_s, aI_s, aL_s, aN_s, aQ_s, sI_s, sL_s, cr, LNs, Option.map_some, Option.map_none, Option.bind_some, b2, tr, lt, if_true, if_false, ckZ, X_within, M_in, inR_z, X_refuse, X_tell, X_deny, X_grant, M_refused, M_denied, M_done, M_granted, u2_same, u2_ne, u2_u2, upd_same, upd_ne, aW0, ixR_z, ixR_1, M_isWall, M_isPainter, M_isWork, X_has4, X_has10, X_at, or_false, false_or, or_true, true_or, not_true, not_false_iff, Option.isSome_some, isO_d, gI_d, gA_d, pI_d, ne_eq, not_false_eq_true, u2_hi, u2_hj, u2_dyn, u2_dynj, Nat.reduceAdd, mX_r, mX_rD, mX_rDj, mM_r, mX_u, mX_uM, mX_uD, mX_uDj, mM_u, mM_uX, mM_uD, mM_uDj, u2_dd, u2_d0, u2_0d]
  have pre : ∀ (K : Nat → Nat → Int32), K 72 = I 72 → K 77 = I 77 → K 78 = I 78 → K 80 = I 80 → f_X15_work (ad b 72) (Int32.ofNat w) (Int32.ofNat p) (Int32.ofNat d) (lay b F E K L P nx us) = if inR (I 72 5 / 365) (I 77 w) (I 78 w) = 0 then f_X15_work_54 (ad b 72) (lay b F E (u2 K 72 (upd (I 72) 0 0)) L P nx us) else if I 80 w = -2 then b2 (f_X15_paintsOn (ad b 72) (Int32.ofNat d) (Int32.ofNat w) (lay b F E (u2 K 72 (upd (I 72) 0 0)) L P nx us)) fun x12 h13 => b2 (f_X15_barsShown (ad b 72) h13) fun x14 h15 => if x14 ≤ 0 then (gI 15 h15 (ad b 72) 76).bind fun x16 => if x16 = 40 then b2 (f_X15_refused (ad b 72) 3 h15) fun x38 h39 => some (x38, h39) else mWt b (Int32.ofNat w) (Int32.ofNat p) (Int32.ofNat d) x12 h15 else b2 (f_X15_refused (ad b 72) 5 h15) fun x41 h42 => some (x41, h42) else f_X15_work_54 (ad b 72) (lay b F E (u2 K 72 (upd (I 72) 0 0)) L P nx us) := by
    intro K q1 q2 q3 q4
    rw [wT_eq, if_pos (isO_s (by decide)), pI_s (by decide) (by decide), Option.bind_some, q1, hw' _ (by rw [u2_same, upd_ne (by decide)]), b2_p, if_neg n10, hp' _ (by rw [u2_same, upd_ne (by decide)]), b2_p, if_neg n10, hd' _ (by rw [u2_same, upd_ne (by decide)]), b2_p, if_neg n10, hlv _ (by rw [u2_same, upd_ne (by decide)]) (by rw [u2_ne (by decide)]; exact q2) (by rw [u2_ne (by decide)]; exact q3), b2_p, h80' _ _ (by rw [u2_ne (by decide)]; exact q4)]
  have rf5 : f_X15_work_54 (ad b 72) (lay b F E (u2 (u2 I 0 (upd (I 0) 16 5)) 72 (upd (I 72) 0 0)) L P nx us) = some (-1, lay b F E (rf I 5) L P nx us) := by
    simp (decide := true) only [f_X15_work_54, isO_s, gI_s, gA_s, gL_s, pI_s, pZ_s, pL_s, aI_s, aL_s, aN_s, aQ_s, sI_s, sL_s, cr, LNs, Option.map_some, Option.map_none, Option.bind_some, b2, tr, lt, if_true, if_false, ckZ, X_within, M_in, inR_z, X_refuse, X_tell, X_deny, X_grant, M_refused, M_denied, M_done, M_granted, u2_same, u2_ne, u2_u2, upd_same, upd_ne, aW0, ixR_z, ixR_1, M_isWall, M_isPainter, M_isWork, X_has4, X_has10, X_at, or_false, false_or, or_true, true_or, not_true, not_false_iff, Option.isSome_some, isO_d, gI_d, gA_d, pI_d, ne_eq, not_false_eq_true, u2_hi, u2_hj, u2_dyn, u2_dynj, Nat.reduceAdd, mX_r, mX_rD, mX_rDj, mM_r, mX_u, mX_uM, mX_uD, mX_uDj, mM_u, mM_uX, mM_uD, mM_uDj, u2_dd, u2_d0, u2_0d]
    rfl
  have kr : ∀ (x : Int32) (c : Nat), c ≠ 0 → u2 I 0 (upd (I 0) 16 x) c = I c := fun x c h => u2_ne h
  rcases inR_2 (I 72 5 / 365) (I 77 w) (I 78 w) with hlz | hlz
  · refine ⟨rf I 5, L, nk, ⟨-1, E, u2 I 0 (upd (I 0) 16 5), L, P, nx, us, ?_, ?_⟩, hrf 5 (by decide)⟩
    · simp (decide := true) only [f_X11_work_69, f_X11_work_38, f_X11_work, f_X10_year, X_hasLeave, h1, hdr, d1, h4, eqp, k0, hy, hl, hlz, isO_s, gI_s, gA_s, gL_s, pI_s, pZ_s, pL_s, aI_s, aL_s, aN_s, aQ_s, sI_s, sL_s, cr, LNs, Option.map_some, Option.map_none, Option.bind_some, b2, tr, lt, if_true, if_false, ckZ, X_within, M_in, X_refuse, X_tell, X_deny, X_grant, M_refused, M_denied, M_done, M_granted, u2_same, u2_ne, u2_u2, upd_same, upd_ne, aW0, ixR_1, M_isWall, M_isPainter, M_isWork, X_has4, X_has10, X_at, or_false, false_or, or_true, true_or, not_true, not_false_iff, Option.isSome_some, isO_d, gI_d, gA_d, pI_d, ne_eq, not_false_eq_true, u2_hi, u2_hj, u2_dyn, u2_dynj, Nat.reduceAdd, mX_r, mX_rD, mX_rDj, mM_r, mX_u, mX_uM, mX_uD, mX_uDj, mM_u, mM_uX, mM_uD, mM_uDj, u2_dd, u2_d0, u2_0d]
    · rw [pre _ (kr 5 72 (by decide)) (kr 5 77 (by decide)) (kr 5 78 (by decide)) (kr 5 80 (by decide)), if_pos hlz]
      exact rf5
  have hln : ¬ inR (I 72 5 / 365) (I 77 w) (I 78 w) = 0 := by rw [hlz]; exact n10
  by_cases h80n : I 80 w = -2
  case neg =>
    refine ⟨rf I 5, L, nk, ⟨-1, E, u2 I 0 (upd (I 0) 16 5), L, P, nx, us, ?_, ?_⟩, hrf 5 (by decide)⟩
    · simp (decide := true) only [f_X11_work_69, f_X11_work_38, f_X11_work, f_X10_year, X_hasLeave, h1, hdr, d1, h4, eqp, k0, hy, hl, hlz, h8, h80n, isO_s, gI_s, gA_s, gL_s, pI_s, pZ_s, pL_s, aI_s, aL_s, aN_s, aQ_s, sI_s, sL_s, cr, LNs, Option.map_some, Option.map_none, Option.bind_some, b2, tr, lt, if_true, if_false, ckZ, X_within, M_in, X_refuse, X_tell, X_deny, X_grant, M_refused, M_denied, M_done, M_granted, u2_same, u2_ne, u2_u2, upd_same, upd_ne, aW0, ixR_1, M_isWall, M_isPainter, M_isWork, X_has4, X_has10, X_at, or_false, false_or, or_true, true_or, not_true, not_false_iff, Option.isSome_some, isO_d, gI_d, gA_d, pI_d, ne_eq, not_false_eq_true, u2_hi, u2_hj, u2_dyn, u2_dynj, Nat.reduceAdd, mX_r, mX_rD, mX_rDj, mM_r, mX_u, mX_uM, mX_uD, mX_uDj, mM_u, mM_uX, mM_uD, mM_uDj, u2_dd, u2_d0, u2_0d]
    · rw [pre _ (kr 5 72 (by decide)) (kr 5 77 (by decide)) (kr 5 78 (by decide)) (kr 5 80 (by decide)), if_neg hln, if_neg h80n]
      exact rf5
  obtain ⟨n1, n2, n3⟩ := hnb
  obtain ⟨ho, A', J, y1, y2, y3, y4, y5, y6, y7⟩ := paintW (b := b) (F := F) (E := E) (I := I) (L := L) (P := P) (nx := nx) (us := us) (cv := 65) (Or.inr rfl) hnw.1 hnd.1 hA hB hF hD hw hd n1 hO
  obtain ⟨x1, x2, x3, x4, x5, x6, x7, x8, x9, xa⟩ := y4
  obtain ⟨o1, o2, o3, o4, o5, o6⟩ := y1
  have J0 : J 0 = I 0 := y5 0 (by omega)
  have J13 : J 13 = I 13 := y5 13 (by omega)
  have hrd := GDr_rd hD hd
  obtain ⟨hk1, hk2, hk3⟩ := hk
  -- the reference behind its painting
  have hMp : ∀ (K : Nat → Nat → Int32), (∀ c, 72 ≤ c → c < 149 → K c = I c) → (∀ j, j < 12 → K (rd d + j) = I (rd d + j)) → ∃ Q M, f_X15_work (ad b 72) (Int32.ofNat w) (Int32.ofNat p) (Int32.ofNat d) (lay b F E K L P nx us) = (if bcI (J 65 6) 12 ≤ 0 then (if Int32.ofNat nk = 40 then some (-1, lay b F E (u2 Q 72 (mE (Q 72) 3)) M P nx us) else mWt b (Int32.ofNat w) (Int32.ofNat p) (Int32.ofNat d) (sm (pntF (Q 106)) 0 192) (lay b F E Q M P nx us)) else some (-1, lay b F E (u2 Q 72 (mE (Q 72) 5)) M P nx us)) ∧ A192 (Q 106) A'.2.1 ∧ (∀ c, c ≠ 72 → c ≠ 106 → c ≠ 107 → c ≠ 108 → Q c = K c) ∧ (∀ k, [0, 47, 48, 49, 50].contains k = false → Q 72 k = I 72 k) ∧ ∀ c, c ≠ 109 → M c = L c := by
    intro K kc kd
    obtain ⟨Q, M, m1, m2, m3, m4, m5⟩ := y7 (u2 K 72 (upd (I 72) 0 0)) L (fun c hc hc2 => ⟨by rw [u2_ne (by omega)]; exact kc c (by omega) hc2, rfl⟩) (fun j hj => ⟨by rw [u2_ne (by omega)]; exact kd j hj, rfl⟩)
    obtain ⟨z1, z2, z3, z4, z5, z6, z7⟩ := m2
    have hq72 : ∀ k, [0, 47, 48, 49, 50].contains k = false → Q 72 k = I 72 k := fun k hk => by
      simp at hk
      rw [m4 k (by omega) (by omega) (by omega) (by omega), u2_same, upd_ne (by omega)]
    have hbars := M_bars (b := b) (F := F) (E := E) (I := Q) (L := M) (P := P) (nx := nx) (us := us) n1 o3 (by rw [hq72 41 (by decide)]; exact n3) z4
    have hcnt : sm (fun j => sm (fun k => if M 109 k = M 105 j then 1 else 0) 0 A'.2.2.2.2.1) 0 nb = bcI (J 65 6) 12 := by
      rw [BT_cnt (m := A'.2.2.2.2.1) (sh := A'.2.2.2.2.2) (barm := M 105) n1 o4 (fun k hk => by rw [m5 105 (by decide)]; exact hBr k hk) x7]
      refine sm_congr nb 0 (fun j _ _ => sm_congr _ 0 (fun k _ k2 => ?_))
      rw [z7 k (by omega)]
    rw [hcnt] at hbars
    refine ⟨Q, M, ?_, z6, fun c c1 c2 c3 c4 => by rw [m3 c c1 c2 c3 c4, u2_ne c1], hq72, m5⟩
    rw [pre K (kc 72 (by decide) (by decide)) (kc 77 (by decide) (by decide)) (kc 78 (by decide) (by decide)) (kc 80 (by decide) (by decide)), if_neg hln, if_pos h80n, m1, b2_p, hbars, b2_p, gI_s (by decide) (by decide), Option.bind_some, hq72 76 (by decide), hk3, M_refused, M_refused, b2_p, b2_p]
  have hbz := BT_0 n1 x7
  have hJd : ∀ x : Int32, (∀ c, 72 ≤ c → c < 149 → u2 J 0 (upd (J 0) 16 x) c = I c) ∧ ∀ j, j < 12 → u2 J 0 (upd (J 0) 16 x) (rd d + j) = I (rd d + j) := fun x => ⟨fun c c1 c2 => by rw [u2_ne (by omega), y5 c (by omega)], fun j hj => by rw [u2_ne (by omega), y5 _ (by omega)]⟩
  have ref : ∀ x : Int32, x ≠ 4 → f_X11_work (ad b 0) (Int32.ofNat w) (Int32.ofNat p) (Int32.ofNat d) (lay b F E I L P nx us) = some (-1, lay b F E (u2 J 0 (upd (J 0) 16 x)) L P nx us) → (∀ (Q : Nat → Nat → Int32) (M : Nat → Nat → Int64), (if bcI (J 65 6) 12 ≤ 0 then (if Int32.ofNat nk = 40 then some (-1, lay b F E (u2 Q 72 (mE (Q 72) 3)) M P nx us) else mWt b (Int32.ofNat w) (Int32.ofNat p) (Int32.ofNat d) (sm (pntF (Q 106)) 0 192) (lay b F E Q M P nx us)) else some (-1, lay b F E (u2 Q 72 (mE (Q 72) 5)) M P nx us)) = some (-1, lay b F E (u2 Q 72 (mE (Q 72) x)) M P nx us)) → ∃ I2 L2 nk2, RunG b F (f_X11_work (ad b 0) (Int32.ofNat w) (Int32.ofNat p) (Int32.ofNat d)) (f_X15_work (ad b 72) (Int32.ofNat w) (Int32.ofNat p) (Int32.ofNat d)) E I L P nx us E I2 L2 P nx us ∧ GTI I2 ∧ nk ≤ nk2 ∧ Cn nk2 40 (I2 13 1) (I2 72 76) ∧ WALL nw nk2 nt q wd hg I2 ∧ GBeg nk2 (I2 8) (I2 124) ∧ GWrk nk2 nw np nd td (I2 14) (I2 15) (I2 16) (I2 17) (I2 18) (I2 20) (I2 21) (I2 22) (I2 123) (I2 124) (I2 125) (I2 126) (I2 127) (I2 128) (I2 129) (I2 130) (I2 131) ∧ GWo nk2 (I2 126) (I2 129) ∧ FrWk ow I L I2 L2 := by
    intro x hx hrx hrm
    obtain ⟨Q, M, m1, m2, m3, m4, m5⟩ := hMp (u2 J 0 (upd (J 0) 16 x)) (hJd x).1 (hJd x).2
    rw [hrm] at m1
    have hI0 : u2 Q 72 (mE (Q 72) x) 0 = upd (I 0) 16 x := by rw [u2_ne (by decide), m3 0 (by decide) (by decide) (by decide) (by decide), u2_same, J0]
    refine ⟨u2 Q 72 (mE (Q 72) x), M, nk, ⟨-1, E, _, L, P, nx, us, hrx, m1⟩, ?_, quietW ⟨hk1, hk2, hk3⟩ ⟨hB, hC, hDd, hE, hF, hG, hH, hI, hU⟩ hBe hWk hWo _ M (fun c c1 c2 c3 c4 c5 c6 => by rw [u2_ne c3, m3 c c3 c4 c5 c6, u2_ne c1, y5 c (by omega)]) (fun k hk => by rw [hI0, upd_ne hk]) (fun k hk => ?_) m5⟩
    · unfold GTI
      rw [hI0, u2_same]
      have t1 : mE (Q 72) x 1 = x := by simp (decide := true) only [u2_same, u2_ne, u2_u2, upd_same, upd_ne, mE, u2_dyn, dyn_u2, dyn_hi, u2_hi, u2_hj, u2_dynj, u2_dd, u2_d0, u2_0d]
      have t2 : mE (Q 72) x 2 = -1 := by simp (decide := true) only [u2_same, u2_ne, u2_u2, upd_same, upd_ne, mE, u2_dyn, dyn_u2, dyn_hi, u2_hi, u2_hj, u2_dynj, u2_dd, u2_d0, u2_0d]
      have t3 : mE (Q 72) x 3 = I 72 3 := by simp (decide := true) only [u2_same, u2_ne, u2_u2, upd_same, upd_ne, mE, u2_dyn, dyn_u2, dyn_hi, u2_hi, u2_hj, u2_dynj, u2_dd, u2_d0, u2_0d]; exact m4 3 (by decide)
      rw [t1, t2, t3, upd_same, upd_ne (by decide), upd_ne (by decide)]
      exact GT_end hT hx
    · simp at hk
      rw [u2_same]
      unfold mE
      rw [upd_ne (by omega), upd_ne (by omega)]
      exact m4 k (by simp; omega)
  by_cases hb0 : J 65 6 = 0
  case neg =>
    refine ref 5 (by decide) ?_ (fun Q M => by rw [if_neg (fun q => hb0 (hbz.mpr q))])
    simp (decide := true) only [f_X11_work_69, f_X11_work_38, f_X11_work, f_X10_year, X_hasLeave, h1, hdr, d1, h4, eqp, k0, hy, hl, hlz, h8, h80n, n2, y3, hb0, isO_s, gI_s, gA_s, gL_s, pI_s, pZ_s, pL_s, aI_s, aL_s, aN_s, aQ_s, sI_s, sL_s, cr, LNs, Option.map_some, Option.map_none, Option.bind_some, b2, tr, lt, if_true, if_false, ckZ, X_within, M_in, X_refuse, X_tell, X_deny, X_grant, M_refused, M_denied, M_done, M_granted, u2_same, u2_ne, u2_u2, upd_same, upd_ne, aW0, ixR_1, M_isWall, M_isPainter, M_isWork, X_has4, X_has10, X_at, or_false, false_or, or_true, true_or, not_true, not_false_iff, Option.isSome_some, isO_d, gI_d, gA_d, pI_d, ne_eq, not_false_eq_true, u2_hi, u2_hj, u2_dyn, u2_dynj, Nat.reduceAdd, mX_r, mX_rD, mX_rDj, mM_r, mX_u, mX_uM, mX_uD, mX_uDj, mM_u, mM_uX, mM_uD, mM_uDj, u2_dd, u2_d0, u2_0d]
  have hbc := hbz.mp hb0
  by_cases h40 : nk = 40
  · have e40 : (Int32.ofNat nk < 40) = False := by rw [h40]; decide
    refine ref 3 (by decide) ?_ (fun Q M => by rw [if_pos hbc, if_pos (by rw [h40]; rfl)])
    simp (decide := true) only [f_X11_work_69, f_X11_work_38, f_X11_work, f_X10_year, X_hasLeave, h1, hdr, d1, h4, eqp, k0, hy, hl, hlz, h8, h80n, n2, y3, hb0, J13, hk2, e40, isO_s, gI_s, gA_s, gL_s, pI_s, pZ_s, pL_s, aI_s, aL_s, aN_s, aQ_s, sI_s, sL_s, cr, LNs, Option.map_some, Option.map_none, Option.bind_some, b2, tr, lt, if_true, if_false, ckZ, X_within, M_in, X_refuse, X_tell, X_deny, X_grant, M_refused, M_denied, M_done, M_granted, u2_same, u2_ne, u2_u2, upd_same, upd_ne, aW0, ixR_1, M_isWall, M_isPainter, M_isWork, X_has4, X_has10, X_at, or_false, false_or, or_true, true_or, not_true, not_false_iff, Option.isSome_some, isO_d, gI_d, gA_d, pI_d, ne_eq, not_false_eq_true, u2_hi, u2_hj, u2_dyn, u2_dynj, Nat.reduceAdd, mX_r, mX_rD, mX_rDj, mM_r, mX_u, mX_uM, mX_uD, mX_uDj, mM_u, mM_uX, mM_uD, mM_uDj, u2_dd, u2_d0, u2_0d]
  have hnk : nk < 40 := by omega
  have e40 : (Int32.ofNat nk < 40) = True := eq_true ((oN_lt (c := 40) (by omega) (by omega)).mpr hnk)
  have x9' : ∀ k, k < 192 → J 66 k = A'.2.1 k := x9
  have o6' := o6
  let J1 : Nat → Nat → Int32 := u2 J (149 + q w + 4) (fun k => if 0 ≤ k ∧ k < wd w * hg w then J 66 k else J (149 + q w + 4) k)
  have hJ1 : ∀ c, c ≠ 149 + q w + 4 → J1 c = J c := fun c h => u2_ne h
  have hpl : f_X8_plan (ad b (149 + q w)) (ad b 66) (lay b F E J L P nx us) = some (lay b F E J1 L P nx us) := by
    have := X_plan (b := b) (F := F) (E := E) (L := L) (P := P) (nx := nx) (us := us) hN (by omega) k0 k4 (wd w * hg w) 0 J FU (by omega) (by unfold FU; omega) (fun k hk => by rw [x9' k (by omega)]; exact aW1_b (o6' k (by omega)).1 (o6' k (by omega)).2.1)
    unfold f_X8_plan
    rw [if_pos (isO_lay k0)]
    exact this
  let J2 : Nat → Nat → Int32 := u2 J1 8 (upd (J1 8) p (J1 8 p + 1))
  have hJ2 : ∀ c, c ≠ 8 → J2 c = J1 c := fun c h => u2_ne h
  have J18 : J1 8 = I 8 := by rw [hJ1 8 (by omega), y5 8 (by omega)]
  have J15 : J1 5 = I 5 := by rw [hJ1 5 (by omega), y5 5 (by omega)]
  have hcw : f_X4_countWork (ad b 5) (Int32.ofNat p) (lay b F E J1 L P nx us) = some (lay b F E J2 L P nx us) := by
    have h4' := X_has4 (b := b) (F := F) (E := E) (I := J1) (L := L) (P := P) (nx := nx) (us := us) (p := Int32.ofNat p) (by rw [J15]; exact hp10)
    rw [J15, eqp] at h4'
    have ep : iN (Int32.ofNat p) 10 = some p := iN_oN hp10' (by omega)
    simp (decide := true) only [f_X4_countWork_18, f_X4_countWork, h4', ep, isO_s, gI_s, gA_s, gL_s, pI_s, pZ_s, pL_s, aI_s, aL_s, aN_s, aQ_s, sI_s, sL_s, cr, LNs, Option.map_some, Option.map_none, Option.bind_some, b2, tr, lt, if_true, if_false, ckZ, X_within, M_in, inR_z, X_refuse, X_tell, X_deny, X_grant, M_refused, M_denied, M_done, M_granted, u2_same, u2_ne, u2_u2, upd_same, upd_ne, aW0, ixR_z, ixR_1, M_isWall, M_isPainter, M_isWork, X_has4, X_has10, X_at, or_false, false_or, or_true, true_or, not_true, not_false_iff, Option.isSome_some, isO_d, gI_d, gA_d, pI_d, ne_eq, not_false_eq_true, u2_hi, u2_hj, u2_dyn, u2_dynj, Nat.reduceAdd, mX_r, mX_rD, mX_rDj, mM_r, mX_u, mX_uM, mX_uD, mX_uDj, mM_u, mM_uX, mM_uD, mM_uDj, u2_dd, u2_d0, u2_0d]
    rfl
  have hpt := X_ptd (b := b) (F := F) (E := E) (I := J2) (L := L) (P := P) (nx := nx) (us := us) (cv := 65) (Or.inr rfl)
  have J266 : J2 66 = J 66 := by rw [hJ2 66 (by decide), hJ1 66 (by omega)]
  have hpt' : f_X0_painted (ad b 65) (lay b F E J2 L P nx us) = some (sm (pntF (J 66)) 0 192, lay b F E J2 L P nx us) := by
    rw [← J266]
    exact hpt
  have J21 : J2 1 = I 1 := by rw [hJ2 1 (by decide), hJ1 1 (by omega), y5 1 (by omega)]
  have J213 : J2 13 = I 13 := by rw [hJ2 13 (by decide), hJ1 13 (by omega), J13]
  have hbg := X_begin (b := b) (F := F) (E := E) (I := J2) (L := L) (P := P) (nx := nx) (us := us) (a := q w) (nk := nk) (w := w) (pa := Int32.ofNat p) (dr := Int32.ofNat d) (n := sm (pntF (J 66)) 0 192) (by rw [J21]; exact h1) k0 (by rw [J213]; exact hk2) hnk
  obtain ⟨cc, hcc, hnn⟩ := pnt_n (J 66)
  generalize hnv : sm (pntF (J 66)) 0 192 = n at *
  have b3 : ∀ c, c ≠ 13 → c ≠ 14 → c ≠ 15 → c ≠ 16 → c ≠ 17 → c ≠ 18 → c ≠ 20 → c ≠ 21 → c ≠ 22 → c ≠ 149 + q w → xBw (q w) nk w (Int32.ofNat p) (Int32.ofNat d) n J2 c = J2 c := fun c a1 a2 a3 a4 a5 a6 a7 a8 a9 aa => by unfold xBw; rw [u2_ne a1, u2_ne aa, u2_ne a9, u2_ne a7, u2_ne a6, u2_ne a5, u2_ne a8, u2_ne a4, u2_ne a3, u2_ne a2]
  have row2 : ∀ c, c < 65 → c ≠ 8 → J2 c = I c := fun c c1 c2 => by rw [hJ2 c c2, hJ1 c (by omega), y5 c (by omega)]
  have v13 : xBw (q w) nk w (Int32.ofNat p) (Int32.ofNat d) n J2 13 = upd (I 13) 1 (Int32.ofNat (nk + 1)) := by unfold xBw; rw [u2_same, J213]
  have vq : xBw (q w) nk w (Int32.ofNat p) (Int32.ofNat d) n J2 (149 + q w) = upd (I (149 + q w)) 8 (Int32.ofNat nk) := by unfold xBw; rw [u2_ne (by omega), u2_same, hJ2 _ (by omega), hJ1 _ (by omega), y5 _ (by omega)]
  have v14 : xBw (q w) nk w (Int32.ofNat p) (Int32.ofNat d) n J2 14 = upd (I 14) nk (Int32.ofNat w) := by unfold xBw; rw [u2_ne (by decide), u2_ne (by omega), u2_ne (by decide), u2_ne (by decide), u2_ne (by decide), u2_ne (by decide), u2_ne (by decide), u2_ne (by decide), u2_ne (by decide), u2_same, row2 14 (by decide) (by decide)]
  have v15 : xBw (q w) nk w (Int32.ofNat p) (Int32.ofNat d) n J2 15 = upd (I 15) nk (Int32.ofNat p) := by unfold xBw; rw [u2_ne (by decide), u2_ne (by omega), u2_ne (by decide), u2_ne (by decide), u2_ne (by decide), u2_ne (by decide), u2_ne (by decide), u2_ne (by decide), u2_same, row2 15 (by decide) (by decide)]
  have v16 : xBw (q w) nk w (Int32.ofNat p) (Int32.ofNat d) n J2 16 = upd (I 16) nk (Int32.ofNat d) := by unfold xBw; rw [u2_ne (by decide), u2_ne (by omega), u2_ne (by decide), u2_ne (by decide), u2_ne (by decide), u2_ne (by decide), u2_ne (by decide), u2_same, row2 16 (by decide) (by decide)]
  have v21 : xBw (q w) nk w (Int32.ofNat p) (Int32.ofNat d) n J2 21 = upd (I 21) nk n := by unfold xBw; rw [u2_ne (by decide), u2_ne (by omega), u2_ne (by decide), u2_ne (by decide), u2_ne (by decide), u2_ne (by decide), u2_same, row2 21 (by decide) (by decide)]
  have v17 : xBw (q w) nk w (Int32.ofNat p) (Int32.ofNat d) n J2 17 = upd (I 17) nk (3 + mxI 1 ((n + 24 - 1) / 24)) := by unfold xBw; rw [u2_ne (by decide), u2_ne (by omega), u2_ne (by decide), u2_ne (by decide), u2_ne (by decide), u2_same, row2 17 (by decide) (by decide)]
  have v18 : xBw (q w) nk w (Int32.ofNat p) (Int32.ofNat d) n J2 18 = upd (I 18) nk 0 := by unfold xBw; rw [u2_ne (by decide), u2_ne (by omega), u2_ne (by decide), u2_ne (by decide), u2_same, row2 18 (by decide) (by decide)]
  have v20 : xBw (q w) nk w (Int32.ofNat p) (Int32.ofNat d) n J2 20 = upd (I 20) nk (-2) := by unfold xBw; rw [u2_ne (by decide), u2_ne (by omega), u2_ne (by decide), u2_same, row2 20 (by decide) (by decide)]
  have v22 : xBw (q w) nk w (Int32.ofNat p) (Int32.ofNat d) n J2 22 = upd (I 22) nk 0 := by unfold xBw; rw [u2_ne (by decide), u2_ne (by omega), u2_same, row2 22 (by decide) (by decide)]
  generalize hJ3 : xBw (q w) nk w (Int32.ofNat p) (Int32.ofNat d) n J2 = J3 at *
  let K : Nat → Nat → Int32 := u2 J3 0 (upd (J3 0) 16 0)
  have hK : ∀ c, c ≠ 0 → K c = J3 c := fun c h => u2_ne h
  have K0 : K 0 = upd (I 0) 16 0 := by
    show u2 J3 0 (upd (J3 0) 16 0) 0 = _
    rw [u2_same, b3 0 (by decide) (by decide) (by decide) (by decide) (by decide) (by decide) (by decide) (by decide) (by decide) (by omega), row2 0 (by decide) (by decide)]
  have hX : f_X11_work (ad b 0) (Int32.ofNat w) (Int32.ofNat p) (Int32.ofNat d) (lay b F E I L P nx us) = some (Int32.ofNat nk, lay b F E K L P nx us) := by
    simp (decide := true) only [f_X11_work_69, f_X11_work_38, f_X11_work, f_X10_year, X_hasLeave, h1, hdr, d1, h4, eqp, k0, hy, hl, hlz, h8, h80n, n2, y3, hb0, J13, hk2, e40, hpl, hcw, hpt', hbg, isO_s, gI_s, gA_s, gL_s, pI_s, pZ_s, pL_s, aI_s, aL_s, aN_s, aQ_s, sI_s, sL_s, cr, LNs, Option.map_some, Option.map_none, Option.bind_some, b2, tr, lt, if_true, if_false, ckZ, X_within, M_in, X_refuse, X_tell, X_deny, X_grant, M_refused, M_denied, M_done, M_granted, u2_same, u2_ne, u2_u2, upd_same, upd_ne, aW0, ixR_1, M_isWall, M_isPainter, M_isWork, X_has4, X_has10, X_at, or_false, false_or, or_true, true_or, not_true, not_false_iff, Option.isSome_some, isO_d, gI_d, gA_d, pI_d, ne_eq, not_false_eq_true, u2_hi, u2_hj, u2_dyn, u2_dynj, Nat.reduceAdd, mX_r, mX_rD, mX_rDj, mM_r, mX_u, mX_uM, mX_uD, mX_uDj, mM_u, mM_uX, mM_uD, mM_uDj, u2_dd, u2_d0, u2_0d]
    rfl
  have hKs : ∀ c, 72 ≤ c → c < 149 → K c = I c := fun c c1 c2 => by rw [hK c (by omega), b3 c (by omega) (by omega) (by omega) (by omega) (by omega) (by omega) (by omega) (by omega) (by omega) (by omega), hJ2 c (by omega), hJ1 c (by omega), y5 c (by omega)]
  have hdt : ∀ j, j < 12 → rd d + j ≠ 149 + q w ∧ rd d + j ≠ 149 + q w + 4 := by
    intro j hj
    rcases (hD d hd).2.2.2.2.1 with h | ⟨x, h, o⟩
    · omega
    · have oj := o j hj
      have ow0 := (hA w hw).2.2.2.2.2.2.2 0 (by decide)
      have ow4 := (hA w hw).2.2.2.2.2.2.2 4 (by decide)
      refine ⟨fun e => ?_, fun e => ?_⟩
      · rw [show x + j = q w + 0 by omega, ow0] at oj
        cases oj
      · rw [show x + j = q w + 4 by omega, ow4] at oj
        cases oj
  obtain ⟨Q, M, m1, m2, m3, m4, m5⟩ := hMp K hKs (fun j hj => by
    obtain ⟨e1, e2⟩ := hdt j hj
    rw [hK _ (by omega), b3 _ (by omega) (by omega) (by omega) (by omega) (by omega) (by omega) (by omega) (by omega) (by omega) e1, hJ2 _ (by omega), hJ1 _ e2, y5 _ (by omega)])
  have e40n : ¬ Int32.ofNat nk = 40 := fun q => by have := (oN_eq (c := 40) (by omega) (by omega)).mp q; omega
  have hnq : sm (pntF (Q 106)) 0 192 = n := by
    rw [← hnv]
    refine sm_congr 192 0 (fun k _ k2 => ?_)
    unfold pntF
    have e1 : Q 106 k = A'.2.1 k := m2 k (by omega)
    rw [e1, x9' k (by omega)]
  rw [if_pos hbc, if_neg e40n, hnq, M_wTl hnk (by rw [m4 76 (by decide)]; exact hk3)] at m1
  have hw200 := M_w200 (b := b) (F := F) (E := E) (L := M) (P := P) (nx := nx) (us := us) (w := Int32.ofNat w) hnk 192 0 (mBw nk w (Int32.ofNat p) (Int32.ofNat d) n Q) FU (by omega) (by unfold FU; omega)
  have hw200' : f_X15_work_200 FU (ad b 72) (Int32.ofNat w) (Int32.ofNat nk) 0 (lay b F E (mBw nk w (Int32.ofNat p) (Int32.ofNat d) n Q) M P nx us) = _ := hw200
  rw [hw200', M_wEnd hw16] at m1
  have t3 : ∀ c, c ≠ 72 → c ≠ 123 → c ≠ 124 → c ≠ 125 → c ≠ 126 → c ≠ 127 → c ≠ 128 → c ≠ 129 → c ≠ 130 → c ≠ 131 → mBw nk w (Int32.ofNat p) (Int32.ofNat d) n Q c = Q c := fun c a1 a2 a3 a4 a5 a6 a7 a8 a9 aa => by unfold mBw; rw [u2_ne aa, u2_ne a9, u2_ne a8, u2_ne a7, u2_ne a6, u2_ne a5, u2_ne a4, u2_ne a3, u2_ne a2, u2_ne a1]
  have Qs : ∀ c, 72 < c → c < 149 → c ≠ 106 → c ≠ 107 → c ≠ 108 → Q c = I c := fun c c1 c2 c3 c4 c5 => by rw [m3 c (by omega) c3 c4 c5, hKs c (by omega) c2]
  have t72 : mBw nk w (Int32.ofNat p) (Int32.ofNat d) n Q 72 = upd (Q 72) 76 (Int32.ofNat (nk + 1)) := by unfold mBw; rw [u2_ne (by decide), u2_ne (by decide), u2_ne (by decide), u2_ne (by decide), u2_ne (by decide), u2_ne (by decide), u2_ne (by decide), u2_ne (by decide), u2_ne (by decide), u2_same]
  have t131 : mBw nk w (Int32.ofNat p) (Int32.ofNat d) n Q 131 = upd (I 131) nk 0 := by unfold mBw; rw [u2_same, Qs 131 (by decide) (by decide) (by decide) (by decide) (by decide)]
  have t130 : mBw nk w (Int32.ofNat p) (Int32.ofNat d) n Q 130 = upd (I 130) nk n := by unfold mBw; rw [u2_ne (by decide), u2_same, Qs 130 (by decide) (by decide) (by decide) (by decide) (by decide)]
  have t129 : mBw nk w (Int32.ofNat p) (Int32.ofNat d) n Q 129 = upd (I 129) nk (-2) := by unfold mBw; rw [u2_ne (by decide), u2_ne (by decide), u2_same, Qs 129 (by decide) (by decide) (by decide) (by decide) (by decide)]
  have t128 : mBw nk w (Int32.ofNat p) (Int32.ofNat d) n Q 128 = upd (I 128) nk (mxI 1 ((n + 23) / 24)) := by unfold mBw; rw [u2_ne (by decide), u2_ne (by decide), u2_ne (by decide), u2_same, Qs 128 (by decide) (by decide) (by decide) (by decide) (by decide)]
  have t127 : mBw nk w (Int32.ofNat p) (Int32.ofNat d) n Q 127 = upd (I 127) nk 1 := by unfold mBw; rw [u2_ne (by decide), u2_ne (by decide), u2_ne (by decide), u2_ne (by decide), u2_same, Qs 127 (by decide) (by decide) (by decide) (by decide) (by decide)]
  have t126 : mBw nk w (Int32.ofNat p) (Int32.ofNat d) n Q 126 = upd (I 126) nk 0 := by unfold mBw; rw [u2_ne (by decide), u2_ne (by decide), u2_ne (by decide), u2_ne (by decide), u2_ne (by decide), u2_same, Qs 126 (by decide) (by decide) (by decide) (by decide) (by decide)]
  have t125 : mBw nk w (Int32.ofNat p) (Int32.ofNat d) n Q 125 = upd (I 125) nk (Int32.ofNat d) := by unfold mBw; rw [u2_ne (by decide), u2_ne (by decide), u2_ne (by decide), u2_ne (by decide), u2_ne (by decide), u2_ne (by decide), u2_same, Qs 125 (by decide) (by decide) (by decide) (by decide) (by decide)]
  have t124 : mBw nk w (Int32.ofNat p) (Int32.ofNat d) n Q 124 = upd (I 124) nk (Int32.ofNat p) := by unfold mBw; rw [u2_ne (by decide), u2_ne (by decide), u2_ne (by decide), u2_ne (by decide), u2_ne (by decide), u2_ne (by decide), u2_ne (by decide), u2_same, Qs 124 (by decide) (by decide) (by decide) (by decide) (by decide)]
  have t123 : mBw nk w (Int32.ofNat p) (Int32.ofNat d) n Q 123 = upd (I 123) nk (Int32.ofNat w) := by unfold mBw; rw [u2_ne (by decide), u2_ne (by decide), u2_ne (by decide), u2_ne (by decide), u2_ne (by decide), u2_ne (by decide), u2_ne (by decide), u2_ne (by decide), u2_same, Qs 123 (by decide) (by decide) (by decide) (by decide) (by decide)]
  generalize hQ2 : mBw nk w (Int32.ofNat p) (Int32.ofNat d) n Q = Q2 at *
  have u106 : Q2 106 = Q 106 := t3 106 (by decide) (by decide) (by decide) (by decide) (by decide) (by decide) (by decide) (by decide) (by decide) (by decide)
  have u132 : Q2 132 = I 132 := by rw [t3 132 (by decide) (by decide) (by decide) (by decide) (by decide) (by decide) (by decide) (by decide) (by decide) (by decide), Qs 132 (by decide) (by decide) (by decide) (by decide) (by decide)]
  let Q3 : Nat → Nat → Int32 := u2 Q2 132 (fun k => if 192 * nk + 0 ≤ k ∧ k < 192 * nk + 192 then Q2 106 (k - 192 * nk) else Q2 132 k)
  let I2 : Nat → Nat → Int32 := u2 (u2 (u2 Q3 80 (upd (Q3 80) w (Int32.ofNat nk))) 82 (upd (u2 Q3 80 (upd (Q3 80) w (Int32.ofNat nk)) 82) w (Int32.ofNat nk))) 72 (mE (u2 (u2 Q3 80 (upd (Q3 80) w (Int32.ofNat nk))) 82 (upd (u2 Q3 80 (upd (Q3 80) w (Int32.ofNat nk)) 82) w (Int32.ofNat nk)) 72) 0)
  have q3 : ∀ c, c ≠ 132 → Q3 c = Q2 c := fun c h => u2_ne h
  have i2 : ∀ c, c ≠ 72 → c ≠ 80 → c ≠ 82 → I2 c = Q3 c := fun c c1 c2 c3 => by
    show u2 (u2 (u2 Q3 80 _) 82 _) 72 _ c = _
    rw [u2_ne c1, u2_ne c3, u2_ne c2]
  have i80 : I2 80 = upd (I 80) w (Int32.ofNat nk) := by
    show u2 (u2 (u2 Q3 80 _) 82 _) 72 _ 80 = _
    rw [u2_ne (by decide), u2_ne (by decide), u2_same, q3 80 (by decide), t3 80 (by decide) (by decide) (by decide) (by decide) (by decide) (by decide) (by decide) (by decide) (by decide) (by decide), Qs 80 (by decide) (by decide) (by decide) (by decide) (by decide)]
  have i82 : I2 82 = upd (I 82) w (Int32.ofNat nk) := by
    show u2 (u2 (u2 Q3 80 _) 82 _) 72 _ 82 = _
    rw [u2_ne (by decide), u2_same, u2_ne (by decide), q3 82 (by decide), t3 82 (by decide) (by decide) (by decide) (by decide) (by decide) (by decide) (by decide) (by decide) (by decide) (by decide), Qs 82 (by decide) (by decide) (by decide) (by decide) (by decide)]
  have i72 : I2 72 = mE (upd (Q 72) 76 (Int32.ofNat (nk + 1))) 0 := by
    show u2 (u2 (u2 Q3 80 _) 82 _) 72 (mE (u2 (u2 Q3 80 _) 82 _ 72) 0) 72 = _
    rw [u2_same, u2_ne (by decide), u2_ne (by decide), q3 72 (by decide), t72]
  have big : ∀ c, c ≠ 72 → c ≠ 80 → c ≠ 82 → c ≠ 132 → c ≠ 123 → c ≠ 124 → c ≠ 125 → c ≠ 126 → c ≠ 127 → c ≠ 128 → c ≠ 129 → c ≠ 130 → c ≠ 131 → I2 c = Q c := fun c c1 c2 c3 c4 a2 a3 a4 a5 a6 a7 a8 a9 aa => by rw [i2 c c1 c2 c3, q3 c c4, t3 c c1 a2 a3 a4 a5 a6 a7 a8 a9 aa]
  have lowr : ∀ c, c < 72 → I2 c = K c := fun c hc => by rw [big c (by omega) (by omega) (by omega) (by omega) (by omega) (by omega) (by omega) (by omega) (by omega) (by omega) (by omega) (by omega) (by omega), m3 c (by omega) (by omega) (by omega) (by omega)]
  have dynr : ∀ c, I2 (149 + c) = J3 (149 + c) := fun c => by rw [big _ (by omega) (by omega) (by omega) (by omega) (by omega) (by omega) (by omega) (by omega) (by omega) (by omega) (by omega) (by omega) (by omega), m3 _ (by omega) (by omega) (by omega) (by omega), hK _ (by omega)]
  have hI0 : I2 0 = upd (I 0) 16 0 := (lowr 0 (by decide)).trans K0
  have hI13 : I2 13 = upd (I 13) 1 (Int32.ofNat (nk + 1)) := by rw [lowr 13 (by decide), hK 13 (by decide), v13]
  have hd2 : ∀ c, c ≠ q w → c ≠ q w + 4 → I2 (149 + c) = I (149 + c) := fun c c1 c2 => by rw [dynr, b3 _ (by omega) (by omega) (by omega) (by omega) (by omega) (by omega) (by omega) (by omega) (by omega) (by omega), hJ2 _ (by omega), hJ1 _ (by omega), y5 _ (by omega)]
  have hq72 : ∀ k, [0, 1, 2, 47, 48, 49, 50, 76].contains k = false → I2 72 k = I 72 k := fun k hk => by
    simp at hk
    rw [i72]
    unfold mE
    rw [upd_ne (by omega), upd_ne (by omega), upd_ne (by omega)]
    exact m4 k (by simp; omega)
  have stat : ∀ c, c < 149 → [0, 8, 13, 14, 15, 16, 17, 18, 20, 21, 22, 65, 66, 67, 68, 69, 70, 71, 72, 80, 82, 106, 107, 108, 123, 124, 125, 126, 127, 128, 129, 130, 131, 132].contains c = false → I2 c = I c := fun c hc hl => by
    simp at hl
    rw [big c (by omega) (by omega) (by omega) (by omega) (by omega) (by omega) (by omega) (by omega) (by omega) (by omega) (by omega) (by omega) (by omega), m3 c (by omega) (by omega) (by omega) (by omega), hK c (by omega), b3 c (by omega) (by omega) (by omega) (by omega) (by omega) (by omega) (by omega) (by omega) (by omega) (by omega), hJ2 c (by omega), hJ1 c (by omega), y5 c (by omega)]
  have hpost := work_post (I2 := I2) (cn := A'.2.1) (n := n) (cc := cc) hw hnw.1 hp hnp.1 hd hnk hA ⟨hB, hC, hDd, hE, hF, hG, hH, hI, hU⟩ hBe hWk hWo h80n hcc hnn (fun c hc => ⟨(o6 c (by omega)).1, (o6 c (by omega)).2.1, fun hq => (o6 c (by omega)).2.2 (fun q => hq ((y2 c hc).mpr q))⟩)
    (by rw [lowr 8 (by decide), hK 8 (by decide), b3 8 (by decide) (by decide) (by decide) (by decide) (by decide) (by decide) (by decide) (by decide) (by decide) (by omega)]; show u2 J1 8 (upd (J1 8) p (J1 8 p + 1)) 8 = _; rw [u2_same, J18])
    (by rw [lowr 14 (by decide), hK 14 (by decide), v14]) (by rw [lowr 15 (by decide), hK 15 (by decide), v15]) (by rw [lowr 16 (by decide), hK 16 (by decide), v16]) (by rw [lowr 17 (by decide), hK 17 (by decide), v17]) (by rw [lowr 18 (by decide), hK 18 (by decide), v18]) (by rw [lowr 20 (by decide), hK 20 (by decide), v20]) (by rw [lowr 21 (by decide), hK 21 (by decide), v21]) (by rw [lowr 22 (by decide), hK 22 (by decide), v22]) i80 i82
    (by rw [i2 123 (by decide) (by decide) (by decide), q3 123 (by decide), t123]) (by rw [i2 124 (by decide) (by decide) (by decide), q3 124 (by decide), t124]) (by rw [i2 125 (by decide) (by decide) (by decide), q3 125 (by decide), t125]) (by rw [i2 126 (by decide) (by decide) (by decide), q3 126 (by decide), t126]) (by rw [i2 127 (by decide) (by decide) (by decide), q3 127 (by decide), t127]) (by rw [i2 128 (by decide) (by decide) (by decide), q3 128 (by decide), t128]) (by rw [i2 129 (by decide) (by decide) (by decide), q3 129 (by decide), t129]) (by rw [i2 130 (by decide) (by decide) (by decide), q3 130 (by decide), t130]) (by rw [i2 131 (by decide) (by decide) (by decide), q3 131 (by decide), t131])
    (fun c hc => by
      rw [i2 132 (by decide) (by decide) (by decide)]
      show u2 Q2 132 (fun k => if 192 * nk + 0 ≤ k ∧ k < 192 * nk + 192 then Q2 106 (k - 192 * nk) else Q2 132 k) 132 (192 * nk + c) = _
      rw [u2_same]
      show (if 192 * nk + 0 ≤ 192 * nk + c ∧ 192 * nk + c < 192 * nk + 192 then Q2 106 (192 * nk + c - 192 * nk) else Q2 132 (192 * nk + c)) = _
      rw [if_pos (by omega), show 192 * nk + c - 192 * nk = c by omega, u106]
      exact m2 c hc)
    (fun k hk => by
      rw [i2 132 (by decide) (by decide) (by decide)]
      show u2 Q2 132 (fun k => if 192 * nk + 0 ≤ k ∧ k < 192 * nk + 192 then Q2 106 (k - 192 * nk) else Q2 132 k) 132 k = _
      rw [u2_same]
      show (if 192 * nk + 0 ≤ k ∧ k < 192 * nk + 192 then Q2 106 (k - 192 * nk) else Q2 132 k) = _
      rw [if_neg (by omega), u132])
    (fun c c1 c2 c3 c4 => stat c (by omega) (by simp; omega)) (hq72 5 (by decide)) (by rw [dynr, vq])
    (fun c hc => by
      rw [Nat.add_assoc, dynr, ← Nat.add_assoc, b3 _ (by omega) (by omega) (by omega) (by omega) (by omega) (by omega) (by omega) (by omega) (by omega) (by omega), hJ2 _ (by omega)]
      show u2 J (149 + q w + 4) (fun k => if 0 ≤ k ∧ k < wd w * hg w then J 66 k else J (149 + q w + 4) k) (149 + q w + 4) c = _
      rw [u2_same]
      show (if 0 ≤ c ∧ c < wd w * hg w then J 66 c else J (149 + q w + 4) c) = _
      rw [if_pos ⟨Nat.zero_le _, hc⟩]
      exact x9' c (by omega))
    hd2
  refine ⟨I2, M, nk + 1, ⟨Int32.ofNat nk, E, K, L, P, nx, us, hX, m1⟩, ?_, by omega, ?_, hpost.1, hpost.2.1, hpost.2.2.1, hpost.2.2.2, stat, fun k hk => by rw [hI0, upd_ne hk], fun k hk => by rw [hI13, upd_ne hk], hq72, fun c hc => hd2 c (fun q => ?_) (fun q => ?_), m5⟩
  · unfold GTI
    rw [hI0, i72]
    have t1 : mE (upd (Q 72) 76 (Int32.ofNat (nk + 1))) 0 1 = 0 := by simp (decide := true) only [u2_same, u2_ne, u2_u2, upd_same, upd_ne, mE, u2_dyn, dyn_u2, dyn_hi, u2_hi, u2_hj, u2_dynj, u2_dd, u2_d0, u2_0d]
    have t2 : mE (upd (Q 72) 76 (Int32.ofNat (nk + 1))) 0 2 = -1 := by simp (decide := true) only [u2_same, u2_ne, u2_u2, upd_same, upd_ne, mE, u2_dyn, dyn_u2, dyn_hi, u2_hi, u2_hj, u2_dynj, u2_dd, u2_d0, u2_0d]
    have t3 : mE (upd (Q 72) 76 (Int32.ofNat (nk + 1))) 0 3 = I 72 3 := by simp (decide := true) only [u2_same, u2_ne, u2_u2, upd_same, upd_ne, mE, u2_dyn, dyn_u2, dyn_hi, u2_hi, u2_hj, u2_dynj, u2_dd, u2_d0, u2_0d]; exact m4 3 (by decide)
    rw [t1, t2, t3, upd_same, upd_ne (by decide), upd_ne (by decide)]
    exact GT_end hT (by decide)
  · rw [hI13, i72]
    simp (decide := true) only [u2_same, u2_ne, u2_u2, upd_same, upd_ne, mE, u2_dyn, dyn_u2, dyn_hi, u2_hi, u2_hj, u2_dynj, u2_dd, u2_d0, u2_0d]
    exact ⟨by omega, rfl, rfl⟩
  · exact hc (by rw [q]; exact (hA w hw).2.2.2.2.2.2.2 0 (by decide))
  · exact hc (by rw [q]; exact (hA w hw).2.2.2.2.2.2.2 4 (by decide))
end WOK
