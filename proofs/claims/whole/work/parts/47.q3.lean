/-! ===== walls: queries ===== -/
theorem oN_sub {a c : Nat} (h : c ≤ a) : Int32.ofNat a - Int32.ofNat c = Int32.ofNat (a - c) := by
  have e : Int32.ofNat a = Int32.ofNat (a - c) + Int32.ofNat c := by rw [oN_add]; congr 1; omega
  rw [e]; exact Int32.add_sub_cancel _ _
theorem oN_ltT {a c : Nat} (h : a < c) (hc : c < 2147483648) : (Int32.ofNat a < Int32.ofNat c) = True := eq_true ((oN_lt (by omega) hc).mpr h)
theorem oN_ltF {a c : Nat} (h : c ≤ a) (ha : a < 2147483648) : (Int32.ofNat a < Int32.ofNat c) = False := eq_false (fun q => by have := (oN_lt ha (by omega)).mp q; omega)
theorem plc {i j wd hg : Nat} (hi : i < wd) (hj : j < hg) : j * wd + i < wd * hg := by
  have h1 : (j + 1) * wd ≤ hg * wd := Nat.mul_le_mul_right _ (by omega)
  rw [Nat.add_mul, Nat.one_mul] at h1
  rw [Nat.mul_comm wd hg]
  omega
theorem n192 {wd hg : Nat} (h1 : wd ≤ 16) (h2 : hg ≤ 12) : wd * hg ≤ 192 := by
  have := Nat.mul_le_mul h1 h2
  omega
theorem WKk {E : Nat → Option KD} {c n : Nat} (h : WK E c n) : kdf E (149 + c) = some (.inr (8, true)) ∧ kdf E (149 + c + 1) = some (.inl (2, n)) ∧ kdf E (149 + c + 2) = some (.inl (1, n)) ∧ kdf E (149 + c + 3) = some (.inl (1, n)) ∧ kdf E (149 + c + 4) = some (.inl (1, n)) :=
  ⟨kdf_of (by omega) h.1, kdf_of (by omega) h.2.1, kdf_of (by omega) h.2.2.1, kdf_of (by omega) h.2.2.2.1, kdf_of (by omega) h.2.2.2.2⟩
/-- is (x, y) on a wall -/
def onR (x y W H : Int32) : Int32 := if x < 0 then 0 else if W ≤ x then 0 else if y < 0 then 0 else if H ≤ y then 0 else 1
theorem onCase (x y : Int32) {wd hg : Nat} (h1 : wd ≤ 16) (h2 : hg ≤ 12) : onR x y (Int32.ofNat wd) (Int32.ofNat hg) = 0 ∨ ∃ i j, i < wd ∧ j < hg ∧ x = Int32.ofNat i ∧ y = Int32.ofNat j ∧ onR x y (Int32.ofNat wd) (Int32.ofNat hg) = 1 := by
  unfold onR
  rcases ixc x (n := wd) (by omega) with h | ⟨i, hi, rfl⟩
  · left
    rcases h with h | h
    · rw [if_pos h]
    · split
      · rfl
      · rfl
  · simp only [oN_neg (show i < 2147483648 by omega), oN_leF hi (show wd < 2147483648 by omega), if_false]
    rcases ixc y (n := hg) (by omega) with h | ⟨j, hj, rfl⟩
    · left
      rcases h with h | h
      · rw [if_pos h]
      · split
        · rfl
        · rfl
    · right
      refine ⟨i, j, hi, hj, rfl, rfl, ?_⟩
      simp only [oN_neg (show j < 2147483648 by omega), oN_leF hj (show hg < 2147483648 by omega), if_false]
section Q3
variable {b : Nat} {F : Nat → Option AE} {D E : Nat → Option KD} {I : Nat → Nat → Int32} {L : Nat → Nat → Int64} {P : Nat → Nat → Option Nat} {nx us : Nat}
variable {a : Nat}
theorem X_hasLeave (y : Int32) (k0 : kdf E (149 + a) = some (.inr (8, true))) : f_X8_hasLeave (ad b (149 + a)) y (lay b F E I L P nx us) = some (inR y (I (149 + a) 4) (I (149 + a) 5), (lay b F E I L P nx us)) := by
  unfold inR
  simp (decide := true) only [f_X8_hasLeave, f_X8_hasLeave_21, f_X8_hasLeave_20, isO_d, gI_d, k0, if_true, Option.bind_some, ckZ]
  split
  · rfl
  · split <;> rfl
theorem X_holds1 (x y : Int32) {wd hg : Nat} (k0 : kdf E (149 + a) = some (.inr (8, true))) (h1 : I (149 + a) 0 = Int32.ofNat wd) (h2 : I (149 + a) 1 = Int32.ofNat hg) (h3 : wd ≤ 16) (h4 : hg ≤ 12) : f_X8_holds (ad b (149 + a)) x y 1 1 (lay b F E I L P nx us) = some (onR x y (Int32.ofNat wd) (Int32.ofNat hg), (lay b F E I L P nx us)) := by
  simp (decide := true) only [f_X8_holds, f_X8_holds_61, f_X8_holds_60, isO_d, gI_d, k0, if_true, Option.bind_some, ckZ, h1, h2]
  unfold onR
  rcases ixc x (n := wd) (by omega) with h | ⟨i, hi, rfl⟩
  · rcases h with h | h
    · rw [if_pos h, if_pos h]
    · split
      · rfl
      · rfl
  · simp only [oN_neg (show i < 2147483648 by omega), oN_leF hi (show wd < 2147483648 by omega), if_false]
    rcases ixc y (n := hg) (by omega) with h | ⟨j, hj, rfl⟩
    · rcases h with h | h
      · rw [if_pos h, if_pos h]
      · split
        · rfl
        · rfl
    · have e1 : (Int32.ofNat wd - Int32.ofNat i < 1) = False := by
        rw [oN_sub (by omega)]
        exact oN_ltF (c := 1) (by omega) (by omega)
      have e2 : (Int32.ofNat hg - Int32.ofNat j < 1) = False := by
        rw [oN_sub (by omega)]
        exact oN_ltF (c := 1) (by omega) (by omega)
      have e3 : ((1 : Int32) < 1) = False := by decide
      simp only [oN_neg (show j < 2147483648 by omega), oN_leF hj (show hg < 2147483648 by omega), e1, e2, e3, if_false]
theorem M_isOn (x y : Int32) {w nw wd hg : Nat} (hn : I 72 4 = Int32.ofNat nw) (hw : w < nw) (h16 : nw ≤ 16) (h1 : I 73 w = Int32.ofNat wd) (h2 : I 74 w = Int32.ofNat hg) (h3 : wd ≤ 16) (h4 : hg ≤ 12) (h5 : 1 ≤ wd) (h6 : 1 ≤ hg) : f_X15_isOn (ad b 72) (Int32.ofNat w) x y (lay b F E I L P nx us) = some (onR x y (Int32.ofNat wd) (Int32.ofNat hg), (lay b F E I L P nx us)) := by
  have e1 := oN_neg (w := w) (by omega)
  have e2 := oN_leF hw (by omega)
  have e3 : iN (Int32.ofNat w) 16 = some w := iN_oN (by omega) (by omega)
  have e4 : ∀ n : Nat, 1 ≤ n → Int32.ofNat n - 1 = Int32.ofNat (n - 1) := fun n hn => oN_sub hn
  have g1 : (x < 0 ∨ Int32.ofNat (wd - 1) < x) ↔ (x < 0 ∨ Int32.ofNat wd ≤ x) := by
    by_cases hx : x < 0
    · simp only [hx, true_or]
    · obtain ⟨i, hi, rfl⟩ := nn_oN hx
      rw [oN_lt (by omega) hi, oN_le (by omega) hi]
      simp only [hx, false_or]
      omega
  have g2 : (y < 0 ∨ Int32.ofNat (hg - 1) < y) ↔ (y < 0 ∨ Int32.ofNat hg ≤ y) := by
    by_cases hx : y < 0
    · simp only [hx, true_or]
    · obtain ⟨i, hi, rfl⟩ := nn_oN hx
      rw [oN_lt (by omega) hi, oN_le (by omega) hi]
      simp only [hx, false_or]
      omega
  simp (decide := true) only [f_X15_isOn_45, f_X15_isOn_44, f_X15_isOn, hn, e1, e2, e3, h1, h2, e4 wd h5, e4 hg h6, g1, g2, isO_s, gI_s, gA_s, gL_s, pI_s, pZ_s, pL_s, aI_s, aL_s, aN_s, aQ_s, sI_s, sL_s, cr, LNs, Option.map_some, Option.map_none, Option.bind_some, b2, tr, lt, if_true, if_false, ckZ, X_within, M_in, inR_z, X_refuse, X_tell, X_deny, X_grant, M_refused, M_denied, M_done, M_granted, u2_same, u2_ne, u2_u2, upd_same, upd_ne, aW0, ixR_z, ixR_1, M_isWall, M_isPainter, M_isWork, X_has4, X_has10, X_at, or_false, false_or, or_true, true_or, not_true, not_false_iff, Option.isSome_some, isO_d, gI_d, gA_d, pI_d, ne_eq, not_false_eq_true]
  unfold onR
  by_cases hx : x < 0
  · simp only [hx, true_or, if_true]
  · simp only [hx, false_or, if_false]
    by_cases hx2 : Int32.ofNat wd ≤ x
    · simp only [hx2, if_true]
    · simp only [hx2, if_false]
      by_cases hy : y < 0
      · simp only [hy, true_or, if_true]
      · simp only [hy, false_or, if_false]
        by_cases hy2 : Int32.ofNat hg ≤ y
        · simp only [hy2, if_true]
        · simp only [hy2, if_false]
theorem X_colourOf {n k : Nat} (k0 : kdf E (149 + a) = some (.inr (8, true))) (k2 : kdf E (149 + a + 2) = some (.inl (1, n))) (hk : k < n) (hn : n ≤ 192) : f_X8_colourOf (ad b (149 + a)) (Int32.ofNat k) (lay b F E I L P nx us) = some (I (149 + a + 2) k, (lay b F E I L P nx us)) := by
  have e1 := oN_neg (w := k) (by omega)
  have e2 := oN_leF hk (by omega)
  have e3 : iN (Int32.ofNat k) n = some k := iN_oN (by omega) (by omega)
  simp (decide := true) only [f_X8_colourOf_23, f_X8_colourOf_22, f_X8_colourOf, isO_d, gA_d, k0, aN_d k2, aI_d k2 (by decide), e1, e2, e3, isO_s, gI_s, gA_s, gL_s, pI_s, pZ_s, pL_s, aI_s, aL_s, aN_s, aQ_s, sI_s, sL_s, cr, LNs, Option.map_some, Option.map_none, Option.bind_some, b2, tr, lt, if_true, if_false, ckZ, X_within, M_in, inR_z, X_refuse, X_tell, X_deny, X_grant, M_refused, M_denied, M_done, M_granted, u2_same, u2_ne, u2_u2, upd_same, upd_ne, aW0, ixR_z, ixR_1, M_isWall, M_isPainter, M_isWork, X_has4, X_has10, X_at, or_false, false_or, or_true, true_or, not_true, not_false_iff, Option.isSome_some, isO_d, gI_d, gA_d, pI_d, ne_eq, not_false_eq_true]
theorem X_tinOf {n k : Nat} (k0 : kdf E (149 + a) = some (.inr (8, true))) (k3 : kdf E (149 + a + 3) = some (.inl (1, n))) (hk : k < n) (hn : n ≤ 192) : f_X8_tinOf (ad b (149 + a)) (Int32.ofNat k) (lay b F E I L P nx us) = some (I (149 + a + 3) k, (lay b F E I L P nx us)) := by
  have e1 := oN_neg (w := k) (by omega)
  have e2 := oN_leF hk (by omega)
  have e3 : iN (Int32.ofNat k) n = some k := iN_oN (by omega) (by omega)
  simp (decide := true) only [f_X8_tinOf_24, f_X8_tinOf_22, f_X8_tinOf, isO_d, gA_d, k0, aN_d k3, aI_d k3 (by decide), e1, e2, e3, isO_s, gI_s, gA_s, gL_s, pI_s, pZ_s, pL_s, aI_s, aL_s, aN_s, aQ_s, sI_s, sL_s, cr, LNs, Option.map_some, Option.map_none, Option.bind_some, b2, tr, lt, if_true, if_false, ckZ, X_within, M_in, inR_z, X_refuse, X_tell, X_deny, X_grant, M_refused, M_denied, M_done, M_granted, u2_same, u2_ne, u2_u2, upd_same, upd_ne, aW0, ixR_z, ixR_1, M_isWall, M_isPainter, M_isWork, X_has4, X_has10, X_at, or_false, false_or, or_true, true_or, not_true, not_false_iff, Option.isSome_some, isO_d, gI_d, gA_d, pI_d, ne_eq, not_false_eq_true]
theorem call_cell (p x y : Int32) {nw : Nat} {q wd hg ow : Nat → Nat} (hn : Cn nw 16 (I 1 1) (I 72 4)) (hA : WA nw q wd hg ow E (P 2)) (hB : WB nw q wd hg (dyn I) (I 73) (I 74)) (hG : WG nw q wd hg (dyn I) (I 84) (I 86)) : Run b F E L P nx us (f_X11_cell (ad b 0) p x y) (f_X15_cell (ad b 72) p x y) I (th I) := by
  rcases wallCase hn hA p with ⟨h1, h2⟩ | ⟨w, hw, rfl, h1, h2⟩
  · refine ⟨-1, I, ?_, ?_⟩
    · (simp (decide := true) only [f_X11_cell_56, f_X11_cell_27, f_X11_cell, h1, isO_s, gI_s, gA_s, gL_s, pI_s, pZ_s, pL_s, aI_s, aL_s, aN_s, aQ_s, sI_s, sL_s, cr, LNs, Option.map_some, Option.map_none, Option.bind_some, b2, tr, lt, if_true, if_false, ckZ, X_within, M_in, inR_z, X_refuse, X_tell, X_deny, X_grant, M_refused, M_denied, M_done, M_granted, u2_same, u2_ne, u2_u2, upd_same, upd_ne, aW0, ixR_z, ixR_1, M_isWall, M_isPainter, M_isWork, X_has4, X_has10, X_at, or_false, false_or, or_true, true_or, not_true, not_false_iff, Option.isSome_some, isO_d, gI_d, gA_d, pI_d, ne_eq, not_false_eq_true]; try exact rfl)
    · (simp (decide := true) only [f_X15_cell_44, f_X15_cell, f_X15_isOn_45, f_X15_isOn_44, f_X15_isOn, h2, isO_s, gI_s, gA_s, gL_s, pI_s, pZ_s, pL_s, aI_s, aL_s, aN_s, aQ_s, sI_s, sL_s, cr, LNs, Option.map_some, Option.map_none, Option.bind_some, b2, tr, lt, if_true, if_false, ckZ, X_within, M_in, inR_z, X_refuse, X_tell, X_deny, X_grant, M_refused, M_denied, M_done, M_granted, u2_same, u2_ne, u2_u2, upd_same, upd_ne, aW0, ixR_1, M_isWall, M_isPainter, M_isWork, X_has4, X_has10, X_at, or_false, false_or, or_true, true_or, not_true, not_false_iff, Option.isSome_some, isO_d, gI_d, gA_d, pI_d, ne_eq, not_false_eq_true]; try exact rfl)
  · obtain ⟨-, hK, a1, a2, a3, a4, -, -⟩ := hA w hw
    obtain ⟨b1, b2', b3, b4⟩ := hB w hw
    obtain ⟨k0, k1, k2, k3, k4⟩ := WKk hK
    have hx := X_holds1 (b := b) (F := F) (L := L) (P := P) (nx := nx) (us := us) x y k0 b1 b2' a2 a4
    have hm := M_isOn (b := b) (F := F) (E := E) (L := L) (P := P) (nx := nx) (us := us) (I := th I) x y (w := w) (by simp (decide := true) only [th, isO_s, gI_s, gA_s, gL_s, pI_s, pZ_s, pL_s, aI_s, aL_s, aN_s, aQ_s, sI_s, sL_s, cr, LNs, Option.map_some, Option.map_none, Option.bind_some, b2, tr, lt, if_true, if_false, ckZ, X_within, M_in, inR_z, X_refuse, X_tell, X_deny, X_grant, M_refused, M_denied, M_done, M_granted, u2_same, u2_ne, u2_u2, upd_same, upd_ne, aW0, ixR_z, ixR_1, M_isWall, M_isPainter, M_isWork, X_has4, X_has10, X_at, or_false, false_or, or_true, true_or, not_true, not_false_iff, Option.isSome_some, isO_d, gI_d, gA_d, pI_d, ne_eq, not_false_eq_true]; exact hn.2.2) hw hn.1 (by simp (decide := true) only [th, isO_s, gI_s, gA_s, gL_s, pI_s, pZ_s, pL_s, aI_s, aL_s, aN_s, aQ_s, sI_s, sL_s, cr, LNs, Option.map_some, Option.map_none, Option.bind_some, b2, tr, lt, if_true, if_false, ckZ, X_within, M_in, inR_z, X_refuse, X_tell, X_deny, X_grant, M_refused, M_denied, M_done, M_granted, u2_same, u2_ne, u2_u2, upd_same, upd_ne, aW0, ixR_z, ixR_1, M_isWall, M_isPainter, M_isWork, X_has4, X_has10, X_at, or_false, false_or, or_true, true_or, not_true, not_false_iff, Option.isSome_some, isO_d, gI_d, gA_d, pI_d, ne_eq, not_false_eq_true]; exact b3) (by simp (decide := true) only [th, isO_s, gI_s, gA_s, gL_s, pI_s, pZ_s, pL_s, aI_s, aL_s, aN_s, aQ_s, sI_s, sL_s, cr, LNs, Option.map_some, Option.map_none, Option.bind_some, b2, tr, lt, if_true, if_false, ckZ, X_within, M_in, inR_z, X_refuse, X_tell, X_deny, X_grant, M_refused, M_denied, M_done, M_granted, u2_same, u2_ne, u2_u2, upd_same, upd_ne, aW0, ixR_z, ixR_1, M_isWall, M_isPainter, M_isWork, X_has4, X_has10, X_at, or_false, false_or, or_true, true_or, not_true, not_false_iff, Option.isSome_some, isO_d, gI_d, gA_d, pI_d, ne_eq, not_false_eq_true]; exact b4) a2 a4 a1 a3
    unfold th at hm
    rcases onCase x y a2 a4 with h5 | ⟨i, j, hi, hj, rfl, rfl, h5⟩
    · rw [h5] at hx hm
      refine ⟨-1, I, ?_, ?_⟩
      · (simp (decide := true) only [f_X11_cell_56, f_X11_cell_27, f_X11_cell, h1, hx, isO_s, gI_s, gA_s, gL_s, pI_s, pZ_s, pL_s, aI_s, aL_s, aN_s, aQ_s, sI_s, sL_s, cr, LNs, Option.map_some, Option.map_none, Option.bind_some, b2, tr, lt, if_true, if_false, ckZ, X_within, M_in, inR_z, X_refuse, X_tell, X_deny, X_grant, M_refused, M_denied, M_done, M_granted, u2_same, u2_ne, u2_u2, upd_same, upd_ne, aW0, ixR_z, ixR_1, M_isWall, M_isPainter, M_isWork, X_has4, X_has10, X_at, or_false, false_or, or_true, true_or, not_true, not_false_iff, Option.isSome_some, isO_d, gI_d, gA_d, pI_d, ne_eq, not_false_eq_true]; try exact rfl)
      · (simp (decide := true) only [f_X15_cell_44, f_X15_cell, hm, isO_s, gI_s, gA_s, gL_s, pI_s, pZ_s, pL_s, aI_s, aL_s, aN_s, aQ_s, sI_s, sL_s, cr, LNs, Option.map_some, Option.map_none, Option.bind_some, b2, tr, lt, if_true, if_false, ckZ, X_within, M_in, inR_z, X_refuse, X_tell, X_deny, X_grant, M_refused, M_denied, M_done, M_granted, u2_same, u2_ne, u2_u2, upd_same, upd_ne, aW0, ixR_z, ixR_1, M_isWall, M_isPainter, M_isWork, X_has4, X_has10, X_at, or_false, false_or, or_true, true_or, not_true, not_false_iff, Option.isSome_some, isO_d, gI_d, gA_d, pI_d, ne_eq, not_false_eq_true]; try exact rfl)
    · rw [h5] at hx hm
      have hp := plc hi hj
      have h192 := n192 a2 a4
      have hc := X_colourOf (b := b) (F := F) (L := L) (P := P) (nx := nx) (us := us) (I := I) k0 k2 hp h192
      obtain ⟨c1, -⟩ := hG w hw _ hp
      have w16 : w < 16 := by have := hn.1; omega
      have e3 : iN (Int32.ofNat w) 16 = some w := iN_oN w16 (by omega)
      have e4 : Int32.ofNat (192 * w) + Int32.ofNat (wd w) * Int32.ofNat j + Int32.ofNat i = Int32.ofNat (192 * w + (j * wd w + i)) := by
        rw [oN_mul, oN_add, oN_add, Nat.mul_comm (wd w) j, Nat.add_assoc]
      have e6 : (192 : Int32) * Int32.ofNat w = Int32.ofNat (192 * w) := oN_mul 192 w
      have e5 : iN (Int32.ofNat (192 * w + (j * wd w + i))) 3072 = some (192 * w + (j * wd w + i)) := iN_oN (by omega) (by omega)
      have c1' : I (149 + q w + 2) (j * wd w + i) = I 86 (192 * w + (j * wd w + i)) := c1
      by_cases h6 : I 86 (192 * w + (j * wd w + i)) = -1
      · refine ⟨-2, I, ?_, ?_⟩
        · (simp (decide := true) only [f_X11_cell_56, f_X11_cell_27, f_X11_cell, h1, hx, f_X8_placeOf, isO_d, gI_d, k0, (show I (149 + q w) 0 = _ from b1), oN_mul, oN_add, hc, c1', h6, isO_s, gI_s, gA_s, gL_s, pI_s, pZ_s, pL_s, aI_s, aL_s, aN_s, aQ_s, sI_s, sL_s, cr, LNs, Option.map_some, Option.map_none, Option.bind_some, b2, tr, lt, if_true, if_false, ckZ, X_within, M_in, inR_z, X_refuse, X_tell, X_deny, X_grant, M_refused, M_denied, M_done, M_granted, u2_same, u2_ne, u2_u2, upd_same, upd_ne, aW0, ixR_z, ixR_1, M_isWall, M_isPainter, M_isWork, X_has4, X_has10, X_at, or_false, false_or, or_true, true_or, not_true, not_false_iff, Option.isSome_some, isO_d, gI_d, gA_d, pI_d, ne_eq, not_false_eq_true]; try exact rfl)
        · (simp (decide := true) only [f_X15_cell_44, f_X15_cell, f_X15_cellOf, hm, e3, b3, e6, e4, e5, h6, isO_s, gI_s, gA_s, gL_s, pI_s, pZ_s, pL_s, aI_s, aL_s, aN_s, aQ_s, sI_s, sL_s, cr, LNs, Option.map_some, Option.map_none, Option.bind_some, b2, tr, lt, if_true, if_false, ckZ, X_within, M_in, inR_z, X_refuse, X_tell, X_deny, X_grant, M_refused, M_denied, M_done, M_granted, u2_same, u2_ne, u2_u2, upd_same, upd_ne, aW0, ixR_z, ixR_1, M_isWall, M_isPainter, M_isWork, X_has4, X_has10, X_at, or_false, false_or, or_true, true_or, not_true, not_false_iff, Option.isSome_some, isO_d, gI_d, gA_d, pI_d, ne_eq, not_false_eq_true]; try exact rfl)
      · refine ⟨I 86 (192 * w + (j * wd w + i)), I, ?_, ?_⟩
        · (simp (decide := true) only [f_X11_cell_56, f_X11_cell_27, f_X11_cell, h1, hx, f_X8_placeOf, isO_d, gI_d, k0, (show I (149 + q w) 0 = _ from b1), oN_mul, oN_add, hc, c1', h6, isO_s, gI_s, gA_s, gL_s, pI_s, pZ_s, pL_s, aI_s, aL_s, aN_s, aQ_s, sI_s, sL_s, cr, LNs, Option.map_some, Option.map_none, Option.bind_some, b2, tr, lt, if_true, if_false, ckZ, X_within, M_in, inR_z, X_refuse, X_tell, X_deny, X_grant, M_refused, M_denied, M_done, M_granted, u2_same, u2_ne, u2_u2, upd_same, upd_ne, aW0, ixR_z, ixR_1, M_isWall, M_isPainter, M_isWork, X_has4, X_has10, X_at, or_false, false_or, or_true, true_or, not_true, not_false_iff, Option.isSome_some, isO_d, gI_d, gA_d, pI_d, ne_eq, not_false_eq_true]; try exact rfl)
        · (simp (decide := true) only [f_X15_cell_44, f_X15_cell, f_X15_cellOf, hm, e3, b3, e6, e4, e5, h6, isO_s, gI_s, gA_s, gL_s, pI_s, pZ_s, pL_s, aI_s, aL_s, aN_s, aQ_s, sI_s, sL_s, cr, LNs, Option.map_some, Option.map_none, Option.bind_some, b2, tr, lt, if_true, if_false, ckZ, X_within, M_in, inR_z, X_refuse, X_tell, X_deny, X_grant, M_refused, M_denied, M_done, M_granted, u2_same, u2_ne, u2_u2, upd_same, upd_ne, aW0, ixR_z, ixR_1, M_isWall, M_isPainter, M_isWork, X_has4, X_has10, X_at, or_false, false_or, or_true, true_or, not_true, not_false_iff, Option.isSome_some, isO_d, gI_d, gA_d, pI_d, ne_eq, not_false_eq_true]; try exact rfl)
end Q3
