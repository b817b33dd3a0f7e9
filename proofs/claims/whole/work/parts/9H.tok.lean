/-! ===== tokens: what they are, and the reference's reading ===== -/
def lB (x : Int32) : Bool := decide (inR x 97 122 = 1)
def dB (x : Int32) : Bool := decide (inR x 48 57 = 1)
def sB (x : Int32) : Bool := decide (x = 32) || decide (x = 10)
def gB (x : Int32) : Bool := (zt 0).any (fun c => decide (x = Int32.ofNat c))
/-- the end of a run -/
def rnE (q : Int32 → Bool) (t : RW) : Nat → Nat → Nat
  | 0, k => k
  | m + 1, k => if q (t k) = true then rnE q t m (k + 1) else k
theorem rnE_ge {q : Int32 → Bool} {t : RW} : ∀ (m k : Nat), k ≤ rnE q t m k ∧ rnE q t m k ≤ k + m := by
  intro m
  induction m with
  | zero => intro k; exact ⟨Nat.le_refl _, Nat.le_refl _⟩
  | succ m ih =>
    intro k
    unfold rnE
    split
    · have := ih (k + 1); omega
    · omega
/-- a word's letters as a number, a whole's digits -/
def wvR (t : RW) : Nat → Nat → Int64 → Int64
  | 0, _, x => x
  | m + 1, k, x => if lB (t k) = true then wvR t m (k + 1) (32 * x + (t k - 97 + 1).toInt64) else x
def nvR (t : RW) : Nat → Nat → Int32 → Int32
  | 0, _, x => x
  | m + 1, k, x => if dB (t k) = true then nvR t m (k + 1) (x * 10 + (t k - 48)) else x
/-- past what parts tokens -/
def sk (t : RW) (n k : Nat) : Nat := rnE sB t (n - k) k
/-- the kind, the end and the value of the token at k -/
def kd (t : RW) (n k : Nat) : Nat := if n ≤ k then 0 else if lB (t k) = true then (if rnE lB t (n - k) k - k ≤ 8 then 2 else 1) else if dB (t k) = true then (if rnE dB t (n - k) k - k ≤ 3 then 3 else 1) else if gB (t k) = true then 4 else 1
def en (t : RW) (n k : Nat) : Nat := if n ≤ k then k else if lB (t k) = true then rnE lB t (n - k) k else if dB (t k) = true then rnE dB t (n - k) k else k + 1
def vl (t : RW) (n k : Nat) : Int64 := if lB (t k) = true then wvR t (n - k) k 0 else if dB (t k) = true then (nvR t (n - k) k 0).toInt64 else (t k).toInt64
/-- where the i-th token is looked for, and where it is -/
def ps (t : RW) (n : Nat) : Nat → Nat
  | 0 => 0
  | i + 1 => en t n (sk t n (ps t n i))
def pl (t : RW) (n i : Nat) : Nat := sk t n (ps t n i)
def BY (t : RW) (n : Nat) : Prop := ∀ k, k < n → -128 ≤ t k ∧ t k ≤ 127
/-- what the reference's fields r, l show of the token at s; rg: is it the text of a right -/
def TM (t : RW) (n : Nat) (rg : Int32) (s : Nat) (r : RW) (l : Nat → Int64) : Prop := r 29 = Int32.ofNat s ∧ (kd t n s = 0 → r 28 = 1) ∧ (kd t n s = 1 → r 28 = 0) ∧ (kd t n s = 2 → r 28 = 2 ∧ l 37 = vl t n s ∧ r 32 = Int32.ofNat (en t n s - s) ∧ r 27 = Int32.ofNat (en t n s)) ∧ (kd t n s = 3 → r 28 = 3 ∧ r 31 = nvR t (n - s) s 0 ∧ r 27 = Int32.ofNat (en t n s)) ∧ (kd t n s = 4 → ((rg = 0 ∧ (t s = 44 ∨ t s = 37)) → r 28 = 0) ∧ (¬ (rg = 0 ∧ (t s = 44 ∨ t s = 37)) → r 28 = 4 ∧ r 30 = t s ∧ r 27 = Int32.ofNat (en t n s)))
theorem by_and : ∀ j, j < 256 → ((Int32.ofNat j - 128 < 0) → 128 ≤ ((Int32.ofNat j - 128) &&& 255) ∧ ((Int32.ofNat j - 128) &&& 255) ≤ 255) ∧ (¬ (Int32.ofNat j - 128 < 0) → (Int32.ofNat j - 128) &&& 255 = Int32.ofNat j - 128) := by decide +kernel
theorem by_of {x : Int32} (h1 : -128 ≤ x) (h2 : x ≤ 127) : ∃ j, j < 256 ∧ x = Int32.ofNat j - 128 := by
  have h3 : ¬ x + 128 < 0 := by
    rw [Int32.lt_iff_toInt_lt, Int32.toInt_add]
    rw [Int32.le_iff_toInt_le] at h1 h2
    have a1 : (-128 : Int32).toInt = -128 := by decide
    have a2 : (127 : Int32).toInt = 127 := by decide
    have a3 : (128 : Int32).toInt = 128 := by decide
    have a4 : (0 : Int32).toInt = 0 := by decide
    rw [a1] at h1
    rw [a2] at h2
    rw [a3, a4, Int.bmod_def]
    split <;> omega
  obtain ⟨j, hj, e⟩ := nn_oN h3
  refine ⟨j, ?_, by rw [← e]; grind⟩
  have h4 : x + 128 ≤ 255 := by
    rw [Int32.le_iff_toInt_le, Int32.toInt_add]
    rw [Int32.le_iff_toInt_le] at h1 h2
    have a1 : (-128 : Int32).toInt = -128 := by decide
    have a2 : (127 : Int32).toInt = 127 := by decide
    have a3 : (128 : Int32).toInt = 128 := by decide
    have a4 : (255 : Int32).toInt = 255 := by decide
    rw [a1] at h1
    rw [a2] at h2
    rw [a3, a4, Int.bmod_def]
    split <;> omega
  rw [e] at h4
  have := (oN_le (c := 255) hj (by omega)).mp h4
  omega
theorem by_all : ∀ j, j < 256 → (((Int32.ofNat j - 128) &&& 255 = 32) ↔ (Int32.ofNat j - 128 = 32)) ∧ (((Int32.ofNat j - 128) &&& 255 = 10) ↔ (Int32.ofNat j - 128 = 10)) ∧ ¬ ((Int32.ofNat j - 128) &&& 255 = -1) ∧ inR ((Int32.ofNat j - 128) &&& 255) 97 122 = inR (Int32.ofNat j - 128) 97 122 ∧ inR ((Int32.ofNat j - 128) &&& 255) 48 57 = inR (Int32.ofNat j - 128) 48 57 ∧ (inR (Int32.ofNat j - 128) 97 122 = 1 → (Int32.ofNat j - 128) &&& 255 = Int32.ofNat j - 128) ∧ (inR (Int32.ofNat j - 128) 48 57 = 1 → (Int32.ofNat j - 128) &&& 255 = Int32.ofNat j - 128) ∧ (gB (Int32.ofNat j - 128) = true → (Int32.ofNat j - 128) &&& 255 = Int32.ofNat j - 128) ∧ (gB (Int32.ofNat j - 128) = false → gB ((Int32.ofNat j - 128) &&& 255) = false) := by decide +kernel
theorem by_x {x : Int32} (h1 : -128 ≤ x) (h2 : x ≤ 127) : ((x &&& 255 = 32) ↔ (x = 32)) ∧ ((x &&& 255 = 10) ↔ (x = 10)) ∧ ¬ (x &&& 255 = -1) ∧ inR (x &&& 255) 97 122 = inR x 97 122 ∧ inR (x &&& 255) 48 57 = inR x 48 57 ∧ (inR x 97 122 = 1 → x &&& 255 = x) ∧ (inR x 48 57 = 1 → x &&& 255 = x) ∧ (gB x = true → x &&& 255 = x) ∧ (gB x = false → gB (x &&& 255) = false) := by
  obtain ⟨j, hj, rfl⟩ := by_of h1 h2
  exact by_all j hj
theorem X_digit (x : Int32) (h : AH) : f_X7_isDigit x h = some (inR x 48 57, h) := by
  unfold inR
  simp only [f_X7_isDigit, f_X7_isDigit_16, f_X7_isDigit_17, ckZ]
  split
  · rfl
  · split <;> rfl
theorem M_digit (x : Int32) (h : AH) : f_X15_isDigit x h = some (inR x 48 57, h) := by
  unfold inR
  simp only [f_X15_isDigit, f_X15_isDigit_16, f_X15_isDigit_17, ckZ]
  split
  · rfl
  · split <;> rfl
theorem lB_t {x : Int32} (h : lB x = true) : inR x 97 122 = 1 := of_decide_eq_true h
theorem lB_f {x : Int32} (h : ¬ lB x = true) : inR x 97 122 = 0 := by
  rcases inR_2 x 97 122 with e | e
  · exact e
  · exact absurd (decide_eq_true e) h
theorem dB_t {x : Int32} (h : dB x = true) : inR x 48 57 = 1 := of_decide_eq_true h
theorem dB_f {x : Int32} (h : ¬ dB x = true) : inR x 48 57 = 0 := by
  rcases inR_2 x 48 57 with e | e
  · exact e
  · exact absurd (decide_eq_true e) h
/-- the reference's letters: eight at most -/
def wvM (t : RW) : Nat → Nat → Nat → Int64 → Int64
  | 0, _, _, x => x
  | m + 1, k, c, x => if lB (t k) = true then wvM t m (k + 1) (c + 1) (if 8 ≤ c then x else 32 * x + (t k - 97 + 1).toInt64) else x
def nvM (t : RW) : Nat → Nat → Nat → Int32 → Int32
  | 0, _, _, x => x
  | m + 1, k, c, x => if dB (t k) = true then nvM t m (k + 1) (c + 1) (if 3 ≤ c then x else 10 * x + t k - 48) else x
theorem wvM_R {t : RW} : ∀ (m k c : Nat) (x : Int64), c + (rnE lB t m k - k) ≤ 8 → wvM t m k c x = wvR t m k x := by
  intro m
  induction m with
  | zero => intro k c x _; rfl
  | succ m ih =>
    intro k c x h
    unfold wvM wvR
    unfold rnE at h
    by_cases hl : lB (t k) = true
    · rw [if_pos hl] at h
      have := (rnE_ge (q := lB) (t := t) m (k + 1)).1
      rw [if_pos hl, if_pos hl, if_neg (by omega)]
      exact ih (k + 1) (c + 1) _ (by omega)
    · rw [if_neg hl, if_neg hl]
theorem nvM_R {t : RW} : ∀ (m k c : Nat) (x : Int32), c + (rnE dB t m k - k) ≤ 3 → nvM t m k c x = nvR t m k x := by
  intro m
  induction m with
  | zero => intro k c x _; rfl
  | succ m ih =>
    intro k c x h
    unfold nvM nvR
    unfold rnE at h
    by_cases hl : dB (t k) = true
    · rw [if_pos hl] at h
      have := (rnE_ge (q := dB) (t := t) m (k + 1)).1
      rw [if_pos hl, if_pos hl, if_neg (by omega)]
      have e : 10 * x + t k - 48 = x * 10 + (t k - 48) := by grind
      rw [e]
      exact ih (k + 1) (c + 1) _ (by omega)
    · rw [if_neg hl, if_neg hl]
section TOK
variable {b : Nat} {F : Nat → Option AE} {D E : Nat → Option KD} {I : Nat → Nat → Int32} {L : Nat → Nat → Int64} {P : Nat → Nat → Option Nat} {nx us : Nat}
theorem M_byteE {n k : Nat} (hn : n ≤ 400) (hk : n ≤ k) (hk2 : k ≤ 400) (h26 : I 72 26 = Int32.ofNat n) : f_X15_byteAt (ad b 72) (Int32.ofNat k) (lay b F E I L P nx us) = some (-1, (lay b F E I L P nx us)) := by
  have e : (Int32.ofNat n ≤ Int32.ofNat k) = True := eq_true (oN_leL hk (by omega))
  simp (decide := true) only [f_X15_byteAt_22, f_X15_byteAt, h26, e, isO_s, gI_s, gA_s, gL_s, pI_s, pZ_s, pL_s, aI_s, aL_s, aN_s, aQ_s, sI_s, sL_s, cr, LNs, Option.map_some, Option.map_none, Option.bind_some, b2, tr, lt, if_true, if_false, ckZ, X_within, M_in, inR_z, X_refuse, X_tell, X_deny, X_grant, M_refused, M_denied, M_done, M_granted, u2_same, u2_ne, u2_u2, upd_same, upd_ne, aW0, ixR_z, ixR_1, M_isWall, M_isPainter, M_isWork, X_has4, X_has10, X_at, or_false, false_or, or_true, true_or, not_true, not_false_iff, Option.isSome_some, isO_d, gI_d, gA_d, pI_d, ne_eq, not_false_eq_true, u2_hi, u2_hj, u2_dyn, u2_dynj, Nat.reduceAdd, mX_r, mX_rD, mX_rDj, mM_r, mX_u, mX_uM, mX_uD, mX_uDj, mM_u, mM_uX, mM_uD, mM_uDj, u2_dd, u2_d0, u2_0d]
theorem M_byteT {n k : Nat} (hn : n ≤ 400) (hk : k < n) (h26 : I 72 26 = Int32.ofNat n) : f_X15_byteAt (ad b 72) (Int32.ofNat k) (lay b F E I L P nx us) = some (I 91 k &&& 255, (lay b F E I L P nx us)) := by
  have e := oN_leF hk (by omega)
  have e3 : iN (Int32.ofNat k) 400 = some k := iN_oN (by omega) (by omega)
  simp (decide := true) only [f_X15_byteAt_22, f_X15_byteAt, h26, e, e3, isO_s, gI_s, gA_s, gL_s, pI_s, pZ_s, pL_s, aI_s, aL_s, aN_s, aQ_s, sI_s, sL_s, cr, LNs, Option.map_some, Option.map_none, Option.bind_some, b2, tr, lt, if_true, if_false, ckZ, X_within, M_in, inR_z, X_refuse, X_tell, X_deny, X_grant, M_refused, M_denied, M_done, M_granted, u2_same, u2_ne, u2_u2, upd_same, upd_ne, aW0, ixR_z, ixR_1, M_isWall, M_isPainter, M_isWork, X_has4, X_has10, X_at, or_false, false_or, or_true, true_or, not_true, not_false_iff, Option.isSome_some, isO_d, gI_d, gA_d, pI_d, ne_eq, not_false_eq_true, u2_hi, u2_hj, u2_dyn, u2_dynj, Nat.reduceAdd, mX_r, mX_rD, mX_rDj, mM_r, mX_u, mX_uM, mX_uD, mX_uDj, mM_u, mM_uX, mM_uD, mM_uDj, u2_dd, u2_d0, u2_0d]
theorem M_word {n : Nat} {t : RW} (hn : n ≤ 400) (hB : BY t n) : ∀ (m k c : Nat), k + m = n → ∀ (fu : Nat) (I : Nat → Nat → Int32) (L : Nat → Nat → Int64), m < fu → c + m ≤ 400 → I 72 26 = Int32.ofNat n → I 91 = t → I 72 27 = Int32.ofNat k → f_X15_next_93 fu (ad b 72) (Int32.ofNat c) (lay b F E I L P nx us) = (f_X15_next_286 (lay b F E (u2 I 72 (if 8 < c + (rnE lB t m k - k) then upd (upd (I 72) 27 (Int32.ofNat (rnE lB t m k))) 32 (Int32.ofNat (c + (rnE lB t m k - k))) else upd (upd (upd (I 72) 27 (Int32.ofNat (rnE lB t m k))) 32 (Int32.ofNat (c + (rnE lB t m k - k)))) 28 2)) (u2 L 72 (vp_updL (L 72) 37 (wvM t m k c (L 72 37)))) P nx us)) := by
  intro m
  have hend : ∀ (m k c fu : Nat) (I : Nat → Nat → Int32) (L : Nat → Nat → Int64), c ≤ 400 → k ≤ 400 → I 72 27 = Int32.ofNat k → (∃ x, f_X15_byteAt (ad b 72) (Int32.ofNat k) (lay b F E I L P nx us) = some (x, (lay b F E I L P nx us)) ∧ inR x 97 122 = 0) → f_X15_next_93 (fu + 1) (ad b 72) (Int32.ofNat c) (lay b F E I L P nx us) = (f_X15_next_286 (lay b F E (u2 I 72 (if 8 < c then upd (upd (I 72) 27 (Int32.ofNat k)) 32 (Int32.ofNat c) else upd (upd (upd (I 72) 27 (Int32.ofNat k)) 32 (Int32.ofNat c)) 28 2)) (u2 L 72 (vp_updL (L 72) 37 (L 72 37))) P nx us)) := by
    intro m k c fu I L hc hk h27 hx
    obtain ⟨x, hx1, hx2⟩ := hx
    have eL : u2 L 72 (vp_updL (L 72) 37 (L 72 37)) = L := by
      funext q
      unfold u2
      split
      · rename_i h; subst h
        funext j
        unfold vp_updL
        split
        · rename_i h; subst h; rfl
        · rfl
      · rfl
    have e27 : upd (I 72) 27 (Int32.ofNat k) = I 72 := by
      funext j
      unfold upd
      split
      · rename_i h; subst h; exact h27.symm
      · rfl
    rw [eL, e27]
    by_cases h8 : 8 < c
    · have q : ((8 : Int32) < Int32.ofNat c) = True := eq_true ((oN_lt (a := 8) (by omega) (by omega)).mpr h8)
      rw [if_pos h8]
      simp (decide := true) only [f_X15_next_93, h27, hx1, M_letter, hx2, q, isO_s, gI_s, gA_s, gL_s, pI_s, pZ_s, pL_s, aI_s, aL_s, aN_s, aQ_s, sI_s, sL_s, cr, LNs, Option.map_some, Option.map_none, Option.bind_some, b2, tr, lt, if_true, if_false, ckZ, X_within, M_in, X_refuse, X_tell, X_deny, X_grant, M_refused, M_denied, M_done, M_granted, u2_same, u2_ne, u2_u2, upd_same, upd_ne, aW0, ixR_z, ixR_1, M_isWall, M_isPainter, M_isWork, X_has4, X_has10, X_at, or_false, false_or, or_true, true_or, not_true, not_false_iff, Option.isSome_some, isO_d, gI_d, gA_d, pI_d, ne_eq, not_false_eq_true, u2_hi, u2_hj, u2_dyn, u2_dynj, Nat.reduceAdd, mX_r, mX_rD, mX_rDj, mM_r, mX_u, mX_uM, mX_uD, mX_uDj, mM_u, mM_uX, mM_uD, mM_uDj, u2_dd, u2_d0, u2_0d]
    · have q : ((8 : Int32) < Int32.ofNat c) = False := eq_false (fun z => h8 ((oN_lt (a := 8) (by omega) (by omega)).mp z))
      rw [if_neg h8]
      simp (decide := true) only [f_X15_next_93, h27, hx1, M_letter, hx2, q, isO_s, gI_s, gA_s, gL_s, pI_s, pZ_s, pL_s, aI_s, aL_s, aN_s, aQ_s, sI_s, sL_s, cr, LNs, Option.map_some, Option.map_none, Option.bind_some, b2, tr, lt, if_true, if_false, ckZ, X_within, M_in, X_refuse, X_tell, X_deny, X_grant, M_refused, M_denied, M_done, M_granted, u2_same, u2_ne, u2_u2, upd_same, upd_ne, aW0, ixR_z, ixR_1, M_isWall, M_isPainter, M_isWork, X_has4, X_has10, X_at, or_false, false_or, or_true, true_or, not_true, not_false_iff, Option.isSome_some, isO_d, gI_d, gA_d, pI_d, ne_eq, not_false_eq_true, u2_hi, u2_hj, u2_dyn, u2_dynj, Nat.reduceAdd, mX_r, mX_rD, mX_rDj, mM_r, mX_u, mX_uM, mX_uD, mX_uDj, mM_u, mM_uX, mM_uD, mM_uDj, u2_dd, u2_d0, u2_0d]
  induction m with
  | zero =>
    intro k c hk fu I L hf hc h26 ht h27
    obtain ⟨fu, rfl⟩ : ∃ f, fu = f + 1 := ⟨fu - 1, by omega⟩
    have h1 := hend 0 k c fu I L (by omega) (by omega) h27 ⟨-1, M_byteE hn (by omega) (by omega) h26, by decide⟩
    have e : rnE lB t 0 k - k = 0 := by show k - k = 0; omega
    rw [e]
    exact h1
  | succ m ih =>
    intro k c hk fu I L hf hc h26 ht h27
    obtain ⟨fu, rfl⟩ : ∃ f, fu = f + 1 := ⟨fu - 1, by omega⟩
    have hb := M_byteT (b := b) (F := F) (E := E) (I := I) (L := L) (P := P) (nx := nx) (us := us) hn (show k < n by omega) h26
    rw [ht] at hb
    obtain ⟨x1, x2⟩ := hB k (by omega)
    obtain ⟨b1, b2', b3, b4, b5, b6, b7, b8, b9⟩ := by_x x1 x2
    by_cases hl : lB (t k) = true
    · have hge := (rnE_ge (q := lB) (t := t) m (k + 1)).1
      have eR : rnE lB t (m + 1) k = rnE lB t m (k + 1) := by show (if lB (t k) = true then _ else _) = _; rw [if_pos hl]
      have eV : ∀ x, wvM t (m + 1) k c x = wvM t m (k + 1) (c + 1) (if 8 ≤ c then x else 32 * x + (t k - 97 + 1).toInt64) := by intro x; show (if lB (t k) = true then _ else _) = _; rw [if_pos hl]
      have hl1 := lB_t hl
      rw [b6 hl1] at hb
      have e10 : ((1 : Int32) = 0) = False := by decide
      rw [eR, eV, show c + (rnE lB t m (k + 1) - k) = c + 1 + (rnE lB t m (k + 1) - (k + 1)) by omega]
      by_cases h8 : 8 ≤ c
      · have q : ((8 : Int32) ≤ Int32.ofNat c) = True := eq_true ((oN_le (a := 8) (by omega) (by omega)).mpr h8)
        have ih' := ih (k + 1) (c + 1) (by omega) fu (u2 I 72 (upd (I 72) 27 (Int32.ofNat (k + 1)))) L (by omega) (by omega) (by simp (decide := true) only [u2_same, u2_ne, u2_u2, upd_same, upd_ne, mE, u2_dyn, dyn_u2, dyn_hi, u2_hi, u2_hj, u2_dynj, u2_dd, u2_d0, u2_0d]; exact h26) (by simp (decide := true) only [u2_same, u2_ne, u2_u2, upd_same, upd_ne, mE, u2_dyn, dyn_u2, dyn_hi, u2_hi, u2_hj, u2_dynj, u2_dd, u2_d0, u2_0d]; exact ht) (by simp (decide := true) only [u2_same, u2_ne, u2_u2, upd_same, upd_ne, mE, u2_dyn, dyn_u2, dyn_hi, u2_hi, u2_hj, u2_dynj, u2_dd, u2_d0, u2_0d])
        rw [if_pos h8]
        simp (decide := true) only [f_X15_next_93, f_X15_next_140, h27, hb, M_letter, hl1, e10, q, oN_succ, isO_s, gI_s, gA_s, gL_s, pI_s, pZ_s, pL_s, aI_s, aL_s, aN_s, aQ_s, sI_s, sL_s, cr, LNs, Option.map_some, Option.map_none, Option.bind_some, b2, tr, lt, if_true, if_false, ckZ, X_within, M_in, X_refuse, X_tell, X_deny, X_grant, M_refused, M_denied, M_done, M_granted, u2_same, u2_ne, u2_u2, upd_same, upd_ne, aW0, ixR_z, ixR_1, M_isWall, M_isPainter, M_isWork, X_has4, X_has10, X_at, or_false, false_or, or_true, true_or, not_true, not_false_iff, Option.isSome_some, isO_d, gI_d, gA_d, pI_d, ne_eq, not_false_eq_true, u2_hi, u2_hj, u2_dyn, u2_dynj, Nat.reduceAdd, mX_r, mX_rD, mX_rDj, mM_r, mX_u, mX_uM, mX_uD, mX_uDj, mM_u, mM_uX, mM_uD, mM_uDj, u2_dd, u2_d0, u2_0d]
        refine ih'.trans ?_
        simp (decide := true) only [upd_upd, u2_same, u2_ne, u2_u2, upd_same, upd_ne, mE, u2_dyn, dyn_u2, dyn_hi, u2_hi, u2_hj, u2_dynj, u2_dd, u2_d0, u2_0d]
      · have q : ((8 : Int32) ≤ Int32.ofNat c) = False := eq_false (fun z => h8 ((oN_le (a := 8) (by omega) (by omega)).mp z))
        have ih' := ih (k + 1) (c + 1) (by omega) fu (u2 I 72 (upd (I 72) 27 (Int32.ofNat (k + 1)))) (u2 L 72 (vp_updL (L 72) 37 (32 * L 72 37 + (t k - 97 + 1).toInt64))) (by omega) (by omega) (by simp (decide := true) only [u2_same, u2_ne, u2_u2, upd_same, upd_ne, mE, u2_dyn, dyn_u2, dyn_hi, u2_hi, u2_hj, u2_dynj, u2_dd, u2_d0, u2_0d]; exact h26) (by simp (decide := true) only [u2_same, u2_ne, u2_u2, upd_same, upd_ne, mE, u2_dyn, dyn_u2, dyn_hi, u2_hi, u2_hj, u2_dynj, u2_dd, u2_d0, u2_0d]; exact ht) (by simp (decide := true) only [u2_same, u2_ne, u2_u2, upd_same, upd_ne, mE, u2_dyn, dyn_u2, dyn_hi, u2_hi, u2_hj, u2_dynj, u2_dd, u2_d0, u2_0d])
        have eu : ∀ (f : Nat → Int64) (x y : Int64), vp_updL (vp_updL f 37 x) 37 y = vp_updL f 37 y := by intro f x y; funext j; unfold vp_updL; split <;> rfl
        have es : ∀ (f : Nat → Int64) (x : Int64), vp_updL f 37 x 37 = x := fun f x => if_pos rfl
        rw [if_neg h8]
        simp (decide := true) only [f_X15_next_93, f_X15_next_140, h27, hb, M_letter, hl1, e10, q, oN_succ, isO_s, gI_s, gA_s, gL_s, pI_s, pZ_s, pL_s, aI_s, aL_s, aN_s, aQ_s, sI_s, sL_s, cr, LNs, Option.map_some, Option.map_none, Option.bind_some, b2, tr, lt, if_true, if_false, ckZ, X_within, M_in, X_refuse, X_tell, X_deny, X_grant, M_refused, M_denied, M_done, M_granted, u2_same, u2_ne, u2_u2, upd_same, upd_ne, aW0, ixR_z, ixR_1, M_isWall, M_isPainter, M_isWork, X_has4, X_has10, X_at, or_false, false_or, or_true, true_or, not_true, not_false_iff, Option.isSome_some, isO_d, gI_d, gA_d, pI_d, ne_eq, not_false_eq_true, u2_hi, u2_hj, u2_dyn, u2_dynj, Nat.reduceAdd, mX_r, mX_rD, mX_rDj, mM_r, mX_u, mX_uM, mX_uD, mX_uDj, mM_u, mM_uX, mM_uD, mM_uDj, u2_dd, u2_d0, u2_0d]
        refine ih'.trans ?_
        simp (decide := true) only [upd_upd, eu, es, u2_same, u2_ne, u2_u2, upd_same, upd_ne, mE, u2_dyn, dyn_u2, dyn_hi, u2_hi, u2_hj, u2_dynj, u2_dd, u2_d0, u2_0d]
    · have h1 := hend (m + 1) k c fu I L (by omega) (by omega) h27 ⟨_, hb, by rw [b4]; exact lB_f hl⟩
      have eR : rnE lB t (m + 1) k = k := by show (if lB (t k) = true then _ else _) = _; rw [if_neg hl]
      have eV : ∀ x, wvM t (m + 1) k c x = x := by intro x; show (if lB (t k) = true then _ else _) = _; rw [if_neg hl]
      rw [eR, eV, show c + (k - k) = c by omega]
      exact h1
end TOK
