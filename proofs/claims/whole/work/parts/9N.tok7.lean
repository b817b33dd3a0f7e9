/-! ===== tokens: only the bytes of the text count ===== -/
section CG
variable {t u : RW} {n : Nat} (hc : ∀ k, k < n → t k = u k)
theorem rnE_cg {q : Int32 → Bool} {t u : RW} {n : Nat} (hc : ∀ k, k < n → t k = u k) : ∀ (m k : Nat), k + m ≤ n → rnE q t m k = rnE q u m k := by
  intro m
  induction m with
  | zero => intro k _; rfl
  | succ m ih =>
    intro k hk
    unfold rnE
    rw [hc k (by omega), ih (k + 1) (by omega)]
theorem wvR_cg {t u : RW} {n : Nat} (hc : ∀ k, k < n → t k = u k) : ∀ (m k : Nat) (x : Int64), k + m ≤ n → wvR t m k x = wvR u m k x := by
  intro m
  induction m with
  | zero => intro k x _; rfl
  | succ m ih =>
    intro k x hk
    unfold wvR
    rw [hc k (by omega), ih (k + 1) _ (by omega)]
theorem nvR_cg {t u : RW} {n : Nat} (hc : ∀ k, k < n → t k = u k) : ∀ (m k : Nat) (x : Int32), k + m ≤ n → nvR t m k x = nvR u m k x := by
  intro m
  induction m with
  | zero => intro k x _; rfl
  | succ m ih =>
    intro k x hk
    unfold nvR
    rw [hc k (by omega), ih (k + 1) _ (by omega)]
theorem kd_cg {t u : RW} {n k : Nat} (hc : ∀ k, k < n → t k = u k) : kd t n k = kd u n k ∧ en t n k = en u n k ∧ (k < n → vl t n k = vl u n k) := by
  unfold kd en vl
  by_cases h : n ≤ k
  · rw [if_pos h, if_pos h, if_pos h, if_pos h]
    exact ⟨rfl, rfl, fun q => by omega⟩
  · rw [if_neg h, if_neg h, if_neg h, if_neg h, hc k (by omega), rnE_cg hc (n - k) k (by omega), rnE_cg hc (n - k) k (by omega), wvR_cg hc (n - k) k _ (by omega), nvR_cg hc (n - k) k _ (by omega)]
    exact ⟨rfl, rfl, fun _ => rfl⟩
theorem sk_cg {t u : RW} {n k : Nat} (hc : ∀ k, k < n → t k = u k) (hk : k ≤ n) : sk t n k = sk u n k := rnE_cg hc _ _ (by omega)
theorem ps_cg {t u : RW} {n : Nat} (hc : ∀ k, k < n → t k = u k) : ∀ i, ps t n i = ps u n i := by
  intro i
  induction i with
  | zero => rfl
  | succ i ih =>
    show en t n (sk t n (ps t n i)) = en u n (sk u n (ps u n i))
    rw [sk_cg hc (ps_le i), ih, (kd_cg hc).2.1]
theorem pl_cg {t u : RW} {n i : Nat} (hc : ∀ k, k < n → t k = u k) : pl t n i = pl u n i := by
  unfold pl
  rw [sk_cg hc (ps_le i), ps_cg hc i]
theorem kd_in {t : RW} {n k : Nat} (h : kd t n k ≠ 0) : k < n := by
  unfold kd at h
  split at h
  · exact absurd rfl h
  · omega
theorem TM_cg {t u r : RW} {n i : Nat} {rg : Int32} {l : Nat → Int64} (hc : ∀ k, k < n → t k = u k) (h : TM t n rg (pl t n i) r l) : TM u n rg (pl u n i) r l := by
  rw [← pl_cg (i := i) hc]
  generalize pl t n i = s at h
  unfold TM at h ⊢
  obtain ⟨a1, a2, a3⟩ := kd_cg (k := s) hc
  rw [← a1, ← a2]
  obtain ⟨m1, m2, m3, m4, m5, m6⟩ := h
  refine ⟨m1, m2, m3, ?_, ?_, ?_⟩
  · intro hk
    rw [← a3 (kd_in (t := t) (n := n) (k := s) (by omega))]
    exact m4 hk
  · intro hk
    have hs := kd_in (t := t) (n := n) (k := s) (by omega)
    rw [← nvR_cg hc (n - s) s 0 (by omega)]
    exact m5 hk
  · intro hk
    rw [← hc s (kd_in (t := t) (n := n) (k := s) (by omega))]
    exact m6 hk
end CG
section TOK7
variable {b : Nat} {F : Nat → Option AE} {D E : Nat → Option KD} {I : Nat → Nat → Int32} {L : Nat → Nat → Int64} {P : Nat → Nat → Option Nat} {nx us : Nat}
theorem M_nx2 {n i : Nat} {t : RW} {rg : Int32} (hn : n ≤ 400) (hB : BY t n) (h26 : I 72 26 = Int32.ofNat n) (ht : ∀ k, k < n → I 91 k = t k) (h36 : I 72 36 = rg) (h : TM t n rg (pl t n i) (I 72) (L 72)) (h0 : kd t n (pl t n i) ≠ 0) (h1 : kd t n (pl t n i) ≠ 1) (hr : ¬ cm t n i rg) : ∃ r l, f_X15_next (ad b 72) (lay b F E I L P nx us) = some (lay b F E (u2 I 72 r) (u2 L 72 l) P nx us) ∧ F72 (I 72) r ∧ (∀ j, j ≠ 37 → l j = L 72 j) ∧ TM t n rg (pl t n (i + 1)) r l := by
  have ht' : ∀ k, k < n → t k = I 91 k := fun k hk => (ht k hk).symm
  have hB' : BY (I 91) n := fun k hk => by rw [ht k hk]; exact hB k hk
  have hpl : pl t n i = pl (I 91) n i := pl_cg ht'
  have hkd : kd t n (pl t n i) = kd (I 91) n (pl (I 91) n i) := by rw [hpl]; exact (kd_cg ht').1
  obtain ⟨r, l, z1, z2, z3, z4⟩ := M_nx (b := b) (F := F) (E := E) (P := P) (nx := nx) (us := us) (i := i) hn hB' h26 rfl h36 (TM_cg ht' h) (by rw [← hkd]; exact h0) (by rw [← hkd]; exact h1) (fun ⟨q1, q2, q3⟩ => hr ⟨by rw [hkd]; exact q1, q2, by
    have hin : pl t n i < n := kd_in (t := t) (n := n) h0
    rw [← hpl, ht _ hin] at q3
    exact q3⟩)
  exact ⟨r, l, z1, z2, z3, TM_cg ht z4⟩
theorem M_nx0 {n : Nat} {t : RW} {rg : Int32} (hn : n ≤ 400) (hB : BY t n) (h26 : I 72 26 = Int32.ofNat n) (ht : ∀ k, k < n → I 91 k = t k) (h36 : I 72 36 = rg) (h27 : I 72 27 = 0) : ∃ r l, f_X15_next (ad b 72) (lay b F E I L P nx us) = some (lay b F E (u2 I 72 r) (u2 L 72 l) P nx us) ∧ F72 (I 72) r ∧ (∀ j, j ≠ 37 → l j = L 72 j) ∧ TM t n rg (pl t n 0) r l := by
  have hB' : BY (I 91) n := fun k hk => by rw [ht k hk]; exact hB k hk
  obtain ⟨r, l, z1, z2, z3, z4⟩ := M_next (b := b) (F := F) (E := E) (L := L) (P := P) (nx := nx) (us := us) (k := 0) hn hB' (Nat.zero_le _) h26 rfl h36 h27
  have z4' : TM (I 91) n rg (pl (I 91) n 0) r l := z4
  exact ⟨r, l, z1, z2, z3, TM_cg ht z4'⟩
end TOK7
