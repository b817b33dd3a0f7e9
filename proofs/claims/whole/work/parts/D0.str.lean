/-! the text constants -/
theorem str_ex {args : Array Value} {s : State} (hs : ∀ c ∈ FLn, c.before args s = true) : ∃ ad : Nat → Nat × Nat, ∀ i, i < 30 → (Term.string (Ss.getD i ("", 0, "")).1 (Ss.getD i ("", 0, "")).2.1).eval args s none [] s = some (.ref (ad i).1) ∧ strAt s s.heap (ad i).1 (fun k => if k = 0 then .ref (ad i).2 else .int 0) ∧ NA s 21 (ad i).2 (zt i).length (fun j => Int32.ofNat ((zt i).getD j 0)) := by
  have hz : ∀ i, i < 30 → (zt i).length < 2147483648 := by decide +kernel
  have key : ∀ i : Nat, ∃ ad : Nat × Nat, i < 30 → (Term.string (Ss.getD i ("", 0, "")).1 (Ss.getD i ("", 0, "")).2.1).eval args s none [] s = some (.ref ad.1) ∧ strAt s s.heap ad.1 (fun k => if k = 0 then .ref ad.2 else .int 0) ∧ NA s 21 ad.2 (zt i).length (fun j => Int32.ofNat ((zt i).getD j 0)) := by
    intro i
    by_cases hi : i < 30
    · have hw := fun w h => hs w (st_ok i hi w h)
      generalize Ss.getD i ("", 0, "") = q at hw ⊢
      unfold stw at hw
      obtain ⟨a, v, cell, h1, h2, h3⟩ := st_of (tm := .string q.1 q.2.1) (f := fun j => Int32.ofNat ((zt i).getD j 0)) (hz i hi) (hw _ (by simp)) (hw _ (by simp)) (hw _ (by simp)) (hw _ (by simp)) (fun j hj => hw _ (List.mem_append_right _ (List.mem_map.mpr ⟨j, List.mem_range.mpr hj, rfl⟩)))
      exact ⟨(a, v), fun _ => ⟨h1, h2, cell, h3⟩⟩
    · exact ⟨(0, 0), fun h => absurd h hi⟩
  exact Classical.axiomOfChoice key
theorem zq_ex {s : State} {C n d : String} {A : Nat → Prop} (h : va_Zq C n d A s s.heap) : ∃ o : Option Nat, va_Z C n d (va_rf o) A s s.heap := by
  rcases h with h | ⟨t, h⟩
  · exact ⟨none, h⟩
  · exact ⟨some t, h⟩
/-- FADES -/
theorem fd_ex {args : Array Value} {s : State} (hs : ∀ c ∈ FLn, c.before args s = true) : ∃ t : Nat, (Term.static "WallHouse$Wall" "FADES" "[I").eval args s none [] s = some (.ref t) ∧ NA s 20 t 4 (fun j => [1, 2, 3, 2].getD j 0) := by
  obtain ⟨t, cell, h1, h2⟩ := ar_of (tm := .static "WallHouse$Wall" "FADES" "[I") (ty := .int) (N := 4) (f := fun j => [1, 2, 3, 2].getD j 0) (by decide) (hs _ (by decide +kernel)) (hs _ (by decide +kernel)) (fun j hj => by
    match j, hj with
    | 0, _ => exact hs _ (by decide +kernel)
    | 1, _ => exact hs _ (by decide +kernel)
    | 2, _ => exact hs _ (by decide +kernel)
    | 3, _ => exact hs _ (by decide +kernel)
    | j + 4, h => exact absurd h (by omega))
  exact ⟨t, h1, cell, h2⟩
theorem zt_sm : ∀ k, k < 30 → (zt k).length ≤ 100 ∧ ∀ i, i < (zt k).length → (zt k).getD i 0 < 128 := by decide +kernel
theorem NA_lt {s : State} {t a n : Nat} {f : Nat → Int32} (h : NA s t a n f) : a < s.heap.size := by
  obtain ⟨c, h1, -⟩ := h
  exact (Array.getElem?_eq_some_iff.mp h1).1
theorem st_lt {s : State} {a : Nat} {g : Nat → Value} (h : strAt s s.heap a g) : a < s.heap.size := by
  obtain ⟨c, h1, -⟩ := h
  exact (Array.getElem?_eq_some_iff.mp h1).1
/-- the start: the claim's own facts, the pictured heap, and that the law says yes -/
theorem st_all {args : Array Value} {s : State} {b L : Nat} {xs : Nat → Int32} (hL : L ≤ 3072) (hts : ∀ w ∈ lw_tbl, w.before args s = true) (hs : ∀ c ∈ FLn, c.before args s = true) (hX : va_X b L xs s s.heap) : ∃ (G : GX) (h0 H : AH), K1 G s ∧ Rp G s h0 s.heap ∧ Le h0 h0 ∧ h0.1 = s.heap.size ∧ h0.2.1 = s.heap.size ∧ h0.2.2.1 = 0 ∧ f_Law G.2.2 b h0 = some (1, H) := by
  have htg : ∀ w ∈ lw_good, w.before args s = true := fun w h => hts w (List.mem_filter.mp h).1
  have hA : ∀ a : Nat, a < s.heap.size → ¬ (fun a => s.heap.size ≤ a) a := fun a h => Nat.not_le.mpr h
  obtain ⟨D, hD⟩ := kn_ex htg
  obtain ⟨ad', had⟩ := str_ex hs
  obtain ⟨tF, hF1, hF2⟩ := fd_ex hs
  obtain ⟨F, f1, f2, f3⟩ := ex_F D s
  obtain ⟨o0, ho0⟩ := zq_ex (va_Zqof (C := "jdk/internal/util/Preconditions") (n := "SIOOBE_FORMATTER") (d := "Ljava/util/function/BiFunction;") (A := fun a => s.heap.size ≤ a) (hts _ (by decide +kernel)) (hts _ (by decide +kernel)) (hs _ (by decide +kernel)) hA)
  obtain ⟨o1, ho1⟩ := zq_ex (va_Zqof (C := "java/lang/Throwable") (n := "UNASSIGNED_STACK") (d := "[Ljava/lang/StackTraceElement;") (A := fun a => s.heap.size ≤ a) (hts _ (by decide +kernel)) (hts _ (by decide +kernel)) (hs _ (by decide +kernel)) hA)
  obtain ⟨o2, ho2⟩ := zq_ex (va_Zqof (C := "java/lang/Throwable") (n := "SUPPRESSED_SENTINEL") (d := "Ljava/util/List;") (A := fun a => s.heap.size ≤ a) (hts _ (by decide +kernel)) (hts _ (by decide +kernel)) (hs _ (by decide +kernel)) hA)
  obtain ⟨z, hz1, hz2, hz3, hz4, hz5⟩ : ∃ z : ZX, z.1 = (fun i => (ad' i).1) ∧ z.2.1 = tF ∧ z.2.2 0 = o0 ∧ z.2.2 1 = o1 ∧ z.2.2 2 = o2 := ⟨(fun i => (ad' i).1, tF, fun k => if k = 0 then o0 else if k = 1 then o1 else o2), rfl, rfl, rfl, rfl, rfl⟩
  have hGZ : GZ s.heap.size F z := by
    intro k hk
    obtain ⟨h1, h2, h3⟩ := had k hk
    obtain ⟨g, e1, e2, e3⟩ := f3 _ _ _ h2 rfl
    obtain ⟨g2, d1, d2⟩ := f2 21 _ _ _ (Or.inr rfl) h3
    rw [hz1]
    exact ⟨st_lt h2, (ad' k).2, g, g2, e1, e2, e3, NA_lt h3, d1, (zt_sm k hk).1, fun i hi => ⟨d2 i hi, (zt_sm k hk).2 i hi⟩⟩
  have hFZ : FZ s.heap.size F z.2.1 := by
    obtain ⟨g, d1, d2⟩ := f2 20 _ _ _ (Or.inl rfl) hF2
    rw [hz2]
    exact ⟨NA_lt hF2, g, d1, d2 0 (by decide), d2 1 (by decide), d2 2 (by decide), d2 3 (by decide)⟩
  have hNA : NA s 20 b L xs := hX
  obtain ⟨sc, hsc, -⟩ := f2 20 _ _ _ (Or.inl rfl) hNA
  obtain ⟨H, hH⟩ := law_all (b := s.heap.size) (F := F) (z := z) (r0 := b) (N := L) (sc := sc) hGZ hFZ (NA_lt hNA) hsc (by omega) 512 0 FU 0 (0 + 44226) (fun _ => none) zI2 (fun _ _ => 0) (plk mR) (by omega) (by unfold FU; omega) (by omega) (by omega) (by omega) Rel_0
  have hH2 : f_Law z b (Sz s.heap.size F 0 zI0 [] 0) = some (1, H) := (law_ini (us := 0) (by omega)).trans hH
  have hKx : K1 (D, s.heap, z) s := by
    refine ⟨hD, fun q hq => va_Nw.of (w := nwF q) rfl (hts _ (nf_all q hq)), fun q hq => va_Nw.of (w := nwM q) rfl (hts _ (nm_all q hq)), ⟨va_AO.of (hts (.arrayOver (.object "WallHouse$Wall")) (by decide +kernel)), va_AO.of (hts (.arrayOver (.object "WallHouse$Drawing")) (by decide +kernel)), va_AO.of (hts (.arrayOver (.object "WallHouseModel$Drawing")) (by decide +kernel)), va_AO.of (hts (.arrayOver (.object "WallHouseModel$Right")) (by decide +kernel)), va_Nw.of (w := .castable "[J" "java/lang/Cloneable") rfl (hts _ (by decide +kernel))⟩, ?_, ?_, ?_, ?_, ?_, ?_⟩
    · intro i q hq
      have hi : i < 30 := (List.getElem?_eq_some_iff.mp hq).1
      have e : Ss.getD i ("", 0, "") = q := by rw [List.getD_eq_getElem?_getD, hq]; rfl
      have h1 := (had i hi).1
      rw [e] at h1
      refine vk_R.of (hts _ (sr_ok q (List.mem_of_getElem? hq))) ?_
      show _ = some (Value.ref (z.1 i))
      rw [hz1]
      exact h1
    · show va_Z "WallHouse$Wall" "FADES" "[I" (.ref z.2.1) _ s s.heap
      rw [hz2]
      exact va_Zref (hts _ (by decide +kernel)) (hts _ (by decide +kernel)) hF1 hA
    · exact va_Zof (hts _ (by decide +kernel)) (hts _ (by decide +kernel)) (va_eqi (hs _ (by decide +kernel))) hA
    · show va_Z _ _ _ (va_rf (z.2.2 0)) _ s s.heap
      rw [hz3]
      exact ho0
    · show va_Z _ _ _ (va_rf (z.2.2 1)) _ s s.heap
      rw [hz4]
      exact ho1
    · show va_Z _ _ _ (va_rf (z.2.2 2)) _ s s.heap
      rw [hz5]
      exact ho2
  refine ⟨(D, s.heap, z), Sz s.heap.size F 0 zI0 [] 0, H, hKx, ⟨rfl, rfl, fun a _ => rfl, fun a e he => ?_⟩, ⟨rfl, Nat.le_refl _, Nat.le_refl _, ?_, Nat.zero_le _, Nat.le_refl _⟩, rfl, rfl, rfl, hH2⟩
  · have he : (if a < s.heap.size then F a else cA s.heap.size (Dn 0) zI0 (fun _ _ => 0) (plk []) (ipC (a - s.heap.size))) = some e := he
    by_cases ha : a < s.heap.size
    · rw [if_pos ha] at he
      exact f1 a e he
    · rw [if_neg ha] at he
      cases he
  · show s.heap.size + 0 ≤ s.heap.size + 601024
    omega
