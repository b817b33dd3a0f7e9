/-! ===== the law's start: what the Statement gives ===== -/
theorem ar_of {args : Array Value} {s : State} {tm : Term} {ty : FieldType} {N : Nat} {f : Nat → Int32} (hN : N < 2147483648) (harr : (Cond.arrayOf tm ty).before args s = true) (hlen : (Cond.eq (.length tm) (.int (Int32.ofNat N))).before args s = true) (hel : ∀ j, j < N → (Cond.eq (.elem tm (.int (Int32.ofNat j))) (.int (f j))).before args s = true) : ∃ (t : Nat) (cell : Cell), tm.eval args s none [] s = some (.ref t) ∧ s.heap[t]? = some cell ∧ s.isArrayOf cell ty ∧ cell.vm ≠ .unknown ∧ cell.slots.size = N ∧ ∀ j, j < N → cell.slots[j]? = some (.int (f j)) := by
  have hl := va_eqt hlen
  obtain ⟨t, cell, ht, hat, hv⟩ := Term.length_spec hl
  obtain ⟨hcell, hkn, -, -⟩ := State.arrayAt?_spec hat
  obtain ⟨hof, -⟩ := Cond.arrayOf_spec harr ht hcell
  have hsz : cell.slots.size < 2147483648 := by
    simp only [Term.eval, ht, hat, Option.bind_eq_bind, Option.bind_some] at hl
    by_cases hlt : cell.slots.size < 2147483648
    · exact hlt
    · simp [hlt] at hl
  have hz : cell.slots.size = N := by
    have e : Int32.ofNat N = Int32.ofNat cell.slots.size := Value.int.inj hv
    have e2 := congrArg Int32.toInt e
    rw [oN_toInt hN, oN_toInt hsz] at e2
    omega
  refine ⟨t, cell, ht, hcell, hof, hkn, hz, fun j hj => ?_⟩
  obtain ⟨a, i, cell2, h1, h2, h3, h4, h5⟩ := Term.elem_spec (va_eqt (hel j hj))
  cases ht.symm.trans h1
  cases hat.symm.trans h3
  have hi : i = Int32.ofNat j := by
    have e : (Term.int (Int32.ofNat j)).eval args s none [] s = some (.int (Int32.ofNat j)) := rfl
    cases h2.symm.trans e
    rfl
  have hc : i.toNatClampNeg = j := by rw [hi]; exact Int32.toNatClampNeg_ofNat_of_lt (by omega)
  rw [hc] at h5
  exact h5
/-- a text constant -/
theorem st_of {args : Array Value} {s : State} {tm : Term} {N : Nat} {f : Nat → Int32} (hN : N < 2147483648) (hex : (Cond.exactly tm "java/lang/String").before args s = true) (hco : (Cond.eq (.field tm "java/lang/String" "coder" "B") (.int 0)).before args s = true) (harr : (Cond.arrayOf (.field tm "java/lang/String" "value" "[B") .byte).before args s = true) (hlen : (Cond.eq (.length (.field tm "java/lang/String" "value" "[B")) (.int (Int32.ofNat N))).before args s = true) (hel : ∀ j, j < N → (Cond.eq (.elem (.field tm "java/lang/String" "value" "[B") (.int (Int32.ofNat j))) (.int (f j))).before args s = true) :
    ∃ (a v : Nat) (cell : Cell), tm.eval args s none [] s = some (.ref a) ∧ strAt s s.heap a (fun k => if k = 0 then .ref v else .int 0) ∧ s.heap[v]? = some cell ∧ s.isArrayOf cell .byte ∧ cell.vm ≠ .unknown ∧ cell.slots.size = N ∧ ∀ j, j < N → cell.slots[j]? = some (.int (f j)) := by
  obtain ⟨a, c, cA, kA, q1, q2, q3, q4, q5, q6, -⟩ := Cond.exactly_spec (args := args) (first := s) (o := none) (s := s) (idx := []) (t := tm) (cls := "java/lang/String") hex
  obtain ⟨v, cell, h1, h2⟩ := ar_of hN harr hlen hel
  obtain ⟨cf, k, i, g, c1, g1, g2, g3, g4, g5, -⟩ := vk_OFof (A := fun _ => False) q1 (va_eqt hco) (fun _ _ h => h)
  obtain ⟨cf', k', i', g', c1', g1', g2', g3', g4', g5', -⟩ := vk_OFof (A := fun _ => False) q1 h1 (fun _ _ h => h)
  cases q3.symm.trans g3
  cases q3.symm.trans g3'
  exact ⟨a, v, cell, q1, ⟨cA, q3, q5, g4, by rw [q6]; exact q2, ⟨cf', k', i', g', g1', g2', g5'⟩, cf, k, i, g, g1, g2, g5⟩, h2⟩
/-- numbers in an array -/
def NA (s : State) (t a n : Nat) (f : Nat → Int32) : Prop := ∃ cell : Cell, s.heap[a]? = some cell ∧ s.isArrayOf cell (aT t) ∧ cell.vm ≠ .unknown ∧ cell.slots.size = n ∧ ∀ j, j < n → cell.slots[j]? = some (.int (f j))
theorem NA_u {s : State} {t t' a n n' : Nat} {f f' : Nat → Int32} (h : NA s t a n f) (h' : NA s t' a n' f') : aT t = aT t' ∧ n = n' ∧ ∀ j, j < n → f j = f' j := by
  obtain ⟨c, h1, ⟨-, k, h2, comp, h3⟩, -, h4, h5⟩ := h
  obtain ⟨c', h1', ⟨-, k', h2', comp', h3'⟩, -, h4', h5'⟩ := h'
  cases h1.symm.trans h1'
  cases h2.symm.trans h2'
  have e := h3.symm.trans h3'
  refine ⟨by injection e, by omega, fun j hj => ?_⟩
  exact Value.int.inj (Option.some.inj ((h5 j hj).symm.trans (h5' j (by omega))))
theorem NA_s {s : State} {t a n v : Nat} {f : Nat → Int32} {g : Nat → Value} (h : NA s t a n f) (h' : strAt s s.heap a g) (hv : g 0 = .ref v) : False := by
  obtain ⟨c, h1, -, -, h4, h5⟩ := h
  obtain ⟨c', h1', -, -, -, ⟨cf, k, i, g1, e1, e2, e3⟩, -⟩ := h'
  cases h1.symm.trans h1'
  have hl : g1.slot < c.slots.size := (Array.getElem?_eq_some_iff.mp e3).1
  have := (h5 g1.slot (by omega)).symm.trans e3
  rw [hv] at this
  cases this
theorem st_u {s : State} {a : Nat} {g g' : Nat → Value} (h : strAt s s.heap a g) (h' : strAt s s.heap a g') : g 0 = g' 0 ∧ g 1 = g' 1 := by
  obtain ⟨c, h1, -, -, -, ⟨cf, k, i, g1, e1, e2, e3⟩, cf2, k2, i2, g2, d1, d2, d3⟩ := h
  obtain ⟨c', h1', -, -, -, ⟨cf', k', i', g1', e1', e2', e3'⟩, cf2', k2', i2', g2', d1', d2', d3'⟩ := h'
  cases h1.symm.trans h1'
  cases e1.symm.trans e1'
  cases d1.symm.trans d1'
  have x1 := e3.symm.trans e3'
  have x2 := d3.symm.trans d3'
  exact ⟨Option.some.inj x1, Option.some.inj x2⟩
/-- the frozen cells -/
theorem ex_F (D : va_G) (s : State) : ∃ F : Nat → Option AE, (∀ a e, F a = some e → Ra D s s.heap a e) ∧ (∀ t a n f, t = 20 ∨ t = 21 → NA s t a n f → ∃ g, F a = some (.inl (t, n, .inl g)) ∧ ∀ j, j < n → g j = f j) ∧ (∀ a g v, strAt s s.heap a g → g 0 = .ref v → ∃ g', F a = some (.inr (99, g')) ∧ g' 0 = g 0 ∧ g' 1 = g 1) := by
  have key : ∀ a : Nat, ∃ o : Option AE, (∀ e, o = some e → Ra D s s.heap a e) ∧ (∀ t n f, t = 20 ∨ t = 21 → NA s t a n f → ∃ g, o = some (.inl (t, n, .inl g)) ∧ ∀ j, j < n → g j = f j) ∧ (∀ g v, strAt s s.heap a g → g 0 = .ref v → ∃ g', o = some (.inr (99, g')) ∧ g' 0 = g 0 ∧ g' 1 = g 1) := by
    intro a
    by_cases hA : ∃ t n f, (t = 20 ∨ t = 21) ∧ NA s t a n f
    · obtain ⟨t, n, f, ht, hn⟩ := hA
      refine ⟨some (.inl (t, n, .inl f)), fun e he => ?_, fun t' n' f' ht' hn' => ?_, fun g v hg hv => (NA_s hn hg hv).elim⟩
      · cases he
        obtain ⟨c, h1, h2, h3, h4, h5⟩ := hn
        refine ⟨c, h1, ⟨h2, fun C hC => ?_, fun h => ?_⟩, h3, h4, h5, fun h => ?_⟩
        · rcases ht with rfl | rfl <;> cases hC
        · have h : t = 4 := h
          omega
        · have h : t < 20 := h
          omega
      · obtain ⟨e1, e2, e3⟩ := NA_u hn hn'
        have : t = t' := by
          rcases ht with rfl | rfl <;> rcases ht' with rfl | rfl <;> first | rfl | cases e1
        subst this e2
        exact ⟨f, rfl, e3⟩
    · by_cases hB : ∃ g v, strAt s s.heap a g ∧ g 0 = .ref v
      · obtain ⟨g, v, hg, hv⟩ := hB
        refine ⟨some (.inr (99, g)), fun e he => ?_, fun t n f ht hn => absurd ⟨t, n, f, ht, hn⟩ hA, fun g' v' hg' _ => ⟨g, rfl, st_u hg hg'⟩⟩
        cases he
        exact Or.inr ⟨rfl, hg⟩
      · exact ⟨none, fun e he => (by cases he), fun t n f ht hn => absurd ⟨t, n, f, ht, hn⟩ hA, fun g v hg hv => absurd ⟨g, v, hg, hv⟩ hB⟩
  obtain ⟨F, hF⟩ := Classical.axiomOfChoice key
  exact ⟨F, fun a => (hF a).1, fun t a n f => (hF a).2.1 t n f, fun a => (hF a).2.2⟩
theorem kn1 {args : Array Value} {s : State} {ci N : Nat} {Cn : String} {G : Nat → Value} (hts : ∀ w ∈ lw_good, w.before args s = true) (h : CL ci Cn N G) (q : vw_C) (hq : vwCl[ci]? = some q) : ∃ d : ClassId × (Nat → Nat), u_Kn s q.1 q.2.1 q.2.2 d.1 d.2 := by
  obtain ⟨T, ty0, e, uw, -, -, ki, -⟩ := h
  cases e.symm.trans hq
  obtain ⟨cC, iS, h⟩ := u_known (C := Cn) (T := T) (N := N) (n := N) hts uw (hts _ ki)
  exact ⟨(cC, iS), h⟩
theorem kn_ex {args : Array Value} {s : State} (hts : ∀ w ∈ lw_good, w.before args s = true) : ∃ D : va_G, va_K D vwCl [] s := by
  have key : ∀ c : Nat, ∃ d : ClassId × (Nat → Nat), ∀ q : vw_C, vwCl[c]? = some q → u_Kn s q.1 q.2.1 q.2.2 d.1 d.2 := by
    intro c
    by_cases hc : c < 16
    · have hq : ∃ q, vwCl[c]? = some q := ⟨vwCl[c]'hc, List.getElem?_eq_getElem hc⟩
      obtain ⟨q, hq⟩ := hq
      have : ∃ d : ClassId × (Nat → Nat), u_Kn s q.1 q.2.1 q.2.2 d.1 d.2 := by
        match c, hc, hq with
        | 0, _, hq => exact kn1 hts cl_0 q hq
        | 1, _, hq => exact kn1 hts cl_1 q hq
        | 2, _, hq => exact kn1 hts cl_2 q hq
        | 3, _, hq => exact kn1 hts cl_3 q hq
        | 4, _, hq => exact kn1 hts cl_4 q hq
        | 5, _, hq => exact kn1 hts cl_5 q hq
        | 6, _, hq => exact kn1 hts cl_6 q hq
        | 7, _, hq => exact kn1 hts cl_7 q hq
        | 8, _, hq => exact kn1 hts cl_8 q hq
        | 9, _, hq => exact kn1 hts cl_9 q hq
        | 10, _, hq => exact kn1 hts cl_10 q hq
        | 11, _, hq => exact kn1 hts cl_11 q hq
        | 12, _, hq => exact kn1 hts cl_12 q hq
        | 13, _, hq => exact kn1 hts cl_13 q hq
        | 14, _, hq => exact kn1 hts cl_14 q hq
        | 15, _, hq => exact kn1 hts cl_15 q hq
        | c + 16, h, _ => exact absurd h (by omega)
      obtain ⟨d, hd⟩ := this
      exact ⟨d, fun q' hq' => by cases hq.symm.trans hq'; exact hd⟩
    · refine ⟨(0, fun _ => 0), fun q hq => ?_⟩
      have : c < vwCl.length := (List.getElem?_eq_some_iff.mp hq).1
      exact absurd this hc
  obtain ⟨d, hd⟩ := Classical.axiomOfChoice key
  exact ⟨(fun c => (d c).1, fun c => (d c).2), fun c q hq => hd c q hq, fun k q hq => by simp at hq⟩
theorem nf_all : ∀ q ∈ NFs, nwF q ∈ lw_tbl := by decide +kernel
theorem nm_all : ∀ q ∈ NMs, nwM q ∈ lw_tbl := by decide +kernel
/-- the words about the text constants -/
def FLn : List Cond := flatC (Jvm.Cond.and given_1 narrow_1)
def stw (q : SX) (l : List Nat) : List Cond := [.exactly (.string q.1 q.2.1) "java/lang/String", .eq (.field (.string q.1 q.2.1) "java/lang/String" "coder" "B") (.int 0), .arrayOf (.field (.string q.1 q.2.1) "java/lang/String" "value" "[B") .byte, .eq (.length (.field (.string q.1 q.2.1) "java/lang/String" "value" "[B")) (.int (Int32.ofNat l.length))] ++ (List.range l.length).map (fun j => .eq (.elem (.field (.string q.1 q.2.1) "java/lang/String" "value" "[B") (.int (Int32.ofNat j))) (.int (Int32.ofNat (l.getD j 0))))
theorem fl_mk {ws : List Cond} (a b : Nat) (h : (FLn.drop a).take b = ws) : ∀ w ∈ ws, w ∈ FLn := by
  intro w hw
  rw [← h] at hw
  exact List.mem_of_mem_drop (List.mem_of_mem_take hw)
theorem st_0 : ∀ w ∈ stw (Ss.getD 0 ("", 0, "")) (zt 0), w ∈ FLn := fl_mk 186 18 (by decide +kernel)
theorem st_1 : ∀ w ∈ stw (Ss.getD 1 ("", 0, "")) (zt 1), w ∈ FLn := fl_mk 205 8 (by decide +kernel)
theorem st_2 : ∀ w ∈ stw (Ss.getD 2 ("", 0, "")) (zt 2), w ∈ FLn := fl_mk 215 8 (by decide +kernel)
theorem st_3 : ∀ w ∈ stw (Ss.getD 3 ("", 0, "")) (zt 3), w ∈ FLn := fl_mk 226 7 (by decide +kernel)
theorem st_4 : ∀ w ∈ stw (Ss.getD 4 ("", 0, "")) (zt 4), w ∈ FLn := fl_mk 237 8 (by decide +kernel)
theorem st_5 : ∀ w ∈ stw (Ss.getD 5 ("", 0, "")) (zt 5), w ∈ FLn := fl_mk 250 6 (by decide +kernel)
theorem st_6 : ∀ w ∈ stw (Ss.getD 6 ("", 0, "")) (zt 6), w ∈ FLn := fl_mk 101 85 (by decide +kernel)
theorem st_7 : ∀ w ∈ stw (Ss.getD 7 ("", 0, "")) (zt 7), w ∈ FLn := fl_mk 291 8 (by decide +kernel)
theorem st_8 : ∀ w ∈ stw (Ss.getD 8 ("", 0, "")) (zt 8), w ∈ FLn := fl_mk 308 8 (by decide +kernel)
theorem st_9 : ∀ w ∈ stw (Ss.getD 9 ("", 0, "")) (zt 9), w ∈ FLn := fl_mk 262 8 (by decide +kernel)
theorem st_10 : ∀ w ∈ stw (Ss.getD 10 ("", 0, "")) (zt 10), w ∈ FLn := fl_mk 277 6 (by decide +kernel)
theorem st_11 : ∀ w ∈ stw (Ss.getD 11 ("", 0, "")) (zt 11), w ∈ FLn := fl_mk 326 8 (by decide +kernel)
theorem st_12 : ∀ w ∈ stw (Ss.getD 12 ("", 0, "")) (zt 12), w ∈ FLn := fl_mk 345 11 (by decide +kernel)
theorem st_13 : ∀ w ∈ stw (Ss.getD 13 ("", 0, "")) (zt 13), w ∈ FLn := fl_mk 368 9 (by decide +kernel)
theorem st_14 : ∀ w ∈ stw (Ss.getD 14 ("", 0, "")) (zt 14), w ∈ FLn := fl_mk 390 8 (by decide +kernel)
theorem st_15 : ∀ w ∈ stw (Ss.getD 15 ("", 0, "")) (zt 15), w ∈ FLn := fl_mk 412 10 (by decide +kernel)
theorem st_16 : ∀ w ∈ stw (Ss.getD 16 ("", 0, "")) (zt 16), w ∈ FLn := fl_mk 205 8 (by decide +kernel)
theorem st_17 : ∀ w ∈ stw (Ss.getD 17 ("", 0, "")) (zt 17), w ∈ FLn := fl_mk 215 8 (by decide +kernel)
theorem st_18 : ∀ w ∈ stw (Ss.getD 18 ("", 0, "")) (zt 18), w ∈ FLn := fl_mk 226 7 (by decide +kernel)
theorem st_19 : ∀ w ∈ stw (Ss.getD 19 ("", 0, "")) (zt 19), w ∈ FLn := fl_mk 237 8 (by decide +kernel)
theorem st_20 : ∀ w ∈ stw (Ss.getD 20 ("", 0, "")) (zt 20), w ∈ FLn := fl_mk 250 6 (by decide +kernel)
theorem st_21 : ∀ w ∈ stw (Ss.getD 21 ("", 0, "")) (zt 21), w ∈ FLn := fl_mk 262 8 (by decide +kernel)
theorem st_22 : ∀ w ∈ stw (Ss.getD 22 ("", 0, "")) (zt 22), w ∈ FLn := fl_mk 277 6 (by decide +kernel)
theorem st_23 : ∀ w ∈ stw (Ss.getD 23 ("", 0, "")) (zt 23), w ∈ FLn := fl_mk 291 8 (by decide +kernel)
theorem st_24 : ∀ w ∈ stw (Ss.getD 24 ("", 0, "")) (zt 24), w ∈ FLn := fl_mk 308 8 (by decide +kernel)
theorem st_25 : ∀ w ∈ stw (Ss.getD 25 ("", 0, "")) (zt 25), w ∈ FLn := fl_mk 326 8 (by decide +kernel)
theorem st_26 : ∀ w ∈ stw (Ss.getD 26 ("", 0, "")) (zt 26), w ∈ FLn := fl_mk 345 11 (by decide +kernel)
theorem st_27 : ∀ w ∈ stw (Ss.getD 27 ("", 0, "")) (zt 27), w ∈ FLn := fl_mk 368 9 (by decide +kernel)
theorem st_28 : ∀ w ∈ stw (Ss.getD 28 ("", 0, "")) (zt 28), w ∈ FLn := fl_mk 390 8 (by decide +kernel)
theorem st_29 : ∀ w ∈ stw (Ss.getD 29 ("", 0, "")) (zt 29), w ∈ FLn := fl_mk 412 10 (by decide +kernel)
theorem st_ok : ∀ i, i < 30 → ∀ w ∈ stw (Ss.getD i ("", 0, "")) (zt i), w ∈ FLn := by
  intro i hi
  match i, hi with
  | 0, _ => exact st_0
  | 1, _ => exact st_1
  | 2, _ => exact st_2
  | 3, _ => exact st_3
  | 4, _ => exact st_4
  | 5, _ => exact st_5
  | 6, _ => exact st_6
  | 7, _ => exact st_7
  | 8, _ => exact st_8
  | 9, _ => exact st_9
  | 10, _ => exact st_10
  | 11, _ => exact st_11
  | 12, _ => exact st_12
  | 13, _ => exact st_13
  | 14, _ => exact st_14
  | 15, _ => exact st_15
  | 16, _ => exact st_16
  | 17, _ => exact st_17
  | 18, _ => exact st_18
  | 19, _ => exact st_19
  | 20, _ => exact st_20
  | 21, _ => exact st_21
  | 22, _ => exact st_22
  | 23, _ => exact st_23
  | 24, _ => exact st_24
  | 25, _ => exact st_25
  | 26, _ => exact st_26
  | 27, _ => exact st_27
  | 28, _ => exact st_28
  | 29, _ => exact st_29
  | i + 30, h => exact absurd h (by omega)
theorem sr_ok : ∀ q ∈ Ss, Cond.stringRef q.1 q.2.1 q.2.2 ∈ lw_tbl := by decide +kernel
