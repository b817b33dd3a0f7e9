/-! ===== the pictured heap: base, next address, slots used, cells ===== -/
abbrev AE : Type := (Nat × vp_A) ⊕ (Nat × (Nat → Value))
abbrev AH : Type := Nat × Nat × Nat × (Nat → Option AE)
/-- kinds of arrays -/
def aT : Nat → FieldType
  | 0 => .int
  | 1 => .byte
  | 2 => .boolean
  | 3 => .short
  | 4 => .long
  | 5 => .object "WallHouse$Wall"
  | 6 => .object "WallHouse$Drawing"
  | 7 => .object "WallHouseModel$Drawing"
  | 8 => .object "WallHouseModel$Right"
  | 21 => .byte
  | _ => .int
def aV (x : vp_A) (j : Nat) : Value := match x.2 with
  | .inl f => .int (f j)
  | .inr (.inl f) => .long (f j)
  | .inr (.inr (.inl f)) => .float (f j)
  | .inr (.inr (.inr (.inl f))) => .double (f j)
  | .inr (.inr (.inr (.inr f))) => va_rf (f j)
def aK (U : State) (cell : Cell) (t : Nat) : Prop := U.isArrayOf cell (aT t) ∧ (∀ C, aT t = .object C → ∃ (k : Class) (comp : ClassId), U.vm.classes[cell.cls]? = some k ∧ k.kind = .array comp (.object C) ∧ U.vm.findClass C = some comp) ∧ (t = 4 → U.vm.findClass "[J" = some cell.cls)
theorem aK.moved {u U : State} {cell : Cell} {t : Nat} (hvm : u.vm.Alike U.vm) (h : aK u cell t) : aK U cell t := by
  refine ⟨State.isArrayOf_alike hvm h.1, fun C hC => ?_, fun h4 => by rw [hvm.findClass]; exact h.2.2 h4⟩
  obtain ⟨k, comp, h1, h2, h3⟩ := h.2.1 C hC
  obtain ⟨k', hk', he⟩ := hvm.2.2 _ _ h1
  exact ⟨k', comp, hk', by rw [he]; exact h2, by rw [hvm.findClass]; exact h3⟩
/-- a text constant: its bytes' array and its coder -/
def strAt (U : State) (H : Heap) (a : Nat) (F : Nat → Value) : Prop := ∃ cell : Cell, H[a]? = some cell ∧ cell.vm.isStatics = false ∧ cell.vm ≠ .unknown ∧ U.vm.findClass "java/lang/String" = some cell.cls ∧ (∃ cf k fi f, U.fieldFound? "java/lang/String" "value" "[B" = some (cf, k, fi, f) ∧ f.isStatic = false ∧ cell.slots[f.slot]? = some (F 0)) ∧ ∃ cf k fi f, U.fieldFound? "java/lang/String" "coder" "B" = some (cf, k, fi, f) ∧ f.isStatic = false ∧ cell.slots[f.slot]? = some (F 1)
theorem strAt.moved {u U : State} {H : Heap} {a : Nat} {F : Nat → Value} (hvm : u.vm.Alike U.vm) (h : strAt u H a F) : strAt U H a F := by
  obtain ⟨cell, h1, h2, h3, h4, ⟨c1, k1, i1, f1, e1, e2, e3⟩, c2, k2, i2, f2, d1, d2, d3⟩ := h
  obtain ⟨k1', hi1, -⟩ := State.fieldFound?_setVm hvm e1
  obtain ⟨k2', hi2, -⟩ := State.fieldFound?_setVm hvm d1
  exact ⟨cell, h1, h2, h3, by rw [hvm.findClass]; exact h4, ⟨c1, k1', i1, f1, hi1, e2, e3⟩, c2, k2', i2, f2, hi2, d2, d3⟩
def Ra (D : va_G) (U : State) (H : Heap) (a : Nat) (e : AE) : Prop := match e with
  | .inl q => ∃ cell : Cell, H[a]? = some cell ∧ aK U cell q.1 ∧ cell.vm ≠ .unknown ∧ cell.slots.size = q.2.1 ∧ (∀ j, j < q.2.1 → cell.slots[j]? = some (aV q.2 j)) ∧ (q.1 < 20 → cell = arrV cell.cls q.2.1 (aV q.2))
  | .inr o => (∃ r : vw_C, vwCl[o.1]? = some r ∧ t_OB a (D.1 o.1) r.2.2 (D.2 o.1) H o.2) ∨ (o.1 = 99 ∧ strAt U H a o.2)
theorem Ra.kept {D : va_G} {U : State} {H H1 : Heap} {a : Nat} {e : AE} (h : Ra D U H a e) (hq : H1[a]? = H[a]?) : Ra D U H1 a e := by
  cases e with
  | inl q =>
    obtain ⟨cell, h1, h2⟩ := h
    exact ⟨cell, by rw [hq]; exact h1, h2⟩
  | inr o =>
    rcases h with ⟨r, h1, h2⟩ | ⟨h1, cell, h2, h3⟩
    · exact Or.inl ⟨r, h1, h2.kept hq⟩
    · exact Or.inr ⟨h1, cell, by rw [hq]; exact h2, h3⟩
theorem Ra.moved {D : va_G} {u U : State} {H : Heap} {a : Nat} {e : AE} (hvm : u.vm.Alike U.vm) (h : Ra D u H a e) : Ra D U H a e := by
  cases e with
  | inl q =>
    obtain ⟨cell, h1, h2, h3⟩ := h
    exact ⟨cell, h1, h2.moved hvm, h3⟩
  | inr o =>
    rcases h with ⟨r, h1, h2⟩ | ⟨h1, h2⟩
    · exact Or.inl ⟨r, h1, h2⟩
    · exact Or.inr ⟨h1, h2.moved hvm⟩
theorem Ra.lt {D : va_G} {U : State} {H : Heap} {a : Nat} {e : AE} (h : Ra D U H a e) : a < H.size := by
  cases e with
  | inl q =>
    obtain ⟨cell, h1, h2⟩ := h
    exact (Array.getElem?_eq_some_iff.mp h1).1
  | inr o =>
    rcases h with ⟨r, h1, cell, h2, h3⟩ | ⟨h1, cell, h2, h3⟩
    · exact (Array.getElem?_eq_some_iff.mp h2).1
    · exact (Array.getElem?_eq_some_iff.mp h2).1
/-! ===== operations ===== -/
def hM (h : AH) (a : Nat) : Option AE := h.2.2.2 a
def hS (h : AH) (a : Nat) (e : AE) : AH := (h.1, h.2.1, h.2.2.1, fun q => if q = a then some e else h.2.2.2 q)
def hN (h : AH) (n : Nat) (e : AE) : AH := (h.1, h.2.1 + 1, h.2.2.1 + n, fun q => if q = h.2.1 then some e else h.2.2.2 q)
def hR (h : AH) (n : Nat) : Prop := h.2.1 + 1 ≤ h.1 + 601024 ∧ h.2.2.1 + n ≤ 7293034
/-- a field -/
def gV (ci : Nat) (h : AH) (a k : Nat) : Option Value := match hM h a with
  | some (.inr o) => if o.1 = ci then some (o.2 k) else none
  | _ => none
def vI : Value → Option Int32
  | .int x => some x
  | _ => none
def vL : Value → Option Int64
  | .long x => some x
  | _ => none
def vA : Value → Option Nat
  | .ref x => some x
  | _ => none
def gI (ci : Nat) (h : AH) (a k : Nat) : Option Int32 := (gV ci h a k).bind vI
def gL (ci : Nat) (h : AH) (a k : Nat) : Option Int64 := (gV ci h a k).bind vL
def gA (ci : Nat) (h : AH) (a k : Nat) : Option Nat := (gV ci h a k).bind vA
def pV (ci : Nat) (h : AH) (a k : Nat) (v : Value) : Option AH := match hM h a with
  | some (.inr o) => if o.1 = ci ∧ h.1 ≤ a then some (hS h a (.inr (ci, updV o.2 k v))) else none
  | _ => none
def pI (ci : Nat) (h : AH) (a k : Nat) (x : Int32) : Option AH := pV ci h a k (.int x)
def pZ (ci : Nat) (h : AH) (a k : Nat) (x : Int32) : Option AH := if x = 0 ∨ x = 1 then pV ci h a k (.int x) else none
def pL (ci : Nat) (h : AH) (a k : Nat) (x : Int64) : Option AH := pV ci h a k (.long x)
def pQ (ci : Nat) (h : AH) (a k : Nat) (x : Option Nat) : Option AH := pV ci h a k (va_rf x)
def isO (ci : Nat) (h : AH) (a : Nat) : Bool := match hM h a with
  | some (.inr o) => o.1 == ci
  | _ => false
/-- places of arrays -/
def iN (i : Int32) (n : Nat) : Option Nat := if i < 0 ∨ n ≤ i.toNatClampNeg then none else some i.toNatClampNeg
def aI (t : Nat) (h : AH) (a : Nat) (i : Int32) : Option Int32 := match hM h a with
  | some (.inl (t', n, .inl f)) => if t' = t then (iN i n).map f else none
  | _ => none
def aL (h : AH) (a : Nat) (i : Int32) : Option Int64 := match hM h a with
  | some (.inl (t', n, .inr (.inl f))) => if t' = 4 then (iN i n).map f else none
  | _ => none
def aQ (t : Nat) (h : AH) (a : Nat) (i : Int32) : Option (Option Nat) := match hM h a with
  | some (.inl (t', n, .inr (.inr (.inr (.inr f))))) => if t' = t then (iN i n).map f else none
  | _ => none
def aN (h : AH) (a : Nat) : Option Int32 := match hM h a with
  | some (.inl q) => some (Int32.ofNat q.2.1)
  | _ => none
/-- what a kind of array keeps of a number -/
def aW (t : Nat) (x : Int32) : Int32 := vp_nar (aT t) x
def sI (t : Nat) (h : AH) (a : Nat) (i : Int32) (x : Int32) : Option AH := match hM h a with
  | some (.inl (t', n, .inl f)) => if t' = t ∧ h.1 ≤ a then (iN i n).map (fun j => hS h a (.inl (t, n, .inl (upd f j (aW t x))))) else none
  | _ => none
def sL (h : AH) (a : Nat) (i : Int32) (x : Int64) : Option AH := match hM h a with
  | some (.inl (t', n, .inr (.inl f))) => if t' = 4 ∧ h.1 ≤ a then (iN i n).map (fun j => hS h a (.inl (4, n, .inr (.inl (vp_updL f j x))))) else none
  | _ => none
def sQ (t ci : Nat) (h : AH) (a : Nat) (i : Int32) (x : Nat) : Option AH := match hM h a with
  | some (.inl (t', n, .inr (.inr (.inr (.inr f))))) => if t' = t ∧ h.1 ≤ a ∧ isO ci h x = true then (iN i n).map (fun j => hS h a (.inl (t, n, .inr (.inr (.inr (.inr (va_up f j (some x)))))))) else none
  | _ => none
/-- new cells: the address is the next one -/
def nwO (ci N : Nat) (F : Nat → Value) (h : AH) : Option (Nat × AH) := if h.2.1 + 1 ≤ h.1 + 601024 ∧ h.2.2.1 + N ≤ 7293034 then some (h.2.1, hN h N (.inr (ci, F))) else none
def nwA (t : Nat) (n : Int32) (h : AH) : Option (Nat × AH) := if n < 0 ∨ 100000 < n.toNatClampNeg then none else if h.2.1 + 1 ≤ h.1 + 601024 ∧ h.2.2.1 + n.toNatClampNeg ≤ 7293034 then
    some (h.2.1, hN h n.toNatClampNeg (.inl (t, n.toNatClampNeg, if t ≤ 3 then .inl (fun _ => 0) else if t = 4 then .inr (.inl (fun _ => 0)) else .inr (.inr (.inr (.inr (fun _ => none))))))) else none
def ckZ (x : Int32) : Option Int32 := if x = 0 ∨ x = 1 then some x else none
def ckD (x : Int32) : Option Int32 := if x = 0 then none else some x
/-- System.arraycopy of numbers, of longs -/
def cpI (t : Nat) (h : AH) (a : Nat) (i : Int32) (b : Nat) (j n : Int32) : Option AH := match hM h a, hM h b with
  | some (.inl (t1, n1, .inl f)), some (.inl (t2, n2, .inl g)) => if t1 = t ∧ t2 = t ∧ h.1 ≤ b ∧ ¬ i < 0 ∧ ¬ j < 0 ∧ ¬ n < 0 ∧ i.toNatClampNeg + n.toNatClampNeg ≤ n1 ∧ j.toNatClampNeg + n.toNatClampNeg ≤ n2 ∧ (List.range n.toNatClampNeg).all (fun z => fits (aT t) (.int (f (i.toNatClampNeg + z)))) = true then
      some (hS h b (.inl (t, n2, .inl (va_cpy f g i.toNatClampNeg j.toNatClampNeg n.toNatClampNeg)))) else none
  | _, _ => none
def cpL (h : AH) (a : Nat) (i : Int32) (b : Nat) (j n : Int32) : Option AH := match hM h a, hM h b with
  | some (.inl (t1, n1, .inr (.inl f))), some (.inl (t2, n2, .inr (.inl g))) => if t1 = 4 ∧ t2 = 4 ∧ h.1 ≤ b ∧ ¬ i < 0 ∧ ¬ j < 0 ∧ ¬ n < 0 ∧ i.toNatClampNeg + n.toNatClampNeg ≤ n1 ∧ j.toNatClampNeg + n.toNatClampNeg ≤ n2 then
      some (hS h b (.inl (4, n2, .inr (.inl (va_cpy f g i.toNatClampNeg j.toNatClampNeg n.toNatClampNeg))))) else none
  | _, _ => none
/-- a copy of an array of longs -/
def clL (h : AH) (a : Nat) : Option (Nat × AH) := match hM h a with
  | some (.inl (t, n, .inr (.inl f))) => if t = 4 ∧ h.2.1 + 1 ≤ h.1 + 601024 ∧ h.2.2.1 + n ≤ 7293034 then some (h.2.1, hN h n (.inl (4, n, .inr (.inl f)))) else none
  | _ => none
