/-! ===== what every invocation knows ===== -/
def lw_good : List Cond := lw_tbl.filter goodWord
theorem mg {w : Cond} (h : w ∈ lw_tbl) (hg : goodWord w = true) : w ∈ lw_good := List.mem_filter.mpr ⟨h, hg⟩
/-- links to private members of nest mates: field links, method links -/
abbrev NF : Type := String × Nat × String × String × String × String
abbrev NM : Type := String × Nat × MethodName × String
def nwF (q : NF) : Cond := .fieldLinkNest q.1 q.2.1 q.2.2.1 q.2.2.2.1 q.2.2.2.2.1 q.2.2.2.2.2
def nwM (q : NM) : Cond := .methodLinkNest q.1 q.2.1 q.2.2.1 q.2.2.2
abbrev SX : Type := String × Nat × String
/-- the claim's classes by number and slot; the heap at the law's start; the addresses of text constants; of Wall's FADES -/
abbrev ZX : Type := (Nat → Nat) × Nat × (Nat → Option Nat)
abbrev GX : Type := va_G × Heap × ZX
def Kx (NFs : List NF) (NMs : List NM) (Ss : List SX) (G : GX) (U : State) : Prop :=
  va_K G.1 vwCl [] U ∧ (∀ q ∈ NFs, va_Nw (nwF q) U) ∧ (∀ q ∈ NMs, va_Nw (nwM q) U) ∧ (va_AO "WallHouse$Wall" U ∧ va_AO "WallHouse$Drawing" U ∧ va_AO "WallHouseModel$Drawing" U ∧ va_AO "WallHouseModel$Right" U ∧ va_Nw (.castable "[J" "java/lang/Cloneable") U) ∧
  (∀ (i : Nat) (q : SX), Ss[i]? = some q → vk_R q.1 q.2.1 q.2.2 (G.2.2.1 i) U) ∧ va_Z "WallHouse$Wall" "FADES" "[I" (.ref G.2.2.2.1) (fun a => G.2.1.size ≤ a) U G.2.1 ∧ va_Z "java/lang/String" "COMPACT_STRINGS" "Z" (.int 1) (fun a => G.2.1.size ≤ a) U G.2.1 ∧
  va_Z "jdk/internal/util/Preconditions" "SIOOBE_FORMATTER" "Ljava/util/function/BiFunction;" (va_rf (G.2.2.2.2 0)) (fun a => G.2.1.size ≤ a) U G.2.1 ∧ va_Z "java/lang/Throwable" "UNASSIGNED_STACK" "[Ljava/lang/StackTraceElement;" (va_rf (G.2.2.2.2 1)) (fun a => G.2.1.size ≤ a) U G.2.1 ∧ va_Z "java/lang/Throwable" "SUPPRESSED_SENTINEL" "Ljava/util/List;" (va_rf (G.2.2.2.2 2)) (fun a => G.2.1.size ≤ a) U G.2.1
theorem Kx.warm {NFs : List NF} {NMs : List NM} {Ss : List SX} {G : GX} {s U : State} (h : Kx NFs NMs Ss G s) (hW : s.WarmedH U.vm) : Kx NFs NMs Ss G U := by
  obtain ⟨h1, h2, h3, ⟨h4, h5, h6, h7, h7b⟩, h8, h9, h10, h11, h12, h13⟩ := h
  have hv := hW.alike
  exact ⟨h1.moved hv, fun q hq => va_Nw.warmF hW (h2 q hq), fun q hq => va_Nw.warmM hW (h3 q hq), ⟨h4.moved hv, h5.moved hv, h6.moved hv, h7.moved hv, va_Nw.warmC hW h7b⟩, fun i q hq => vk_R.warm hW (h8 i q hq), h9.moved hv, h10.moved hv, h11.moved hv, h12.moved hv, h13.moved hv⟩
/-- the pictured heap is the machine's -/
def Rp (G : GX) (U : State) (h : AH) (H : Heap) : Prop := H.size = h.2.1 ∧ h.1 = G.2.1.size ∧ (∀ a, a < h.1 → H[a]? = G.2.1[a]?) ∧ ∀ a e, h.2.2.2 a = some e → Ra G.1 U H a e
theorem Rp.moved {G : GX} {u U : State} {h : AH} {H : Heap} (hvm : u.vm.Alike U.vm) (R : Rp G u h H) : Rp G U h H := ⟨R.1, R.2.1, R.2.2.1, fun a e he => (R.2.2.2 a e he).moved hvm⟩
theorem Rp.set {G : GX} {U : State} {h : AH} {H H1 : Heap} {a : Nat} {e : AE} (R : Rp G U h H) (hb : h.1 ≤ a) (hz : H1.size = H.size) (hq : ∀ q : Nat, q ≠ a → H1[q]? = H[q]?) (he : Ra G.1 U H1 a e) : Rp G U (hS h a e) H1 := by
  refine ⟨hz.trans R.1, R.2.1, fun q hq2 => ?_, fun q e2 h2 => ?_⟩
  · have hqa : q ≠ a := by intro e3; subst e3; exact absurd hq2 (Nat.not_lt.mpr hb)
    rw [hq q hqa]; exact R.2.2.1 q hq2
  · by_cases hqa : q = a
    · subst hqa
      have : e2 = e := by simpa [hS] using h2.symm
      subst this; exact he
    · have h3 : h.2.2.2 q = some e2 := by simpa [hS, hqa] using h2
      exact (R.2.2.2 q e2 h3).kept (hq q hqa)
theorem Rp.push {G : GX} {U : State} {h : AH} {H H1 : Heap} {n : Nat} {e : AE} (R : Rp G U h H) (hbn : h.1 ≤ h.2.1) (hz : H1.size = H.size + 1) (hq : ∀ q : Nat, q < H.size → H1[q]? = H[q]?) (he : Ra G.1 U H1 h.2.1 e) : Rp G U (hN h n e) H1 := by
  refine ⟨by rw [hz, R.1]; rfl, R.2.1, fun q hq2 => ?_, fun q e2 h2 => ?_⟩
  · have h1 : q < h.1 := hq2
    rw [hq q (by rw [R.1]; omega)]; exact R.2.2.1 q hq2
  · by_cases hqa : q = h.2.1
    · subst hqa
      have : e2 = e := by simpa [hN] using h2.symm
      subst this; exact he
    · have h3 : h.2.2.2 q = some e2 := by simpa [hN, hqa] using h2
      exact (R.2.2.2 q e2 h3).kept (hq q (R.2.2.2 q e2 h3).lt)
def Le (h0 h : AH) : Prop := h.1 = h0.1 ∧ h0.2.1 ≤ h.2.1 ∧ h0.2.2.1 ≤ h.2.2.1 ∧ h.2.1 ≤ h0.1 + 601024 ∧ h.2.2.1 ≤ 7293034 ∧ h0.1 ≤ h0.2.1
theorem Le.trans {a b c : AH} (h1 : Le a b) (h2 : Le b c) : Le a c := by
  obtain ⟨x1, x2, x3, x4, x5, x6⟩ := h1
  obtain ⟨y1, y2, y3, y4, y5, y6⟩ := h2
  refine ⟨y1.trans x1, by omega, by omega, by omega, by omega, x6⟩
theorem Le.self {a b : AH} (h1 : Le a b) : Le b b := by
  obtain ⟨x1, x2, x3, x4, x5, x6⟩ := h1
  exact ⟨rfl, Nat.le_refl _, Nat.le_refl _, by rw [x1]; exact x4, x5, by rw [x1]; omega⟩
theorem Le.set {a b : AH} (h1 : Le a b) (q : Nat) (e : AE) : Le a (hS b q e) := h1
/-! ===== outcomes, ends ===== -/
abbrev OC : Type := Option Value ⊕ Nat
def oc : OC → Outcome
  | .inl v => .returned v
  | .inr a => .threw a
abbrev MX : Type := Program × Launch × Env × Room × State × MethodId × Array Value × List Frame × Method × Code
abbrev xS (X : MX) : State := X.2.2.2.2.1
abbrev xC (X : MX) : Code := X.2.2.2.2.2.2.2.2.2
abbrev LV : Type := List (Nat × Value)
def PQ (G : GX) (h0 : AH) (Q : OC → AH → Prop) (st : State) (o : Outcome) (t : State) : Prop := ∃ (o' : OC) (h1 : AH), o = oc o' ∧ st.WarmedH t.vm ∧ (∃ L : List Loc, st.sameButNew ({ t with vm := st.vm } : State) L (h1.2.1 - h0.2.1) (h1.2.2.1 - h0.2.2.1) ∧ ∀ q ∈ L, h0.1 ≤ q.base) ∧ Rp G t h1 t.heap ∧ Le h0 h1 ∧ Q o' h1
def ZQ (below : List Frame) (s : State) (G : GX) (h0 : AH) (Q : OC → AH → Prop) : State → Prop := fun t => ∃ o : Outcome, t.status = .running ∧ Ended t below o ∧ PQ G h0 Q s o t
/-- the machine, in the invocation X, at pc with these values, goes to an end with Q -/
def V (X : MX) (G : GX) (h0 : AH) (Q : OC → AH → Prop) (pc : Nat) (lv : LV) (st : List Value) (h : AH) : Prop :=
  ∀ (H : Heap) (locs : List Loc) (ls : Array Slot), Rp G (xS X) h H → Le h0 h → (∀ q ∈ locs, h0.1 ≤ q.base) → lv_has ls (xC X).maxLocals lv →
    W X.1 X.2.1 X.2.2.1 X.2.2.2.1 X.2.2.2.2.1 X.2.2.2.2.2.1 X.2.2.2.2.2.2.1 X.2.2.2.2.2.2.2.1 X.2.2.2.2.2.2.2.2.1 X.2.2.2.2.2.2.2.2.2 H locs (h.2.1 - h0.2.1) (h.2.2.1 - h0.2.2.1) (ZQ X.2.2.2.2.2.2.2.1 (xS X) G h0 Q) (F0 X.2.2.2.2.2.1 pc ls st)
def NFs : List NF := [("WallHouseModel", 278, "WallHouseModel$Stop", "kind", "I", "WallHouseModel"), ("WallHouseModel", 284, "WallHouseModel$Stop", "place", "I", "WallHouseModel"), ("WallHouseModel", 384, "WallHouseModel$Drawing", "steps", "I", "WallHouseModel"), ("WallHouseModel", 440, "WallHouseModel$Drawing", "items", "I", "WallHouseModel"), ("WallHouseModel", 387, "WallHouseModel$Drawing", "kind", "[I", "WallHouseModel"), ("WallHouseModel", 413, "WallHouseModel$Drawing", "tint", "[I", "WallHouseModel"), ("WallHouseModel", 419, "WallHouseModel$Drawing", "var", "[I", "WallHouseModel"), ("WallHouseModel", 426, "WallHouseModel$Drawing", "how", "[I", "WallHouseModel"), ("WallHouseModel", 410, "WallHouseModel$Drawing", "end", "[I", "WallHouseModel"), ("WallHouseModel", 395, "WallHouseModel$Drawing", "length", "[I", "WallHouseModel"), ("WallHouseModel", 438, "WallHouseModel$Drawing", "from", "[I", "WallHouseModel"), ("WallHouseModel", 446, "WallHouseModel$Drawing", "to", "[I", "WallHouseModel"), ("WallHouseModel", 484, "WallHouseModel$Drawing", "sign", "[I", "WallHouseModel"), ("WallHouseModel", 487, "WallHouseModel$Drawing", "value", "[I", "WallHouseModel"), ("WallHouseModel", 393, "WallHouseModel$Drawing", "word", "[J", "WallHouseModel"), ("WallHouseModel", 641, "WallHouseModel$Right", "lines", "I", "WallHouseModel"), ("WallHouseModel", 649, "WallHouseModel$Right", "who", "[I", "WallHouseModel"), ("WallHouseModel", 652, "WallHouseModel$Right", "part", "[I", "WallHouseModel")]
def NMs : List NM := [("WallHouse", 18, ⟨"WallHouse$Painters", "<init>", "()V"⟩, "WallHouse"), ("WallHouse", 54, ⟨"WallHouse$Tokens", "<init>", "()V"⟩, "WallHouse"), ("WallHouseModel", 89, ⟨"WallHouseModel$Drawing", "<init>", "()V"⟩, "WallHouseModel"), ("WallHouseModel", 224, ⟨"WallHouseModel$Right", "<init>", "()V"⟩, "WallHouseModel")]
def Ss : List SX := [("WallHouse$Tokens", 64, "[]();<>=+-*/,%"), ("WallHouseModel", 367, "rect"), ("WallHouseModel", 369, "disc"), ("WallHouseModel", 371, "say"), ("WallHouseModel", 373, "each"), ("WallHouseModel", 379, "if"), ("WallHouse$Tokens", 80, "rect disc say each if from to i j k m n wide high painter owner town school rest "), ("WallHouseModel", 463, "wide"), ("WallHouseModel", 464, "high"), ("WallHouseModel", 375, "from"), ("WallHouseModel", 377, "to"), ("WallHouseModel", 644, "rest"), ("WallHouseModel", 634, "painter"), ("WallHouseModel", 636, "owner"), ("WallHouseModel", 637, "town"), ("WallHouseModel", 639, "school"), ("WallHouseModel", 367, "rect"), ("WallHouseModel", 369, "disc"), ("WallHouseModel", 371, "say"), ("WallHouseModel", 373, "each"), ("WallHouseModel", 379, "if"), ("WallHouseModel", 375, "from"), ("WallHouseModel", 377, "to"), ("WallHouseModel", 463, "wide"), ("WallHouseModel", 464, "high"), ("WallHouseModel", 644, "rest"), ("WallHouseModel", 634, "painter"), ("WallHouseModel", 636, "owner"), ("WallHouseModel", 637, "town"), ("WallHouseModel", 639, "school")]
abbrev K1 (G : GX) (U : State) : Prop := Kx NFs NMs Ss G U
