/-! ===== contracts and calls ===== -/
def capR (fr lo : Nat) (h : AH) : Room := { frames := fr, cells := h.1 + 601024 - h.2.1, slots := 7293034 - h.2.2.1, locals := lo }
/-- y, called with As over the heap h, ends as Q says -/
def Ct (l : Launch) (G : GX) (y : MethodName) (fr lo : Nat) (As : List Value) (h : AH) (Q : OC → AH → Prop) : Prop :=
  MetFree l y (headSpec lw_good (capR fr lo h)) (fun a U => a = As.toArray ∧ K1 G U ∧ Rp G U h U.heap ∧ Le h h) (fun _ _ _ _ _ => True) (fun _ st o t => PQ G h Q st o t)
/-- the launch, the method's name and its handlers -/
def Cy (X : MX) (l : Launch) (nm : String) (hs : List (Nat × Nat × Nat × Nat)) : Prop := X.2.1 = l ∧ X.2.2.2.2.2.2.2.2.1.name = nm ∧ (xC X).exceptionTable.toList.map (fun h => (h.startPc, h.endPc, h.handlerPc, h.catchType)) = hs
theorem Ct_of {l : Launch} {G : GX} {y : MethodName} {own : String} {cc : ByteArray} {nL : Nat} {ret : Option FieldType} {fr lo : Nat} {As : List Value} {h : AH} {Q : OC → AH → Prop} (hy : plainName y.cls = true) (hown : y.cls = own) (hcode : Cond.code y cc nL ret ∈ lw_good) (hlen : (lg_sl As).length ≤ nL)
    (k : ∀ X : MX, Cy X l y.name [] → Cx X G own cc nL ret fr lo h → V X G h Q 0 (lv_args 0 As) [] h) : Ct l G y fr lo As h Q := by
  refine MetFree.of_bodyS (code := cc) (maxLocals := nL) (ret := ret) hy ?_ ?_
  · intro args s m hb hn
    obtain ⟨meth, c, h1, h2, h3, h4, h5, h6, -, -⟩ := Cond.code_spec hn (atoms_spec (ws := lw_good) hb _ hcode)
    exact ⟨meth, c, h1, h2, h3, h4, h5, h6⟩
  · intro p e s m args below meth c s₁ B hml hP _
    obtain ⟨rfl, hK, hR, hL⟩ := hP
    have hh0 : s₁.heap = s.heap := by rw [B.state]; rfl
    have hts := atoms_spec (ws := lw_good) B.pre
    have hown' : s.vm.findClass own = some m.cls := by rw [← hown]; exact findClass_of_methodNamed B.named
    have hnm : meth.name = y.name := (name_of_methodNamed B.named B.method).1
    have hex : c.exceptionTable.toList.map (fun h => (h.startPc, h.endPc, h.handlerPc, h.catchType)) = [] := by
      have := B.noHandlers (hts _ hcode)
      have h2 : c.exceptionTable.toList = [] := by simpa using this
      rw [h2]; rfl
    have X₀ : Stand p l e (headSpec lw_good (capR fr lo h)).room s m As.toArray below meth c s₁ [] 0 0 := Stand.of_body B
    have hl := lv_entry As (n := nL) hlen
    have K := k (p, l, e, (headSpec lw_good (capR fr lo h)).room, s, m, As.toArray, below, meth, c) ⟨rfl, hnm, hex⟩ ⟨B.exec, B.bytes, hml, hown', hts, B.returns, B.notSynchronized, hK, rfl, rfl, rfl, rfl⟩ s.heap [] _ hR hL (fun q hq => by cases hq) (by rw [← hml] at hl; exact hl)
    have K' : W p l e (headSpec lw_good (capR fr lo h)).room s m As.toArray below meth c s.heap [] 0 0 (ZQ below s G h Q) (entryFrame m As.toArray nL) := by
      rw [lg_entry_eq]
      have e1 : h.2.1 - h.2.1 = 0 := Nat.sub_self _
      have e2 : h.2.2.1 - h.2.2.1 = 0 := Nat.sub_self _
      have K2 := K
      rw [e1, e2] at K2
      rw [hml] at K2
      exact K2
    obtain ⟨t, a1, o, b1, b2, b3⟩ := K' s₁ hh0 X₀
    exact ⟨t, o, a1, b1, b2, b3⟩
/-- the same for a method with handlers -/
theorem Ct_ofH {l : Launch} {G : GX} {y : MethodName} {own : String} {cc : ByteArray} {nL : Nat} {ret : Option FieldType} {fr lo : Nat} {As : List Value} {h : AH} {Q : OC → AH → Prop} {hs : List (Nat × Nat × Nat × Nat)} (hy : plainName y.cls = true) (hown : y.cls = own) (hcode : Cond.codeWith y cc nL ret hs ∈ lw_good) (hlen : (lg_sl As).length ≤ nL)
    (k : ∀ X : MX, Cy X l y.name hs → Cx X G own cc nL ret fr lo h → V X G h Q 0 (lv_args 0 As) [] h) : Ct l G y fr lo As h Q := by
  refine MetFree.of_bodyS (code := cc) (maxLocals := nL) (ret := ret) hy ?_ ?_
  · intro args s m hb hn
    obtain ⟨m', meth, c, h0, h1, h2, h3, h4, -, h5, h6, -⟩ := Cond.codeWith_spec (atoms_spec (ws := lw_good) hb _ hcode)
    cases hn.symm.trans h0
    exact ⟨meth, c, h1, h2, h3, h4, h5, h6⟩
  · intro p e s m args below meth c s₁ B hml hP _
    obtain ⟨rfl, hK, hR, hL⟩ := hP
    have hh0 : s₁.heap = s.heap := by rw [B.state]; rfl
    have hts := atoms_spec (ws := lw_good) B.pre
    have hown' : s.vm.findClass own = some m.cls := by rw [← hown]; exact findClass_of_methodNamed B.named
    have hnm : meth.name = y.name := (name_of_methodNamed B.named B.method).1
    have hex : c.exceptionTable.toList.map (fun h => (h.startPc, h.endPc, h.handlerPc, h.catchType)) = hs := by
      obtain ⟨m', meth', c', h0, h1, h2, -, -, h5, -⟩ := Cond.codeWith_spec (hts _ hcode)
      cases B.named.symm.trans h0
      cases B.method.symm.trans h1
      cases (Stand.of_body B).code.symm.trans h2
      exact h5
    have X₀ : Stand p l e (headSpec lw_good (capR fr lo h)).room s m As.toArray below meth c s₁ [] 0 0 := Stand.of_body B
    have hl := lv_entry As (n := nL) hlen
    have K := k (p, l, e, (headSpec lw_good (capR fr lo h)).room, s, m, As.toArray, below, meth, c) ⟨rfl, hnm, hex⟩ ⟨B.exec, B.bytes, hml, hown', hts, B.returns, B.notSynchronized, hK, rfl, rfl, rfl, rfl⟩ s.heap [] _ hR hL (fun q hq => by cases hq) (by rw [← hml] at hl; exact hl)
    have K' : W p l e (headSpec lw_good (capR fr lo h)).room s m As.toArray below meth c s.heap [] 0 0 (ZQ below s G h Q) (entryFrame m As.toArray nL) := by
      rw [lg_entry_eq]
      have e1 : h.2.1 - h.2.1 = 0 := Nat.sub_self _
      have e2 : h.2.2.1 - h.2.2.1 = 0 := Nat.sub_self _
      have K2 := K
      rw [e1, e2] at K2
      rw [hml] at K2
      exact K2
    obtain ⟨t, a1, o, b1, b2, b3⟩ := K' s₁ hh0 X₀
    exact ⟨t, o, a1, b1, b2, b3⟩
/-- where a call leaves the machine: behind the call, or with a note that something was thrown -/
def aft (T : State) (g : JFrame) (len : Nat) : OC → State
  | .inl v => T.setTop { g with pc := g.pc + len, stack := v.toList ++ g.stack }
  | .inr a => (T.setTop g).pushFrame (.throwing a)
theorem call_any {l : Launch} {p : Program} {e : Env} {R : Room} {s : State} {m : MethodId} {sargs : Array Value} {below : List Frame} {meth : Method} {c : Code} {U : State} {locs : List Loc} {cells slots : Nat} {G : GX} {y : MethodName} {fr lo : Nat} {As : List Value} {h : AH} {Q : OC → AH → Prop}
    (hM : Ct l G y fr lo As h Q) (X : Stand p l e R s m sargs below meth c U locs cells slots) {g : JFrame} {ig : Instr} {len maxL : Nat} {mk : MethodId} (hg : g.method = m) (hsize : g.locals.size = c.maxLocals) (hdg : decode c.code g.pc = .ok (ig, len)) (hW : 2 * g.monitorRoom + (g.stack.map fun v => v.category).sum ≤ 8)
    (hn : U.methodNamed? y = some mk) (hcd : ∃ methY cY, U.vm.method? mk = some methY ∧ methY.code = some cY ∧ cY.maxLocals = maxL) (hws : ∀ w ∈ lw_good, w.before As.toArray U = true) (hini : (Cond.initialized y.cls).before As.toArray U = true) (hfr : fr + 1 ≤ R.frames) (hlo : 8 + (maxL + 11) + lo ≤ R.locals)
    (hc : cells + (h.1 + 601024 - h.2.1) ≤ R.cells) (hs : slots + (7293034 - h.2.2.1) ≤ R.slots) (hK : K1 G U) (hR : Rp G U h U.heap) (hL : Le h h) :
    ∃ (o : OC) (h1 : AH) (L : List Loc) (T' : State), Stand p l e R s m sargs below meth c T' (locs ++ L) (cells + (h1.2.1 - h.2.1)) (slots + (h1.2.2.1 - h.2.2.1)) ∧ (∀ q ∈ L, h.1 ≤ q.base) ∧ Rp G T' h1 T'.heap ∧ Le h h1 ∧ Q o h1 ∧
      Steps p.tables e below (doInvoke e (U.setTop g) [] mk As.toArray).1 (aft T' g len o) := by
  obtain ⟨methY, cY, hmY, hcY, hlY⟩ := hcd
  obtain ⟨kY, hkY, -⟩ := className_of_methodNamed hn
  have hinitY : kY.init = .initialized := Cond.initialized_spec (findClass_of_methodNamed hn) hkY hini
  have hh : At U g.method c below := by rw [hg]; exact X.here
  have happ : (headSpec lw_good (capR fr lo h)).appliesLoose y e.platform (U.calling g mk As.toArray) = true :=
    Spec.appliesLoose_calling (g := g) hh hdg hn hkY hinitY
      (X.room_calling (g := g) (R' := (headSpec lw_good (capR fr lo h)).room) hsize hmY hcY hfr (by show _ + (cY.maxLocals + 11) + lo ≤ _; rw [hlY]; omega) hc hs) (atoms_intro hws)
  obtain ⟨mid, hmid⟩ := hh.above
  have hfrm : (U.setTop g).frames = (.java g :: mid) ++ below := by rw [State.frames_setTop' g hh.top, hmid]; rfl
  obtain ⟨o, s₂, hsteps, -, hend, hq⟩ := Steps.callFree hM p X.admits X.cas X.clock (acts := []) hfrm happ ⟨rfl, Kx.warm hK (State.WarmedH.refl U), hR.moved (Vm.Alike.refl U.vm), hL⟩ trivial
  rw [State.frames_setTop' g hh.top] at hend
  have hq : PQ G h Q (U.calling g mk As.toArray) o s₂ := hq
  obtain ⟨o', h1, rfl, hW₂, ⟨L, hfe, hLb⟩, hR2, hL2, hQ2⟩ := hq
  obtain ⟨e2, q2, q3, q4, q5, q6⟩ := id hfe
  have e3 : s₂ = ({ (U.calling g mk As.toArray).setFrames s₂.frames with heap := s₂.heap, slotsUsed := s₂.slotsUsed } : State).setVm s₂.vm := by
    have : s₂ = ({ s₂ with vm := (U.calling g mk As.toArray).vm } : State).setVm s₂.vm := rfl
    rw [e2] at this
    exact this
  have hW' : U.WarmedH s₂.vm := hW₂
  obtain ⟨g₀, hg0⟩ := Option.isSome_iff_exists.mp hh.top
  obtain ⟨r, hr⟩ := State.topJava?_eq_some.mp hg0
  have hsame : U.sameButNew ({ U with heap := s₂.heap, slotsUsed := s₂.slotsUsed } : State) L (h1.2.1 - h.2.1) (h1.2.2.1 - h.2.2.1) := by
    refine ⟨?_, q2, q3, q4, q5, q6⟩
    obtain ⟨t, ht, -⟩ := State.frames_cons hr
    show ({ U with heap := s₂.heap, slotsUsed := s₂.slotsUsed } : State) = { U.setFrames U.frames with heap := s₂.heap, slotsUsed := s₂.slotsUsed }
    rw [State.setFrames_self ht]
  have hr' : (({ U with heap := s₂.heap, slotsUsed := s₂.slotsUsed } : State).setVm s₂.vm).frames = .java g₀ :: r := hr
  have hst : s₂ = aft (({ U with heap := s₂.heap, slotsUsed := s₂.slotsUsed } : State).setVm s₂.vm) g len o' := by
    cases o' with
    | inl v =>
      obtain ⟨c₂, i₂, len₂, hc₂, hd₂, hf₂⟩ := hend
      have hcc : c₂ = c := by
        have h1 : s₂.code? g.method = U.code? g.method := by
          rw [State.code?_eq, State.code?_eq, hW'.alike.method?]
        exact Option.some.inj (hc₂.symm.trans (h1.trans hh.code))
      subst hcc
      have hlen : len₂ = len := by rw [hdg] at hd₂; cases hd₂; rfl
      subst hlen
      refine e3.trans ?_
      show _ = (({ U with heap := s₂.heap, slotsUsed := s₂.slotsUsed } : State).setVm s₂.vm).setTop { g with pc := g.pc + len₂, stack := v.toList ++ g.stack }
      rw [hf₂, State.calling_eq hh.top, State.setFrames_setFrames, State.setTop_of_frames _ hr', hr]
      rfl
    | inr a =>
      have hf₂ : s₂.frames = .throwing a :: .java g :: U.frames.tail := hend
      refine e3.trans ?_
      show _ = ((({ U with heap := s₂.heap, slotsUsed := s₂.slotsUsed } : State).setVm s₂.vm).setTop g).pushFrame (.throwing a)
      rw [hf₂, State.calling_eq hh.top, State.setFrames_setFrames, State.pushFrame, State.frames_setTop _ hr', State.setTop_of_frames _ hr', State.setFrames_setFrames, hr]
      rfl
  subst hg
  refine ⟨o', h1, L, ({ U with heap := s₂.heap, slotsUsed := s₂.slotsUsed } : State).setVm s₂.vm,
    ⟨X.admits, X.cas, X.clock, X.frames, X.room, X.hears, X.method, X.code, (X.here.setHeapUsed s₂.heap s₂.slotsUsed).setVm hW'.alike, X.tail, State.WarmedH.trans X.warmed hW', X.limits, X.bytes, X.same.trans (hsame.setVm s.vm)⟩,
    hLb, hR2.moved (Vm.Alike.refl _), hL2, hQ2, ?_⟩
  rw [← hst]
  exact hsteps
