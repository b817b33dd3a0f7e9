/-! ===== invocations ===== -/
def notMH (y : MethodName) : Prop := y.cls ≠ "java/lang/invoke/MethodHandle" ∧ y.cls ≠ "java/lang/invoke/VarHandle"
abbrev parN (y : MethodName) (n : Nat) : Prop := (parseMethodDescriptor y.desc).map (fun d => d.parameters.length) = some n
/-- y's code is known, with so many locals -/
def CD (y : MethodName) (maxL : Nat) : Prop := (∃ bytes ret, Cond.code y bytes maxL ret ∈ lw_good) ∨ ∃ bytes ret hs, Cond.codeWith y bytes maxL ret hs ∈ lw_good
theorem CD.at {y : MethodName} {maxL : Nat} (h : CD y maxL) {U : State} {a : Array Value} (hts : ∀ w ∈ lw_good, w.before a U = true) : ∃ mk methY cY, U.methodNamed? y = some mk ∧ U.vm.method? mk = some methY ∧ methY.code = some cY ∧ cY.maxLocals = maxL ∧ parseMethodDescriptor y.desc = some methY.sig := by
  rcases h with ⟨bytes, ret, hw⟩ | ⟨bytes, ret, hs, hw⟩
  · obtain ⟨mk, hn⟩ := Cond.code_named (hts _ hw)
    obtain ⟨methY, cY, h1, h2, -, h4, -, -, -, h5⟩ := Cond.code_spec hn (hts _ hw)
    exact ⟨mk, methY, cY, hn, h1, h2, h4, h5⟩
  · obtain ⟨mk, methY, cY, hn, h1, h2, -, h4, -, -, -, h5⟩ := Cond.codeWith_spec (hts _ hw)
    exact ⟨mk, methY, cY, hn, h1, h2, h4, h5⟩
theorem good_at {s U : State} {args a' : Array Value} (hW : s.WarmedH U.vm) (hts : ∀ w ∈ lw_good, w.before args s = true) : ∀ w ∈ lw_good, w.before a' U = true := fun w hw => word_at hW (good_of_word (List.mem_filter.mp hw).2) (hts w hw)
section INV
variable {p : Program} {l : Launch} {e : Env} {R : Room} {s : State} {m : MethodId} {args : Array Value} {below : List Frame} {meth : Method} {c : Code} {G : GX} {own : String} {cc : ByteArray} {nL : Nat} {ret : Option FieldType} {fr lo : Nat} {h0 : AH} {Q : OC → AH → Prop} {h : AH} {y : MethodName} {fr' lo' maxL idx : Nat} {As st : List Value} {Qc : OC → AH → Prop}
/-- what an invoking instruction does ahead of the callee -/
def Inv (p : Program) (l : Launch) (e : Env) (R : Room) (s : State) (m : MethodId) (args : Array Value) (below : List Frame) (meth : Method) (c : Code) (h h0 : AH) (locs : List Loc) (H : Heap) (g1 g : JFrame) (y : MethodName) (As : List Value) : Prop :=
  ∀ T : State, T.heap = H → Stand p l e R s m args below meth c T locs (h.2.1 - h0.2.1) (h.2.2.1 - h0.2.2.1) → ∃ (vm₁ : Vm) (mk : MethodId), Stand p l e R s m args below meth c (T.setVm vm₁) locs (h.2.1 - h0.2.1) (h.2.2.1 - h0.2.2.1) ∧ s.methodNamed? y = some mk ∧
    ∀ target, (∀ acts, Steps p.tables e below (doInvoke e ((T.setVm vm₁).setTop g) acts mk As.toArray).1 target) → Steps p.tables e below (T.setTop g1) target
theorem inv_core {lv : LV} {pc : Nat} {ig : Instr} (C : Cx (p, l, e, R, s, m, args, below, meth, c) G own cc nL ret fr lo h0) (hCt : Ct l G y fr' lo' As h Qc) (hcd : CD y maxL) (hini : Cond.initialized y.cls ∈ lw_good) (hfr : fr' + 1 ≤ fr) (hlo : 8 + (maxL + 11) + lo' ≤ lo) (hst : (st.map fun v => v.category).sum ≤ 8) (hdg : decode cc pc = .ok (ig, 3))
    {H : Heap} {locs : List Loc} {ls : Array Slot} {g1 : JFrame} (hR : Rp G s h H) (hL : Le h0 h) (hl0 : ∀ q ∈ locs, h0.1 ≤ q.base) (hl : lv_has ls c.maxLocals lv) (hI : Inv p l e R s m args below meth c h h0 locs H g1 (F0 m pc ls st) y As)
    (kk : ∀ (o : OC) (h1 : AH) (L : List Loc) (T' : State), Stand p l e R s m args below meth c T' L (h1.2.1 - h0.2.1) (h1.2.2.1 - h0.2.2.1) → (∀ q ∈ L, h0.1 ≤ q.base) → Rp G s h1 T'.heap → Le h0 h1 → Qc o h1 → ∃ t, Steps p.tables e below (aft T' (F0 m pc ls st) 3 o) t ∧ ZQ below s G h0 Q t) :
    W p l e R s m args below meth c H locs (h.2.1 - h0.2.1) (h.2.2.1 - h0.2.2.1) (ZQ below s G h0 Q) g1 := by
  obtain ⟨hx, hb, hml, hown, hts, hr0, hlk, hK, hRf, hRl, hRc, hRs⟩ := C
  intro T hT X
  obtain ⟨vm₁, mk, X₁, hn, hstep⟩ := hI T hT X
  have hts' := good_at (a' := As.toArray) X₁.warmed hts
  obtain ⟨mk', methY, cY, hn', hmY, hcY, hlY, -⟩ := hcd.at hts'
  have hmk : mk' = mk := Option.some.inj (hn'.symm.trans (X₁.named hn))
  subst hmk
  obtain ⟨x1, x2, x3, x4, x5, x6⟩ := id hL
  have hRc : R.cells = h0.1 + 601024 - h0.2.1 := hRc
  have hRs : R.slots = 7293034 - h0.2.2.1 := hRs
  have hRf : R.frames = fr := hRf
  have hRl : R.locals = lo := hRl
  have hb : c.code = cc := hb
  obtain ⟨o, h1, L, T', Y, hLb, hR1, hL1, hQ1, hS1⟩ := call_any hCt X₁ (g := F0 m pc ls st) (ig := ig) (len := 3) (maxL := maxL) rfl hl.1 (by rw [hb]; exact hdg) (lv_room hst) (X₁.named hn) ⟨methY, cY, hmY, hcY, hlY⟩ hts' (hts' _ hini) (by rw [hRf]; exact hfr) (by rw [hRl]; exact hlo) (by rw [hRc]; omega) (by rw [hRs]; omega) (Kx.warm hK X₁.warmed) (by
      have e1 : (T.setVm vm₁).heap = H := hT
      rw [e1]; exact hR.moved X₁.warmed.alike) hL.self
  obtain ⟨y1, y2, y3, y4, y5, y6⟩ := id hL1
  have e1 : h.2.1 - h0.2.1 + (h1.2.1 - h.2.1) = h1.2.1 - h0.2.1 := by omega
  have e2 : h.2.2.1 - h0.2.2.1 + (h1.2.2.1 - h.2.2.1) = h1.2.2.1 - h0.2.2.1 := by omega
  rw [e1, e2] at Y
  obtain ⟨t, a1, b1⟩ := kk o h1 (locs ++ L) T' Y (fun q hq => by
    rcases List.mem_append.mp hq with hq | hq
    · exact hl0 q hq
    · rw [← x1]; exact hLb q hq) (hR1.moved Y.warmed.alike.symm) (hL.trans hL1) hQ1
  refine ⟨t, hstep t fun acts => ?_, b1⟩
  rw [doInvoke_state]
  exact hS1.trans a1
/-- the callee returned: on with its answer -/
theorem inv_ret {lv : LV} {pc pf : Nat} {v : Option Value} {h' : AH} (hf : pc + 3 = pf) (kv : V (p, l, e, R, s, m, args, below, meth, c) G h0 Q pf lv (v.toList ++ st) h') {ls : Array Slot} (hl : lv_has ls c.maxLocals lv) : ∀ (o : OC) (h1 : AH) (L : List Loc) (T' : State), Stand p l e R s m args below meth c T' L (h1.2.1 - h0.2.1) (h1.2.2.1 - h0.2.2.1) → (∀ q ∈ L, h0.1 ≤ q.base) → Rp G s h1 T'.heap → Le h0 h1 → (o = .inl v ∧ h1 = h') → ∃ t, Steps p.tables e below (aft T' (F0 m pc ls st) 3 o) t ∧ ZQ below s G h0 Q t := by
  intro o h1 L T' Y hL hR hLe hq
  obtain ⟨rfl, rfl⟩ := hq
  subst hf
  exact kv T'.heap L ls hR hLe hL hl T' rfl Y
/-- the callee threw, and no handler is here: so do we -/
theorem inv_thr {pc a : Nat} {h' : AH} (C : Cx (p, l, e, R, s, m, args, below, meth, c) G own cc nL ret fr lo h0) (hex : c.exceptionTable.toList.map (fun h => (h.startPc, h.endPc, h.handlerPc, h.catchType)) = []) (kq : Q (.inr a) h') {ls : Array Slot} : ∀ (o : OC) (h1 : AH) (L : List Loc) (T' : State), Stand p l e R s m args below meth c T' L (h1.2.1 - h0.2.1) (h1.2.2.1 - h0.2.2.1) → (∀ q ∈ L, h0.1 ≤ q.base) → Rp G s h1 T'.heap → Le h0 h1 → (o = .inr a ∧ h1 = h') → ∃ t, Steps p.tables e below (aft T' (F0 m pc ls st) 3 o) t ∧ ZQ below s G h0 Q t := by
  intro o h1 L T' Y hL hR hLe hq
  obtain ⟨rfl, rfl⟩ := hq
  have hlk : meth.locks = false := C.2.2.2.2.2.2.1
  have hex' : c.exceptionTable.toList = [] := List.map_eq_nil_iff.mp hex
  obtain ⟨w1, w2, w3, w4, w5⟩ := Y.leaveThrown a (g := F0 m pc ls st) rfl rfl rfl (fun x hx => by rw [hex'] at hx; cases hx) (hlocks := hlk)
  refine ⟨_, w1, .threw a, w2, w3, .inr a, h1, rfl, w4, ⟨L, w5, hL⟩, ?_, hLe, kq⟩
  exact hR.moved w4.alike
end INV
section INW
variable {X : MX} {l : Launch} {G : GX} {own : String} {cc : ByteArray} {nL : Nat} {ret : Option FieldType} {fr lo : Nat} {h0 : AH} {Q : OC → AH → Prop} {h : AH} {y : MethodName} {fr' lo' maxL idx : Nat} {As st : List Value}
/-- words of a virtual call, of a static one, of a constructor's -/
def MVw (own : String) (idx : Nat) (y : MethodName) (n maxL ci : Nat) : Prop := Cond.methodLink own idx y ∈ lw_good ∧ Cond.instanceMethod y ∈ lw_good ∧ Cond.selects y.cls y y ∈ lw_good ∧ notMH y ∧ parN y n ∧ CD y maxL ∧ Cond.initialized y.cls ∈ lw_good ∧ (∃ (T : u_T) (N : Nat), vwCl[ci]? = some (y.cls, T, N)) ∧ ci ≠ 99
def MSw (own : String) (idx : Nat) (y : MethodName) (n maxL : Nat) : Prop := Cond.methodLink own idx y ∈ lw_good ∧ Cond.static y ∈ lw_good ∧ notMH y ∧ parN y n ∧ CD y maxL ∧ Cond.initialized y.cls ∈ lw_good
def MIw (own : String) (idx : Nat) (y : MethodName) (n maxL : Nat) (bytes : ByteArray) : Prop := (Cond.methodLink own idx y ∈ lw_good ∨ ∃ host : String, (own, idx, y, host) ∈ NMs) ∧ y.name = "<init>" ∧ Cond.instanceMethod y ∈ lw_good ∧ notMH y ∧ parN y n ∧ Cond.code y bytes maxL none ∈ lw_good ∧ Cond.initialized y.cls ∈ lw_good
theorem parN_len {y : MethodName} {n : Nat} {A : List Value} (h : parN y n) (hn : A.length = n) : ∀ sig, parseMethodDescriptor y.desc = some sig → A.length = sig.parameters.length := by
  intro sig hs
  unfold parN at h
  rw [hs] at h
  exact hn.trans (Option.some.inj h).symm
theorem Inv_V {p : Program} {l : Launch} {e : Env} {R : Room} {s : State} {m : MethodId} {args : Array Value} {below : List Frame} {meth : Method} {c : Code} {H : Heap} {locs : List Loc} {ls : Array Slot} {b n ci pc : Nat} (C : Cx (p, l, e, R, s, m, args, below, meth, c) G own cc nL ret fr lo h0) (hM : MVw own idx y n maxL ci) (hn : As.length = n) (ho : isO ci h b = true) (hR : Rp G s h H) (hd : decode cc pc = .ok (.invokevirtual idx, 3)) : Inv p l e R s m args below meth c h h0 locs H (F0 m pc ls (As.reverse ++ .ref b :: st)) (F0 m pc ls st) y (.ref b :: As) := by
  obtain ⟨hx, hb, hml, hown, hts, -, -, hK, -⟩ := C
  obtain ⟨w1, w2, w3, w4, w5, w6, w7, ⟨T0, N, w8⟩, w9⟩ := hM
  have hb : c.code = cc := hb
  obtain ⟨F, hF⟩ := isO_some ho
  obtain ⟨r, g0, cellB, g1, g2, g3, -⟩ := Ra_obj w9 (hR.2.2.2 b _ hF)
  have hcls : s.vm.findClass y.cls = some cellB.cls := by rw [g2]; exact (hK.1.1 ci _ w8).2.1
  intro T hT Y
  obtain ⟨mk, methM, hnamed, hmethM, hstM, habM⟩ := Cond.instanceMethod_spec (hts _ w2)
  obtain ⟨mk', methM', cM, hn', hmethM', -, -, hsigM⟩ := w6.at hts
  have hmk : mk' = mk := Option.some.inj (hn'.symm.trans hnamed)
  subst hmk
  cases hmethM.symm.trans hmethM'
  obtain ⟨c2, r2, m2, q1, q2, q3, q4, kP, hkP, hkPi⟩ := Cond.selects_spec (hts _ w3)
  cases hcls.symm.trans q1
  cases (State.methodFound?_of_named hnamed w4).symm.trans q2
  cases hnamed.symm.trans q3
  have hselP : selectMethod e.platform s.vm cellB.cls mk' = .method mk' := by rw [Launch.admits_selectMethod Y.admits]; exact q4
  obtain ⟨vm₁, X₁, hstep₁⟩ := Y.invokevirtual hx hown (hts _ w1) hnamed hmethM hstM hkP hkPi w4 (a := b) (cell := cellB) (by rw [hT]; exact g1)
    (fun z h => by rw [g3] at h; cases h) hselP hmethM habM hkP hkPi (g := F0 m pc ls (As.reverse ++ .ref b :: st)) rfl (argsL := As) (rest := st) (parN_len w5 hn _ hsigM) rfl (by rw [hb]; exact hd)
  exact ⟨vm₁, mk', X₁, hnamed, fun target ht => hstep₁ target ht⟩
theorem Inv_S {p : Program} {l : Launch} {e : Env} {R : Room} {s : State} {m : MethodId} {args : Array Value} {below : List Frame} {meth : Method} {c : Code} {H : Heap} {locs : List Loc} {ls : Array Slot} {n pc : Nat} (C : Cx (p, l, e, R, s, m, args, below, meth, c) G own cc nL ret fr lo h0) (hM : MSw own idx y n maxL) (hn : As.length = n) (hd : decode cc pc = .ok (.invokestatic idx, 3)) : Inv p l e R s m args below meth c h h0 locs H (F0 m pc ls (As.reverse ++ st)) (F0 m pc ls st) y As := by
  obtain ⟨hx, hb, hml, hown, hts, -, -, hK, -⟩ := C
  obtain ⟨w1, w2, w4, w5, w6, w7⟩ := hM
  have hb : c.code = cc := hb
  intro T hT Y
  obtain ⟨mk, methM, cM, hnamed, hmethM, -, -, hsigM⟩ := w6.at hts
  have hstatic : methM.isStatic = true := Cond.static_spec hnamed hmethM (hts _ w2)
  obtain ⟨kP, hkP, -⟩ := className_of_methodNamed hnamed
  have hinitP : kP.init = .initialized := Cond.initialized_spec (findClass_of_methodNamed hnamed) hkP (hts _ w7)
  obtain ⟨vm₁, X₁, hstep₁⟩ := Y.invokestatic hx hown (hts _ w1) hnamed hmethM hstatic hkP hinitP w4 (g := F0 m pc ls (As.reverse ++ st)) rfl (argsL := As) (rest := st) (parN_len w5 hn _ hsigM) rfl (by rw [hb]; exact hd)
  exact ⟨vm₁, mk, X₁, hnamed, fun target ht => hstep₁ target ht⟩
theorem Inv_I {p : Program} {l : Launch} {e : Env} {R : Room} {s : State} {m : MethodId} {args : Array Value} {below : List Frame} {meth : Method} {c : Code} {H : Heap} {locs : List Loc} {ls : Array Slot} {n b pc : Nat} {bytes : ByteArray} (C : Cx (p, l, e, R, s, m, args, below, meth, c) G own cc nL ret fr lo h0) (hM : MIw own idx y n maxL bytes) (hn : As.length = n) (hd : decode cc pc = .ok (.invokespecial idx, 3)) : Inv p l e R s m args below meth c h h0 locs H (F0 m pc ls (As.reverse ++ .ref b :: st)) (F0 m pc ls st) y (.ref b :: As) := by
  obtain ⟨hx, hb, hml, hown, hts, -, -, hK, -⟩ := C
  obtain ⟨w1, w2, w3, w4, w5, w6, w7⟩ := hM
  have hb : c.code = cc := hb
  subst hb
  intro T hT Y
  have hpl : e.platform.magicAccessors = ({} : Platform).magicAccessors := by rw [Y.admits.platform]
  rcases w1 with w1 | ⟨host, w1⟩
  · obtain ⟨mk, methM, cM, kP, vm₁, hnamed, hmethM, hcodeM, -, hlocalsM, -, hkP, -, hW₁, hstep₁⟩ := Steps.initColdArgs (e := e) Y.here hx Y.warmed hpl hown w2 w4 (hts _ w1) (hts _ w3) (hts _ w6) (f := F0 m pc ls (As.reverse ++ .ref b :: st)) rfl (parN_len w5 hn) rfl hd
    exact ⟨vm₁, mk, Y.noted hW₁, hnamed, fun target ht => hstep₁ target ht⟩
  · obtain ⟨mk, methM, cM, kP, vm₁, hnamed, hmethM, hcodeM, -, hlocalsM, -, hkP, -, hW₁, hstep₁⟩ := Steps.initColdArgsNest (e := e) Y.here hx Y.warmed hpl hown w2 w4 (va_Nw.use rfl (hK.2.2.1 _ w1)) (hts _ w3) (hts _ w6) (f := F0 m pc ls (As.reverse ++ .ref b :: st)) rfl (parN_len w5 hn) rfl hd
    exact ⟨vm₁, mk, Y.noted hW₁, hnamed, fun target ht => hstep₁ target ht⟩
/-! the rows: V a virtual call, S a static one, I a constructor's; r it returned, t it threw -/
theorem Cx.callVr (C : Cx X G own cc nL ret fr lo h0) {nm : String} {hs : List (Nat × Nat × Nat × Nat)} (C2 : Cy X l nm hs) {pc pf b n ci : Nat} {lv : LV} {v : Option Value} {h' : AH} (As st : List Value) (hM : MVw own idx y n maxL ci) (hn : As.length = n) (ho : isO ci h b = true) (hCt : Ct l G y fr' lo' (.ref b :: As) h (fun o h1 => o = .inl v ∧ h1 = h')) (hfr : fr' + 1 ≤ fr) (hlo : 8 + (maxL + 11) + lo' ≤ lo) (hst : (st.map fun v => v.category).sum ≤ 8) (hd : decode cc pc = .ok (.invokevirtual idx, 3)) (hf : pc + 3 = pf) (kv : V X G h0 Q pf lv (v.toList ++ st) h') : V X G h0 Q pc lv (As.reverse ++ .ref b :: st) h := by
  obtain ⟨p, l', e, R, s, m, args, below, meth, c⟩ := X
  obtain ⟨rfl, -⟩ := C2
  intro H locs ls hR hL hl0 hl
  exact inv_core C hCt hM.2.2.2.2.2.1 hM.2.2.2.2.2.2.1 hfr hlo hst hd hR hL hl0 hl (Inv_V C hM hn ho hR hd) (inv_ret hf kv hl)
theorem Cx.callVt (C : Cx X G own cc nL ret fr lo h0) {nm : String} (C2 : Cy X l nm []) {pc b a n ci : Nat} {lv : LV} {h' : AH} (As st : List Value) (hM : MVw own idx y n maxL ci) (hn : As.length = n) (ho : isO ci h b = true) (hCt : Ct l G y fr' lo' (.ref b :: As) h (fun o h1 => o = .inr a ∧ h1 = h')) (hfr : fr' + 1 ≤ fr) (hlo : 8 + (maxL + 11) + lo' ≤ lo) (hst : (st.map fun v => v.category).sum ≤ 8) (hd : decode cc pc = .ok (.invokevirtual idx, 3)) (kq : Q (.inr a) h') : V X G h0 Q pc lv (As.reverse ++ .ref b :: st) h := by
  obtain ⟨p, l', e, R, s, m, args, below, meth, c⟩ := X
  obtain ⟨rfl, -, hex⟩ := C2
  intro H locs ls hR hL hl0 hl
  exact inv_core C hCt hM.2.2.2.2.2.1 hM.2.2.2.2.2.2.1 hfr hlo hst hd hR hL hl0 hl (Inv_V C hM hn ho hR hd) (inv_thr C hex kq)
theorem Cx.callSr (C : Cx X G own cc nL ret fr lo h0) {nm : String} {hs : List (Nat × Nat × Nat × Nat)} (C2 : Cy X l nm hs) {pc pf n : Nat} {lv : LV} {v : Option Value} {h' : AH} (As st : List Value) (hM : MSw own idx y n maxL) (hn : As.length = n) (hCt : Ct l G y fr' lo' As h (fun o h1 => o = .inl v ∧ h1 = h')) (hfr : fr' + 1 ≤ fr) (hlo : 8 + (maxL + 11) + lo' ≤ lo) (hst : (st.map fun v => v.category).sum ≤ 8) (hd : decode cc pc = .ok (.invokestatic idx, 3)) (hf : pc + 3 = pf) (kv : V X G h0 Q pf lv (v.toList ++ st) h') : V X G h0 Q pc lv (As.reverse ++ st) h := by
  obtain ⟨p, l', e, R, s, m, args, below, meth, c⟩ := X
  obtain ⟨rfl, -⟩ := C2
  intro H locs ls hR hL hl0 hl
  exact inv_core C hCt hM.2.2.2.2.1 hM.2.2.2.2.2 hfr hlo hst hd hR hL hl0 hl (Inv_S C hM hn hd) (inv_ret hf kv hl)
theorem Cx.callIr (C : Cx X G own cc nL ret fr lo h0) {nm : String} {hs : List (Nat × Nat × Nat × Nat)} (C2 : Cy X l nm hs) {pc pf b n : Nat} {lv : LV} {v : Option Value} {h' : AH} {bytes : ByteArray} (As st : List Value) (hM : MIw own idx y n maxL bytes) (hn : As.length = n) (hCt : Ct l G y fr' lo' (.ref b :: As) h (fun o h1 => o = .inl v ∧ h1 = h')) (hfr : fr' + 1 ≤ fr) (hlo : 8 + (maxL + 11) + lo' ≤ lo) (hst : (st.map fun v => v.category).sum ≤ 8) (hd : decode cc pc = .ok (.invokespecial idx, 3)) (hf : pc + 3 = pf) (kv : V X G h0 Q pf lv (v.toList ++ st) h') : V X G h0 Q pc lv (As.reverse ++ .ref b :: st) h := by
  obtain ⟨p, l', e, R, s, m, args, below, meth, c⟩ := X
  obtain ⟨rfl, -⟩ := C2
  intro H locs ls hR hL hl0 hl
  exact inv_core C hCt (Or.inl ⟨_, _, hM.2.2.2.2.2.1⟩) hM.2.2.2.2.2.2 hfr hlo hst hd hR hL hl0 hl (Inv_I C hM hn hd) (inv_ret hf kv hl)
theorem Cx.objInit (C : Cx X G own cc nL ret fr lo h0) {pc pf b : Nat} {lv : LV} {st : List Value} (hw1 : Cond.methodLink own idx Lib.objectInit ∈ lw_good) (hw2 : Cond.instanceMethod Lib.objectInit ∈ lw_good) (hw3 : Cond.code Lib.objectInit ⟨#[0xb1]⟩ 1 none ∈ lw_good) (hfr : 1 ≤ fr) (hlo : 20 ≤ lo) (hst : (st.map fun v => v.category).sum ≤ 8) (hd : decode cc pc = .ok (.invokespecial idx, 3)) (hf : pc + 3 = pf) (kv : V X G h0 Q pf lv st h) : V X G h0 Q pc lv (.ref b :: st) h := by
  subst hf
  obtain ⟨p, l', e, R, s, m, args, below, meth, c⟩ := X
  obtain ⟨hx, hb, hml, hown, hts, -, -, hK, hRf, hRl, -⟩ := C
  have hRf : R.frames = fr := hRf
  have hRl : R.locals = lo := hRl
  intro H locs ls hR hL hl0 hl
  exact W.objInit hx hb hown (hts _ hw1) (hts _ hw2) (hts _ hw3) rfl hl.1 rfl hd (by rw [hRf]; exact hfr) (by rw [hRl]; show 2 * 0 + _ + 12 ≤ _; omega) (kv H locs ls hR hL hl0 hl)
/-- athrow, no handler here -/
theorem Cx.athrow (C : Cx X G own cc nL ret fr lo h0) {nm : String} (C2 : Cy X l nm []) {pc a : Nat} {lv : LV} {st : List Value} (hd : decode cc pc = .ok (.athrow, 1)) (kq : Q (.inr a) h) : V X G h0 Q pc lv (.ref a :: st) h := by
  obtain ⟨p, l', e, R, s, m, args, below, meth, c⟩ := X
  obtain ⟨rfl, -, hex⟩ := C2
  obtain ⟨hx, hb, hml, hown, hts, hr0, hlk, -⟩ := C
  intro H locs ls hR hL hl0 hl
  have hb : c.code = cc := hb
  have hex' : c.exceptionTable.toList = [] := List.map_eq_nil_iff.mp hex
  intro T hT Y
  obtain ⟨w1, w2, w3, w4, w5⟩ := Y.athrowLeaves hx (g := F0 m pc ls (.ref a :: st)) rfl rfl rfl (fun x hx => by rw [hex'] at hx; cases hx) (a := a) (rest := st) rfl (by rw [hb]; exact hd) (hlocks := hlk)
  refine ⟨_, w1, .threw a, w2, w3, .inr a, h, rfl, w4, ⟨locs, w5, hl0⟩, ?_, hL, kq⟩
  have e1 : (T.setFrames (.throwing a :: below)).heap = H := hT
  show Rp G _ h (T.setFrames (.throwing a :: below)).heap
  rw [e1]
  exact hR.moved w4.alike
end INW
