/-! ===== a handler of the method's own: its table has one row, and the thrown object is of the row's own class ===== -/
section CAT
theorem asg_refl (vm : Vm) (c : ClassId) : vm.assignable c c = true := by
  show vm.assignableAux (255 + 1) c c = true
  rw [Vm.assignableAux, beq_self_eq_true, Bool.true_or]
/-- the unwinding's step into the row's handler; the row's class is linked on the way -/
theorem cat_step {e : Env} {s : State} {a : Addr} {f : JFrame} {r : List Frame} {x : ExceptionTableEntry} {cell : Cell} {meth : Method} {code : Code} (hm : s.vm.method? f.method = some meth) (hcd : meth.code = some code) (ht : code.exceptionTable.toList = [x]) (hx1 : x.startPc ≤ f.pc) (hx2 : f.pc < x.endPc) (h0 : x.catchType ≠ 0)
    (hl : s.vm.ClassLinks e.platform f.method.cls x.catchType cell.cls) (hcell : s.heap[a]? = some cell) (hobj : ∀ k, cell.vm ≠ .statics k) (hk : ∃ k, s.vm.classes[cell.cls]? = some k) :
    (stepThrowing e s a (.java f :: r)).Is ((s.setVm (s.vm.noted f.method.cls x.catchType (.cls cell.cls))).setFrames (.java { f with pc := x.handlerPc, stack := [.ref a] } :: r)) [] := by
  have go1 : ∀ (Q : Handler → Jvm.Pre) (E : Jvm.CtlPost) (d : Bool) (acts : List Action), Sem.wp (findHandler f a) Q E e d acts s ↔ Q (.found x.handlerPc) d acts (s.setVm (s.vm.noted f.method.cls x.catchType (.cls cell.cls))) := by
    intro Q E d acts
    obtain ⟨ha, hb⟩ := (resolveClass_links e.toSetting hl).op (op := VmOp.resolveClass f.method.cls x.catchType) rfl
    have hal : s.vm.Alike (s.vm.noted f.method.cls x.catchType (.cls cell.cls)) := (Vm.Alike.refl s.vm).noted _ _ _
    obtain ⟨k, hk⟩ := hk
    obtain ⟨k', hk', -⟩ := hal.2.2 _ _ hk
    rw [Jvm.W.findHandler_eq hm hcd, ht]
    simp [findHandler.go, hx1, hx2, h0, ha, hb, hcell, hobj, hk', asg_refl, VmOp.dirties, VmOp.acts]
  simp only [stepThrowing, searchFrame, vmDo]
  generalize hr : Sem.go _ e false [] s = res
  obtain ⟨as, rfl, ha⟩ := Sem.eq_ok_of hr (a := Handler.found x.handlerPc) (s' := s.setVm (s.vm.noted f.method.cls x.catchType (.cls cell.cls))) (acts' := []) (by simp [go1])
  exact ⟨rfl, ha⟩
variable {p : Program} {l : Launch} {e : Env} {R : Room} {s : State} {m : MethodId} {args : Array Value} {below : List Frame} {meth : Method} {c : Code} {G : GX} {own : String} {cc : ByteArray} {nL : Nat} {ret : Option FieldType} {fr lo : Nat} {h0 : AH} {Q : OC → AH → Prop} {h : AH}
/-- from the note over our own frame into the handler -/
theorem cat_thr {pc a hp ci ct q1 q2 : Nat} {nm : String} {T0 : u_T} {N : Nat} {lv : LV} {st : List Value} {h' : AH} (C : Cx (p, l, e, R, s, m, args, below, meth, c) G own cc nL ret fr lo h0) (hex : c.exceptionTable.toList.map (fun h => (h.startPc, h.endPc, h.handlerPc, h.catchType)) = [(q1, q2, hp, ct)]) (hct : ct ≠ 0) (hq1 : q1 ≤ pc) (hq2 : pc < q2) (hk : Cond.classLink own ct nm ∈ lw_good) (hci : vwCl[ci]? = some (nm, T0, N)) (h99 : ci ≠ 99) (ho : isO ci h' a = true)
    (kv : V (p, l, e, R, s, m, args, below, meth, c) G h0 Q hp lv [.ref a] h') {ls : Array Slot} (hl : lv_has ls c.maxLocals lv) {L : List Loc} {T' : State} (Y : Stand p l e R s m args below meth c T' L (h'.2.1 - h0.2.1) (h'.2.2.1 - h0.2.2.1)) (hLb : ∀ q ∈ L, h0.1 ≤ q.base) (hR : Rp G s h' T'.heap) (hLe : Le h0 h') :
    ∃ t, Steps p.tables e below ((T'.setTop (F0 m pc ls st)).pushFrame (.throwing a)) t ∧ ZQ below s G h0 Q t := by
  obtain ⟨hx, hb, hml, hown, hts, hr0, hlk, hK, -⟩ := C
  obtain ⟨x, hx1, hx2⟩ : ∃ x, c.exceptionTable.toList = [x] ∧ (x.startPc, x.endPc, x.handlerPc, x.catchType) = (q1, q2, hp, ct) := by
    match hE : c.exceptionTable.toList, hex with
    | [x], hex => exact ⟨x, rfl, by simpa using hex⟩
  obtain ⟨e1, e2, e3, e4⟩ : x.startPc = q1 ∧ x.endPc = q2 ∧ x.handlerPc = hp ∧ x.catchType = ct := by simpa using hx2
  have hpl : e.platform.magicAccessors = ({} : Platform).magicAccessors := by rw [Y.admits.platform]
  obtain ⟨cT, hcT, hcl⟩ := Cond.classLink_spec hown (hts _ hk) e.platform hpl
  obtain ⟨F, hF⟩ := isO_some ho
  obtain ⟨r, g0, cell, g1, g2, g3, -⟩ := Ra_obj h99 (hR.2.2.2 a _ hF)
  have hcls : s.vm.findClass nm = some cell.cls := by rw [g2]; exact (hK.1.1 ci _ hci).2.1
  cases hcT.symm.trans hcls
  obtain ⟨dk, _, _, kt, hd, _, _, _, _, hkt, _, hopen⟩ := hcl.here
  have hcl' := Y.warmed.classLinks hcl
  have hW' : s.WarmedH (T'.vm.noted m.cls ct (.cls cell.cls)) := Y.warmed.noted hd hopen (State.rightAt_cls hcl)
  obtain ⟨kt', hkt', -⟩ := Y.warmed.alike.2.2 _ _ hkt
  have Y' := Y.noted hW'
  obtain ⟨t, a1, b1⟩ := kv T'.heap L ls hR hLe hLb hl (T'.setVm (T'.vm.noted m.cls ct (.cls cell.cls))) rfl Y'
  refine ⟨t, ?_, b1⟩
  have hat : At T' (F0 m pc ls st).method c below := Y.here
  obtain ⟨hgo, hw⟩ := hat.throwing a
  refine Steps.head hgo hw ?_
  rw [stepThread_throwing (frames_entered hat.top _), (cat_step (s := (T'.setTop (F0 m pc ls st)).pushFrame (.throwing a)) (f := F0 m pc ls st) (x := x) (cell := cell) (meth := meth) (code := c) Y.method' Y.code hx1 (by rw [e1]; exact hq1) (by rw [e2]; exact hq2) (by rw [e4]; exact hct) (by rw [e4]; exact hcl') g1 (fun z hz => by rw [g3] at hz; cases hz) ⟨kt', hkt'⟩).1]
  obtain ⟨g₀, hg⟩ := Option.isSome_iff_exists.mp hat.top
  obtain ⟨r', hr'⟩ := State.topJava?_eq_some.mp hg
  have hv : (T'.setVm (T'.vm.noted m.cls ct (.cls cell.cls))).frames = .java g₀ :: r' := hr'
  rw [State.setTop_of_frames _ hv] at a1
  rw [e3, e4, hr', List.tail_cons, State.pushFrame, State.setTop_of_frames _ hr', State.setFrames_setFrames]
  have e5 : ∀ F : List Frame, ((T'.setFrames F).setVm (((T'.setFrames F).vm).noted (F0 m pc ls st).method.cls ct (.cls cell.cls))).setFrames (.java { F0 m pc ls st with pc := hp, stack := [.ref a] } :: r') = (T'.setVm (T'.vm.noted m.cls ct (.cls cell.cls))).setFrames (.java { F0 m pc ls st with pc := hp, stack := [.ref a] } :: r') := by
    intro F
    show ((T'.setVm (T'.vm.noted m.cls ct (.cls cell.cls))).setFrames F).setFrames _ = _
    rw [State.setFrames_setFrames]
  rw [e5]
  exact a1
end CAT
section CATW
variable {X : MX} {l : Launch} {G : GX} {own : String} {cc : ByteArray} {nL : Nat} {ret : Option FieldType} {fr lo : Nat} {h0 : AH} {Q : OC → AH → Prop} {h : AH} {y : MethodName} {fr' lo' maxL idx : Nat}
theorem Cx.callVh (C : Cx X G own cc nL ret fr lo h0) {nm : String} {q1 q2 hp ct : Nat} (C2 : Cy X l nm [(q1, q2, hp, ct)]) {pc a b n ci : Nat} {lv : LV} {h' : AH} {u : Unit} (As st : List Value) (hM : MVw own idx y n maxL ci) (hn : As.length = n) (ho : isO ci h b = true) (hCt : Ct l G y fr' lo' (.ref b :: As) h (fun o h1 => o = .inr a ∧ h1 = h')) (hfr : fr' + 1 ≤ fr) (hlo : 8 + (maxL + 11) + lo' ≤ lo) (hst : (st.map fun v => v.category).sum ≤ 8) (hd : decode cc pc = .ok (.invokevirtual idx, 3))
    (hk : Cond.classLink own ct RX14 ∈ lw_good) (hg : ckO 14 h' a = some u) (kv : V X G h0 Q hp lv [.ref a] h') (hct : ct ≠ 0 := by decide) (hq1 : q1 ≤ pc := by decide) (hq2 : pc < q2 := by decide) : V X G h0 Q pc lv (As.reverse ++ .ref b :: st) h := by
  obtain ⟨p, l', e, R, s, m, args, below, meth, c⟩ := X
  obtain ⟨rfl, -, hex⟩ := C2
  intro H locs ls hR hL hl0 hl
  refine inv_core C hCt hM.2.2.2.2.2.1 hM.2.2.2.2.2.2.1 hfr hlo hst hd hR hL hl0 hl (Inv_V C hM hn ho hR hd) ?_
  intro o h1 L T' Y hLb hR1 hLe hq
  obtain ⟨rfl, rfl⟩ := hq
  exact cat_thr C hex hct hq1 hq2 hk (rfl : vwCl[14]? = some (RX14, _, _)) (by decide) (ckO_is hg) kv hl Y hLb hR1 hLe
theorem Cx.athrowH (C : Cx X G own cc nL ret fr lo h0) {nm : String} {q1 q2 hp ct : Nat} (C2 : Cy X l nm [(q1, q2, hp, ct)]) {pc a : Nat} {lv : LV} {st : List Value} {u : Unit} (hk : Cond.classLink own ct RX14 ∈ lw_good) (hg : ckO 14 h a = some u) (hd : decode cc pc = .ok (.athrow, 1)) (hct : (ct == 0) = false) (kv : V X G h0 Q hp lv [.ref a] h) (hq1 : q1 ≤ pc := by decide) (hq2 : pc < q2 := by decide) : V X G h0 Q pc lv (.ref a :: st) h := by
  obtain ⟨p, l', e, R, s, m, args, below, meth, c⟩ := X
  obtain ⟨rfl, -, hex⟩ := C2
  intro H locs ls hR hL hl0 hl T hT Y
  have hx : p.tables.exec = Jvm.exec := C.1
  have hb : c.code = cc := C.2.1
  have hRT : Rp G s h T.heap := by rw [hT]; exact hR
  obtain ⟨t, a1, b1⟩ := cat_thr (pc := pc) (st := st) C hex (by intro hz; rw [hz] at hct; cases hct) hq1 hq2 hk (rfl : vwCl[14]? = some (RX14, _, _)) (by decide) (ckO_is hg) kv hl Y hl0 hRT hL
  refine ⟨t, ?_, b1⟩
  have hdg : decode c.code (F0 m pc ls (.ref a :: st)).pc = .ok (.athrow, 1) := by rw [hb]; exact hd
  have hat : At T (F0 m pc ls (.ref a :: st)).method c below := Y.here
  jvm_step hat [hx, hdg, athrow.wp_sem]
  exact a1
end CATW
