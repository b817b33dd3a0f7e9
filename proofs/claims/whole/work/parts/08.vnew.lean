/-! ===== new cells, stores of references, copies ===== -/
section NP
variable {X : MX} {G : GX} {own : String} {cc : ByteArray} {nL : Nat} {ret : Option FieldType} {fr lo : Nat} {h0 : AH} {Q : OC → AH → Prop} {h : AH}
theorem nwA_some {t q : Nat} {n : Int32} {h h' : AH} (hg : nwA t n h = some (q, h')) : ¬ n < 0 ∧ n.toNatClampNeg ≤ 100000 ∧ h.2.1 + 1 ≤ h.1 + 601024 ∧ h.2.2.1 + n.toNatClampNeg ≤ 7293034 ∧ q = h.2.1 ∧ h' = hN h n.toNatClampNeg (.inl (t, n.toNatClampNeg, if t ≤ 3 then .inl (fun _ => 0) else if t = 4 then .inr (.inl (fun _ => 0)) else .inr (.inr (.inr (.inr (fun _ => none)))))) := by
  unfold nwA at hg
  split at hg
  · cases hg
  · rename_i h1
    split at hg
    · rename_i h2
      cases hg
      exact ⟨fun q => h1 (Or.inl q), Nat.not_lt.mp fun q => h1 (Or.inr q), h2.1, h2.2, rfl, rfl⟩
    · cases hg
theorem LeN {h0 h : AH} {n : Nat} {e : AE} (hL : Le h0 h) (h1 : h.2.1 + 1 ≤ h.1 + 601024) (h2 : h.2.2.1 + n ≤ 7293034) : Le h0 (hN h n e) := by
  obtain ⟨x1, x2, x3, x4, x5, x6⟩ := hL
  refine ⟨x1, ?_, ?_, ?_, h2, x6⟩
  · show h0.2.1 ≤ h.2.1 + 1; omega
  · show h0.2.2.1 ≤ h.2.2.1 + n; omega
  · show h.2.1 + 1 ≤ h0.1 + 601024; rw [← x1]; exact h1
theorem Cx.newa (C : Cx X G own cc nL ret fr lo h0) {pc pf q : Nat} {lv : LV} {st : List Value} {n : Int32} {h' : AH} {at_ : ArrayType} (t : Nat) (hw : Cond.arrayClass (newarray.typeOf at_) ∈ lw_good) (hty : newarray.typeOf at_ = aT t) (ht : t ≤ 4) (hcb : componentBytes (aT t) ≤ 8) (hdv : ∀ j, defaultValue (aT t) = aV (n.toNatClampNeg, if t ≤ 3 then .inl (fun _ => 0) else if t = 4 then .inr (.inl (fun _ => 0)) else .inr (.inr (.inr (.inr (fun _ => none))))) j) (hv : nwA t n h = some (q, h')) (hd : decode cc pc = .ok (.newarray at_, 2)) (hf : pc + 2 = pf) (kk : V X G h0 Q pf lv (.ref q :: st) h') : V X G h0 Q pc lv (.int n :: st) h := by
  subst hf
  obtain ⟨p, l, e, R, s, m, args, below, meth, c⟩ := X
  obtain ⟨hx, hb, hml, hown, hts, -, -, hK, -, -, hRc, hRs⟩ := C
  intro H locs ls hR hL hlo hl
  obtain ⟨h1, h2, h3, h4, rfl, rfl⟩ := nwA_some hv
  have hRc : R.cells = h0.1 + 601024 - h0.2.1 := hRc
  have hRs : R.slots = 7293034 - h0.2.2.1 := hRs
  obtain ⟨x1, x2, x3, x4, x5, x6⟩ := id hL
  have hby : n.toNatClampNeg * componentBytes (newarray.typeOf at_) ≤ 536870912 := by
    rw [hty]
    have := Nat.mul_le_mul h2 hcb
    omega
  refine W.newa hx hb (hts _ hw) rfl hd rfl h1 hby (by show h.2.1 - h0.2.1 + 1 ≤ R.cells; rw [hRc]; omega) (by show h.2.2.1 - h0.2.2.1 + n.toNatClampNeg ≤ R.slots; rw [hRs]; omega) fun cA kA comp g1 g2 g3 => ?_
  have hz := hR.1
  have hRa : Ra G.1 s (H.push { cls := cA, slots := Array.replicate n.toNatClampNeg (defaultValue (newarray.typeOf at_)), vm := .none }) h.2.1 (.inl (t, n.toNatClampNeg, if t ≤ 3 then .inl (fun _ => 0) else if t = 4 then .inr (.inl (fun _ => 0)) else .inr (.inr (.inr (.inr (fun _ => none)))))) := by
    refine ⟨_, by rw [← hz]; exact Array.getElem?_push_size, ⟨⟨(fun k hk => by cases hk), kA, g2, comp, by rw [← hty]; exact g3⟩, fun C' hC => ?_, fun h4 => ?_⟩, (fun hk => by cases hk), by simp, fun j hj => ?_, fun _ => ?_⟩
    · exfalso
      rcases (show t = 0 ∨ t = 1 ∨ t = 2 ∨ t = 3 ∨ t = 4 by omega) with rfl | rfl | rfl | rfl | rfl <;> simp [aT] at hC
    · subst h4
      rw [hty] at g1
      exact g1
    · have hj' : j < n.toNatClampNeg := hj
      rw [hty, hdv j]
      simp [hj']
    · rw [arrV_new]
      exact arrV_congr fun z hz => by rw [hty]; exact hdv z
  have kk' := kk (H.push { cls := cA, slots := Array.replicate n.toNatClampNeg (defaultValue (newarray.typeOf at_)), vm := .none }) locs ls (hR.push (by omega) (by simp) (fun q hq => by rw [Array.getElem?_push, if_neg (Nat.ne_of_lt hq)]) hRa) (LeN hL h3 h4) hlo hl
  have e1 : (hN h n.toNatClampNeg (.inl (t, n.toNatClampNeg, if t ≤ 3 then .inl (fun _ => 0) else if t = 4 then .inr (.inl (fun _ => 0)) else .inr (.inr (.inr (.inr (fun _ => none))))))).2.1 - h0.2.1 = h.2.1 - h0.2.1 + 1 := by show h.2.1 + 1 - h0.2.1 = _; omega
  have e2 : (hN h n.toNatClampNeg (.inl (t, n.toNatClampNeg, if t ≤ 3 then .inl (fun _ => 0) else if t = 4 then .inr (.inl (fun _ => 0)) else .inr (.inr (.inr (.inr (fun _ => none))))))).2.2.1 - h0.2.2.1 = h.2.2.1 - h0.2.2.1 + n.toNatClampNeg := by show h.2.2.1 + n.toNatClampNeg - h0.2.2.1 = _; omega
  rw [e1, e2] at kk'
  rw [hz]
  exact kk'
theorem Cx.newa0 (C : Cx X G own cc nL ret fr lo h0) {pc pf q : Nat} {lv : LV} {st : List Value} {n : Int32} {h' : AH} (hw : Cond.arrayClass .int ∈ lw_good) (hv : nwA 0 n h = some (q, h')) (hd : decode cc pc = .ok (.newarray .int, 2)) (hf : pc + 2 = pf) (kk : V X G h0 Q pf lv (.ref q :: st) h') : V X G h0 Q pc lv (.int n :: st) h := C.newa (at_ := .int) 0 hw rfl (by decide) (by decide) (fun _ => rfl) hv hd hf kk
theorem Cx.newa1 (C : Cx X G own cc nL ret fr lo h0) {pc pf q : Nat} {lv : LV} {st : List Value} {n : Int32} {h' : AH} (hw : Cond.arrayClass .byte ∈ lw_good) (hv : nwA 1 n h = some (q, h')) (hd : decode cc pc = .ok (.newarray .byte, 2)) (hf : pc + 2 = pf) (kk : V X G h0 Q pf lv (.ref q :: st) h') : V X G h0 Q pc lv (.int n :: st) h := C.newa (at_ := .byte) 1 hw rfl (by decide) (by decide) (fun _ => rfl) hv hd hf kk
theorem Cx.newa2 (C : Cx X G own cc nL ret fr lo h0) {pc pf q : Nat} {lv : LV} {st : List Value} {n : Int32} {h' : AH} (hw : Cond.arrayClass .boolean ∈ lw_good) (hv : nwA 2 n h = some (q, h')) (hd : decode cc pc = .ok (.newarray .boolean, 2)) (hf : pc + 2 = pf) (kk : V X G h0 Q pf lv (.ref q :: st) h') : V X G h0 Q pc lv (.int n :: st) h := C.newa (at_ := .boolean) 2 hw rfl (by decide) (by decide) (fun _ => rfl) hv hd hf kk
theorem Cx.newa3 (C : Cx X G own cc nL ret fr lo h0) {pc pf q : Nat} {lv : LV} {st : List Value} {n : Int32} {h' : AH} (hw : Cond.arrayClass .short ∈ lw_good) (hv : nwA 3 n h = some (q, h')) (hd : decode cc pc = .ok (.newarray .short, 2)) (hf : pc + 2 = pf) (kk : V X G h0 Q pf lv (.ref q :: st) h') : V X G h0 Q pc lv (.int n :: st) h := C.newa (at_ := .short) 3 hw rfl (by decide) (by decide) (fun _ => rfl) hv hd hf kk
theorem Cx.newa4 (C : Cx X G own cc nL ret fr lo h0) {pc pf q : Nat} {lv : LV} {st : List Value} {n : Int32} {h' : AH} (hw : Cond.arrayClass .long ∈ lw_good) (hv : nwA 4 n h = some (q, h')) (hd : decode cc pc = .ok (.newarray .long, 2)) (hf : pc + 2 = pf) (kk : V X G h0 Q pf lv (.ref q :: st) h') : V X G h0 Q pc lv (.int n :: st) h := C.newa (at_ := .long) 4 hw rfl (by decide) (by decide) (fun _ => rfl) hv hd hf kk
/-- an array of references -/
theorem Cx.anew (C : Cx X G own cc nL ret fr lo h0) {pc pf q idx : Nat} {lv : LV} {st : List Value} {n : Int32} {h' : AH} {Cn : String} (t : Nat) (hw : Cond.classLink own idx Cn ∈ lw_good) (hty : aT t = .object Cn) (ht : 4 < t) (ht2 : t < 20) (hao : ∀ U, K1 G U → va_AO Cn U) (hv : nwA t n h = some (q, h')) (hd : decode cc pc = .ok (.anewarray idx, 3)) (hf : pc + 3 = pf) (kk : V X G h0 Q pf lv (.ref q :: st) h') : V X G h0 Q pc lv (.int n :: st) h := by
  subst hf
  obtain ⟨p, l, e, R, s, m, args, below, meth, c⟩ := X
  obtain ⟨hx, hb, hml, hown, hts, -, -, hK, -, -, hRc, hRs⟩ := C
  intro H locs ls hR hL hlo hl
  obtain ⟨h1, h2, h3, h4, rfl, rfl⟩ := nwA_some hv
  have hRc : R.cells = h0.1 + 601024 - h0.2.1 := hRc
  have hRs : R.slots = 7293034 - h0.2.2.1 := hRs
  obtain ⟨x1, x2, x3, x4, x5, x6⟩ := id hL
  refine W.anew hx hb hown (hts _ hw) (va_AO.use (hao _ hK)) rfl hd rfl h1 (by omega) (by show h.2.1 - h0.2.1 + 1 ≤ R.cells; rw [hRc]; omega) (by show h.2.2.1 - h0.2.2.1 + n.toNatClampNeg ≤ R.slots; rw [hRs]; omega) fun cA kA comp g1 g2 g3 g4 => ?_
  have hz := hR.1
  have hif : (if t ≤ 3 then Sum.inl (fun _ => 0) else if t = 4 then .inr (.inl (fun _ => 0)) else .inr (.inr (.inr (.inr (fun _ => none)))) : (Nat → Int32) ⊕ (Nat → Int64) ⊕ (Nat → UInt32) ⊕ (Nat → UInt64) ⊕ (Nat → Option Nat)) = .inr (.inr (.inr (.inr (fun _ => none)))) := by
    rw [if_neg (by omega), if_neg (by omega)]
  rw [hif] at kk
  have hRa : Ra G.1 s (H.push { cls := cA, slots := Array.replicate n.toNatClampNeg .null, vm := .none }) h.2.1 (.inl (t, n.toNatClampNeg, .inr (.inr (.inr (.inr (fun _ => none)))))) := by
    refine ⟨_, by rw [← hz]; exact Array.getElem?_push_size, ⟨⟨(fun k hk => by cases hk), kA, g2, comp, by rw [hty]; exact g3⟩, fun C' hC => ?_, fun h4 => by omega⟩, (fun hk => by cases hk), by simp, fun j hj => ?_, fun _ => ?_⟩
    · have : C' = Cn := by rw [hty] at hC; exact (FieldType.object.inj hC).symm
      subst this
      exact ⟨kA, comp, g2, g3, g4⟩
    · have hj' : j < n.toNatClampNeg := hj
      simp [hj', aV, va_rf]
    · rw [arrV_new]; rfl
  have kk' := kk (H.push { cls := cA, slots := Array.replicate n.toNatClampNeg .null, vm := .none }) locs ls (hR.push (by omega) (by simp) (fun q hq => by rw [Array.getElem?_push, if_neg (Nat.ne_of_lt hq)]) hRa) (LeN hL h3 h4) hlo hl
  have e1 : (hN h n.toNatClampNeg (.inl (t, n.toNatClampNeg, .inr (.inr (.inr (.inr (fun _ => none))))))).2.1 - h0.2.1 = h.2.1 - h0.2.1 + 1 := by show h.2.1 + 1 - h0.2.1 = _; omega
  have e2 : (hN h n.toNatClampNeg (.inl (t, n.toNatClampNeg, .inr (.inr (.inr (.inr (fun _ => none))))))).2.2.1 - h0.2.2.1 = h.2.2.1 - h0.2.2.1 + n.toNatClampNeg := by show h.2.2.1 + n.toNatClampNeg - h0.2.2.1 = _; omega
  rw [e1, e2] at kk'
  rw [hz]
  exact kk'
theorem nwO_some {ci N q : Nat} {F : Nat → Value} {h h' : AH} (hg : nwO ci N F h = some (q, h')) : h.2.1 + 1 ≤ h.1 + 601024 ∧ h.2.2.1 + N ≤ 7293034 ∧ q = h.2.1 ∧ h' = hN h N (.inr (ci, F)) := by
  unfold nwO at hg
  split at hg
  · rename_i h2
    cases hg
    exact ⟨h2.1, h2.2, rfl, rfl⟩
  · cases hg
/-- the class ci of the claim, in words -/
def CL (ci : Nat) (Cn : String) (N : Nat) (F : Nat → Value) : Prop := ∃ (T : u_T) (ty0 : Nat → FieldType), vwCl[ci]? = some (Cn, T, N) ∧ (∀ w ∈ u_ws Cn T N, w ∈ lw_good) ∧ (∀ k, k < N → parseFieldDescriptor (T k).2.2.1 = some (ty0 k)) ∧ (∀ k, k < N → defaultValue (ty0 k) = F k) ∧ Cond.instantiable Cn N ∈ lw_good ∧ Cond.initialized Cn ∈ lw_good
theorem Cx.newo (C : Cx X G own cc nL ret fr lo h0) {pc pf q idx ci N : Nat} {lv : LV} {st : List Value} {h' : AH} {Cn : String} {F : Nat → Value} (hC : CL ci Cn N F) (hw : Cond.classLink own idx Cn ∈ lw_good) (hv : nwO ci N F h = some (q, h')) (hd : decode cc pc = .ok (.new idx, 3)) (hf : pc + 3 = pf) (kk : V X G h0 Q pf lv (.ref q :: st) h') : V X G h0 Q pc lv st h := by
  subst hf
  obtain ⟨p, l, e, R, s, m, args, below, meth, c⟩ := X
  obtain ⟨hx, hb, hml, hown, hts, -, -, hK, -, -, hRc, hRs⟩ := C
  intro H locs ls hR hL hlo hl
  obtain ⟨h3, h4, rfl, rfl⟩ := nwO_some hv
  obtain ⟨T, ty0, hc, hin, hty, hdv, hins, hini⟩ := hC
  have hRc : R.cells = h0.1 + 601024 - h0.2.1 := hRc
  have hRs : R.slots = 7293034 - h0.2.2.1 := hRs
  obtain ⟨x1, x2, x3, x4, x5, x6⟩ := id hL
  have hKn := hK.1.1 ci _ hc
  have hz := hR.1
  refine W.newcK hx hb hown (hts _ hw) (hts _ hins) (hts _ hini) rfl hd (by show h.2.1 - h0.2.1 + 1 ≤ R.cells; rw [hRc]; omega) (by show h.2.2.1 - h0.2.2.1 + N ≤ R.slots; rw [hRs]; omega) hKn.2.1 hz fun H1 kC hkC e1 z1 o1 => ?_
  have kk' := kk H1 locs ls (hR.push (by omega) (by rw [z1, hz]) (fun q hq => o1 q (by rw [← hz]; exact hq)) (Or.inl ⟨_, hc, (u_born ty0 hts hin hKn hkC e1 hty).to hdv⟩)) (LeN hL h3 h4) hlo hl
  have e1 : (hN h N (.inr (ci, F))).2.1 - h0.2.1 = h.2.1 - h0.2.1 + 1 := by show h.2.1 + 1 - h0.2.1 = _; omega
  have e2 : (hN h N (.inr (ci, F))).2.2.1 - h0.2.2.1 = h.2.2.1 - h0.2.2.1 + N := by show h.2.2.1 + N - h0.2.2.1 = _; omega
  rw [e1, e2] at kk'
  exact kk'
theorem isO_some {ci a : Nat} {h : AH} (hg : isO ci h a = true) : ∃ F : Nat → Value, h.2.2.2 a = some (.inr (ci, F)) := by
  unfold isO hM at hg
  split at hg
  · rename_i o ho
    have : o.1 = ci := by simpa using hg
    subst this
    exact ⟨o.2, ho⟩
  · cases hg
theorem sQ_some {t ci x : Nat} {h h' : AH} {a : Nat} {i : Int32} (hg : sQ t ci h a i x = some h') : ∃ (n : Nat) (f : Nat → Option Nat), h.2.2.2 a = some (.inl (t, n, .inr (.inr (.inr (.inr f))))) ∧ h.1 ≤ a ∧ isO ci h x = true ∧ ¬ (i < 0 ∨ n ≤ i.toNatClampNeg) ∧ i.toNatClampNeg < n ∧ h' = hS h a (.inl (t, n, .inr (.inr (.inr (.inr (va_up f i.toNatClampNeg (some x))))))) := by
  unfold sQ hM at hg
  split at hg
  · rename_i t' n f hm
    split at hg
    · rename_i hc
      obtain ⟨rfl, hb, ho⟩ := hc
      obtain ⟨j, hj, hx⟩ := Option.map_eq_some_iff.mp hg
      obtain ⟨h1, h2, h3⟩ := iN_some hj
      subst h2
      exact ⟨n, f, hm, hb, ho, h1, h3, hx.symm⟩
    · cases hg
  · cases hg
theorem Cx.aast (C : Cx X G own cc nL ret fr lo h0) {pc pf a x ci N : Nat} {lv : LV} {st : List Value} {i : Int32} {h' : AH} {Cn : String} {T : u_T} (t : Nat) (hc : vwCl[ci]? = some (Cn, T, N)) (hci : ci ≠ 99) (hty : aT t = .object Cn) (hv : sQ t ci h a i x = some h') (hd : decode cc pc = .ok (.aastore, 1)) (hf : pc + 1 = pf) (kk : V X G h0 Q pf lv st h') : V X G h0 Q pc lv (.ref x :: .int i :: .ref a :: st) h := by
  subst hf
  obtain ⟨p, l, e, R, s, m, args, below, meth, c⟩ := X
  obtain ⟨hx, hb, hml, hown, hts, -, -, hK, -⟩ := C
  intro H locs ls hR hL hlo hl
  obtain ⟨n, f, hm, hba, ho, h1, h2, rfl⟩ := sQ_some hv
  obtain ⟨F, hF⟩ := isO_some ho
  obtain ⟨cell, q1, q2, q3, q4, q5, q6⟩ := hR.2.2.2 a _ hm
  obtain ⟨r, g0, cellV, g1, g2, g3, -⟩ := Ra_obj hci (hR.2.2.2 x _ hF)
  obtain ⟨k, comp, k1, k2, k3⟩ := q2.2.1 Cn hty
  have hcls := (hK.1.1 ci _ hc).2
  have hcomp : comp = G.1.1 ci := Option.some.inj (k3.symm.trans hcls.1)
  subst hcomp
  obtain ⟨kC, hkC, -⟩ := hcls.2
  refine W.aast hx hb q1 q2.1.1 q3 k1 k2 rfl hkC ⟨fun q => h1 (Or.inl q), by rw [q4]; exact h2⟩ g1 (fun q h => by rw [g3] at h; cases h) (by rw [g2]; exact hkC) (by rw [g2]; exact va_assign hcls) rfl rfl hd fun H1 e1 z1 o1 => ?_
  refine kk H1 _ ls (hR.set hba z1 o1 (Ra_store (x := (n, .inr (.inr (.inr (.inr f))))) rfl rfl q2 q3 q4 q5 q6 e1 h2 fun z hz => ?_)) hL (lo_app hlo (by rw [← hL.1]; exact hba)) hl
  by_cases hzj : z = i.toNatClampNeg <;> simp [aV, va_up, hzj, va_rf]
theorem nnI {z : Int32} (hz : ¬ z < 0) : z.toInt = (z.toNatClampNeg : Int) := by
  have hz0 : (0 : Int) ≤ z.toInt := by
    have := Int32.not_lt.mp hz
    simpa using Int32.le_iff_toInt_le.mp this
  show z.toInt = ((z.toInt.toNat : Nat) : Int)
  omega
theorem cpI_some {t a b : Nat} {h h' : AH} {i j n : Int32} (hg : cpI t h a i b j n = some h') : ∃ (n1 n2 : Nat) (f g : Nat → Int32), h.2.2.2 a = some (.inl (t, n1, .inl f)) ∧ h.2.2.2 b = some (.inl (t, n2, .inl g)) ∧ h.1 ≤ b ∧ ¬ i < 0 ∧ ¬ j < 0 ∧ ¬ n < 0 ∧ i.toNatClampNeg + n.toNatClampNeg ≤ n1 ∧ j.toNatClampNeg + n.toNatClampNeg ≤ n2 ∧ (∀ z, z < n.toNatClampNeg → fits (aT t) (.int (f (i.toNatClampNeg + z))) = true) ∧ h' = hS h b (.inl (t, n2, .inl (va_cpy f g i.toNatClampNeg j.toNatClampNeg n.toNatClampNeg))) := by
  unfold cpI hM at hg
  split at hg
  · rename_i t1 n1 f t2 n2 g hm1 hm2
    split at hg
    · rename_i hc
      obtain ⟨rfl, rfl, c1, c2, c3, c4, c5, c6, c7⟩ := hc
      cases hg
      refine ⟨n1, n2, f, g, hm1, hm2, c1, c2, c3, c4, c5, c6, fun z hz => ?_, rfl⟩
      exact List.all_eq_true.mp c7 z (List.mem_range.mpr hz)
    · cases hg
  · cases hg
theorem cpL_some {a b : Nat} {h h' : AH} {i j n : Int32} (hg : cpL h a i b j n = some h') : ∃ (n1 n2 : Nat) (f g : Nat → Int64), h.2.2.2 a = some (.inl (4, n1, .inr (.inl f))) ∧ h.2.2.2 b = some (.inl (4, n2, .inr (.inl g))) ∧ h.1 ≤ b ∧ ¬ i < 0 ∧ ¬ j < 0 ∧ ¬ n < 0 ∧ i.toNatClampNeg + n.toNatClampNeg ≤ n1 ∧ j.toNatClampNeg + n.toNatClampNeg ≤ n2 ∧ h' = hS h b (.inl (4, n2, .inr (.inl (va_cpy f g i.toNatClampNeg j.toNatClampNeg n.toNatClampNeg)))) := by
  unfold cpL hM at hg
  split at hg
  · rename_i t1 n1 f t2 n2 g hm1 hm2
    split at hg
    · rename_i hc
      obtain ⟨rfl, rfl, c1, c2, c3, c4, c5, c6⟩ := hc
      cases hg
      exact ⟨n1, n2, f, g, hm1, hm2, c1, c2, c3, c4, c5, c6, rfl⟩
    · cases hg
  · cases hg
/-- a run of slots written over an exact array -/
theorem Ra_arrV {D : va_G} {U : State} {H : Heap} {a t n : Nat} {x : vp_A} {cA : ClassId} (hx : x.1 = n) (hK : ∀ z, aK U (arrV cA n z) t) (h1 : H[a]? = some (arrV cA n (aV x))) : Ra D U H a (.inl (t, x)) :=
  ⟨_, h1, hK _, (fun h => by cases h), by rw [arrV_size]; exact hx.symm, fun j hj => arrV_read _ _ (by rw [← hx]; exact hj), fun _ => by subst hx; rfl⟩
theorem Cx.copyI (C : Cx X G own cc nL ret fr lo h0) {pc pf a b idx : Nat} {lv : LV} {st : List Value} {i j n : Int32} {h' : AH} (t : Nat) (ht : t ≤ 3) (hw : Cond.methodLink own idx arraycopyName ∈ lw_good) (hw2 : Cond.native arraycopyName ∈ lw_good) (hw3 : Cond.static arraycopyName ∈ lw_good) (hw4 : Cond.initialized "java/lang/System" ∈ lw_good) (hfr : 1 ≤ fr) (hlo0 : 8 + (nativeFrameWords "java/lang/System" "arraycopy" 5 + 11) ≤ lo) (hst : (st.map fun v => v.category).sum ≤ 8) (hv : cpI t h a i b j n = some h') (hd : decode cc pc = .ok (.invokestatic idx, 3)) (hf : pc + 3 = pf) (kk : V X G h0 Q pf lv st h') : V X G h0 Q pc lv (.int n :: .int j :: .ref b :: .int i :: .ref a :: st) h := by
  subst hf
  obtain ⟨p, l, e, R, s, m, args, below, meth, c⟩ := X
  obtain ⟨hx, hb, hml, hown, hts, -, -, hK, hRf, hRl, -⟩ := C
  intro H locs ls hR hL hlo hl
  obtain ⟨n1, n2, f, g, m1, m2, hba, c1, c2, c3, c4, c5, c6, rfl⟩ := cpI_some hv
  obtain ⟨ca, p1, p2, p3, p4, p5, p6⟩ := hR.2.2.2 a _ m1
  obtain ⟨cb, q1, q2, q3, q4, q5, q6⟩ := hR.2.2.2 b _ m2
  have ea := p6 (by show t < 20; omega)
  have eb := q6 (by show t < 20; omega)
  have hprim : refKind (aT t) = false := by
    rcases (show t = 0 ∨ t = 1 ∨ t = 2 ∨ t = 3 by omega) with rfl | rfl | rfl | rfl <;> rfl
  obtain ⟨ps, k0, hk0, cm0, hkk0⟩ := p2.1
  obtain ⟨qs, k1, hk1, cm1, hkk1⟩ := q2.1
  have hb : c.code = cc := hb
  have hx : p.tables.exec = Jvm.exec := hx
  have hRf : R.frames = fr := hRf
  have hRl : R.locals = lo := hRl
  show W p l e R s m args below meth c H locs (h.2.1 - h0.2.1) (h.2.2.1 - h0.2.2.1) (ZQ below s G h0 Q) (F0 m pc ls (.int n :: .int j :: .ref b :: .int i :: .ref a :: st))
  intro T hT Y
  obtain ⟨vm', Y', step⟩ := Y.arraycopy hx hown (hts _ hw) (hts _ hw2) (hts _ hw3) (hts _ hw4) (src := a) (dst := b) (cs := ca) (cd := cb) (srcPos := i) (destPos := j) (n := n) (by rw [hT]; exact p1) (by rw [hT]; exact q1)
    ps qs p3 q3 hk0 hk1 hkk0 hkk1 (by simp [hprim]) c1 c2 c3
    (by rw [nnI c1, nnI c3, p4]; show ¬ _ > ((n1 : Nat) : Int); omega)
    (by rw [nnI c2, nnI c3, q4]; show ¬ _ > ((n2 : Nat) : Int); omega)
    (fun vm₁ _ z hz => by
      have e : ca.slots.getD (i.toNatClampNeg + z) .null = .int (f (i.toNatClampNeg + z)) := by
        rw [Array.getD_eq_getD_getElem?, p5 _ (by show _ < n1; omega)]
        rfl
      refine ⟨?_, ?_⟩
      · rw [e]; exact c6 z hz
      · rw [e]; exact trivial)
    (g := F0 m pc ls (.int n :: .int j :: .ref b :: .int i :: .ref a :: st)) rfl hl.1 (rest := st) rfl (by rw [hb]; exact hd) (by rw [hRf]; exact hfr) (by rw [hRl]; show 2 * 0 + _ + _ ≤ _; omega)
  have e1 : copied ca cb i j n = arrV cb.cls n2 (fun z => .int (va_cpy f g i.toNatClampNeg j.toNatClampNeg n.toNatClampNeg z)) := by
    rw [ea, eb]
    exact va_copied (fun z => .int z) ca.cls cb.cls f g c4
  rw [e1] at Y' step
  have hlo2 : ∀ q ∈ locs ++ (ca.stretch i.toNatClampNeg n.toNatClampNeg).zipIdx.map (fun q => (⟨b, j.toNatClampNeg + q.2⟩ : Loc)), h0.1 ≤ q.base := by
    intro q hq
    rcases List.mem_append.mp hq with hq | hq
    · exact hlo q hq
    · obtain ⟨z, -, hz⟩ := List.mem_map.mp hq
      rw [← hz]
      show h0.1 ≤ b
      rw [← hL.1]; exact hba
  have hlb : b < H.size := (Array.getElem?_eq_some_iff.mp q1).1
  have hheap : ((T.setVm vm').setCell b (arrV cb.cls n2 (fun z => .int (va_cpy f g i.toNatClampNeg j.toNatClampNeg n.toNatClampNeg z)))).heap = H.setIfInBounds b (arrV cb.cls n2 (fun z => .int (va_cpy f g i.toNatClampNeg j.toNatClampNeg n.toNatClampNeg z))) := by rw [← hT]; rfl
  obtain ⟨t', a1, b1⟩ := kk _ _ ls (hR.set (e := .inl (t, n2, .inl (va_cpy f g i.toNatClampNeg j.toNatClampNeg n.toNatClampNeg))) hba (by simp) (fun q hq => by simp [Array.getElem?_setIfInBounds, Ne.symm hq]) (Ra_arrV (cA := cb.cls) rfl (fun z => ⟨⟨(fun k h => by cases h), q2.1.2⟩, q2.2.1, q2.2.2⟩) (show (H.setIfInBounds b _)[b]? = some _ by simp [Array.getElem?_setIfInBounds, hlb]; rfl))) hL hlo2 hl _ hheap Y'
  exact ⟨t', step t' a1, b1⟩
theorem Cx.copyL (C : Cx X G own cc nL ret fr lo h0) {pc pf a b idx : Nat} {lv : LV} {st : List Value} {i j n : Int32} {h' : AH} (hw : Cond.methodLink own idx arraycopyName ∈ lw_good) (hw2 : Cond.native arraycopyName ∈ lw_good) (hw3 : Cond.static arraycopyName ∈ lw_good) (hw4 : Cond.initialized "java/lang/System" ∈ lw_good) (hfr : 1 ≤ fr) (hlo0 : 8 + (nativeFrameWords "java/lang/System" "arraycopy" 5 + 11) ≤ lo) (hst : (st.map fun v => v.category).sum ≤ 8) (hv : cpL h a i b j n = some h') (hd : decode cc pc = .ok (.invokestatic idx, 3)) (hf : pc + 3 = pf) (kk : V X G h0 Q pf lv st h') : V X G h0 Q pc lv (.int n :: .int j :: .ref b :: .int i :: .ref a :: st) h := by
  subst hf
  obtain ⟨p, l, e, R, s, m, args, below, meth, c⟩ := X
  obtain ⟨hx, hb, hml, hown, hts, -, -, hK, hRf, hRl, -⟩ := C
  intro H locs ls hR hL hlo hl
  obtain ⟨n1, n2, f, g, m1, m2, hba, c1, c2, c3, c4, c5, rfl⟩ := cpL_some hv
  obtain ⟨ca, p1, p2, p3, p4, p5, p6⟩ := hR.2.2.2 a _ m1
  obtain ⟨cb, q1, q2, q3, q4, q5, q6⟩ := hR.2.2.2 b _ m2
  have ea := p6 (show 4 < 20 by decide)
  have eb := q6 (show 4 < 20 by decide)
  obtain ⟨ps, k0, hk0, cm0, hkk0⟩ := p2.1
  obtain ⟨qs, k1, hk1, cm1, hkk1⟩ := q2.1
  have hb : c.code = cc := hb
  have hx : p.tables.exec = Jvm.exec := hx
  have hRf : R.frames = fr := hRf
  have hRl : R.locals = lo := hRl
  show W p l e R s m args below meth c H locs (h.2.1 - h0.2.1) (h.2.2.1 - h0.2.2.1) (ZQ below s G h0 Q) (F0 m pc ls (.int n :: .int j :: .ref b :: .int i :: .ref a :: st))
  intro T hT Y
  obtain ⟨vm', Y', step⟩ := Y.arraycopy hx hown (hts _ hw) (hts _ hw2) (hts _ hw3) (hts _ hw4) (src := a) (dst := b) (cs := ca) (cd := cb) (srcPos := i) (destPos := j) (n := n) (by rw [hT]; exact p1) (by rw [hT]; exact q1)
    ps qs p3 q3 hk0 hk1 hkk0 hkk1 (by rfl) c1 c2 c3
    (by rw [nnI c1, nnI c3, p4]; show ¬ _ > ((n1 : Nat) : Int); omega)
    (by rw [nnI c2, nnI c3, q4]; show ¬ _ > ((n2 : Nat) : Int); omega)
    (fun vm₁ _ z hz => by
      have e : ca.slots.getD (i.toNatClampNeg + z) .null = .long (f (i.toNatClampNeg + z)) := by
        rw [Array.getD_eq_getD_getElem?, p5 _ (by show _ < n1; omega)]
        rfl
      refine ⟨?_, ?_⟩
      · rw [e]; rfl
      · rw [e]; exact trivial)
    (g := F0 m pc ls (.int n :: .int j :: .ref b :: .int i :: .ref a :: st)) rfl hl.1 (rest := st) rfl (by rw [hb]; exact hd) (by rw [hRf]; exact hfr) (by rw [hRl]; show 2 * 0 + _ + _ ≤ _; omega)
  have e1 : copied ca cb i j n = arrV cb.cls n2 (fun z => .long (va_cpy f g i.toNatClampNeg j.toNatClampNeg n.toNatClampNeg z)) := by
    rw [ea, eb]
    exact va_copied (fun z => .long z) ca.cls cb.cls f g c4
  rw [e1] at Y' step
  have hlo2 : ∀ q ∈ locs ++ (ca.stretch i.toNatClampNeg n.toNatClampNeg).zipIdx.map (fun q => (⟨b, j.toNatClampNeg + q.2⟩ : Loc)), h0.1 ≤ q.base := by
    intro q hq
    rcases List.mem_append.mp hq with hq | hq
    · exact hlo q hq
    · obtain ⟨z, -, hz⟩ := List.mem_map.mp hq
      rw [← hz]
      show h0.1 ≤ b
      rw [← hL.1]; exact hba
  have hlb : b < H.size := (Array.getElem?_eq_some_iff.mp q1).1
  have hheap : ((T.setVm vm').setCell b (arrV cb.cls n2 (fun z => .long (va_cpy f g i.toNatClampNeg j.toNatClampNeg n.toNatClampNeg z)))).heap = H.setIfInBounds b (arrV cb.cls n2 (fun z => .long (va_cpy f g i.toNatClampNeg j.toNatClampNeg n.toNatClampNeg z))) := by rw [← hT]; rfl
  obtain ⟨t', a1, b1⟩ := kk _ _ ls (hR.set (e := .inl (4, n2, .inr (.inl (va_cpy f g i.toNatClampNeg j.toNatClampNeg n.toNatClampNeg)))) hba (by simp) (fun q hq => by simp [Array.getElem?_setIfInBounds, Ne.symm hq]) (Ra_arrV (cA := cb.cls) rfl (fun z => ⟨⟨(fun k h => by cases h), q2.1.2⟩, q2.2.1, q2.2.2⟩) (show (H.setIfInBounds b _)[b]? = some _ by simp [Array.getElem?_setIfInBounds, hlb]; rfl))) hL hlo2 hl _ hheap Y'
  exact ⟨t', step t' a1, b1⟩
theorem clL_some {h h' : AH} {a q : Nat} (hg : clL h a = some (q, h')) : ∃ (n : Nat) (f : Nat → Int64), h.2.2.2 a = some (.inl (4, n, .inr (.inl f))) ∧ h.2.1 + 1 ≤ h.1 + 601024 ∧ h.2.2.1 + n ≤ 7293034 ∧ q = h.2.1 ∧ h' = hN h n (.inl (4, n, .inr (.inl f))) := by
  unfold clL hM at hg
  split at hg
  · rename_i t n f hm
    split at hg
    · rename_i hc
      obtain ⟨rfl, h1, h2⟩ := hc
      cases hg
      exact ⟨n, f, hm, h1, h2, rfl, rfl⟩
    · cases hg
  · cases hg
/-- clone, and the cast behind it -/
theorem Cx.cloneL (C : Cx X G own cc nL ret fr lo h0) {pc pf a q idx idx2 : Nat} {lv : LV} {st : List Value} {h' : AH} (hw1 : Cond.methodLink own idx ⟨"[J", "clone", "()Ljava/lang/Object;"⟩ ∈ lw_good) (hw2 : Cond.sameMethod "[J" "java/lang/Object" "clone" "()Ljava/lang/Object;" ∈ lw_good) (hw3 : Cond.native ⟨"java/lang/Object", "clone", "()Ljava/lang/Object;"⟩ ∈ lw_good) (hw4 : Cond.instanceMethod ⟨"java/lang/Object", "clone", "()Ljava/lang/Object;"⟩ ∈ lw_good) (hw5 : Cond.selects "[J" ⟨"[J", "clone", "()Ljava/lang/Object;"⟩ ⟨"java/lang/Object", "clone", "()Ljava/lang/Object;"⟩ ∈ lw_good) (hw6 : Cond.classLink own idx2 "[J" ∈ lw_good) (hfr : 1 ≤ fr) (hlo0 : 22 ≤ lo) (hst : (st.map fun v => v.category).sum ≤ 8) (hv : clL h a = some (q, h')) (hd : decode cc pc = .ok (.invokevirtual idx, 3)) (hd2 : decode cc (pc + 3) = .ok (.checkcast idx2, 3)) (hf : pc + 6 = pf) (kk : V X G h0 Q pf lv (.ref q :: st) h') : V X G h0 Q pc lv (.ref a :: st) h := by
  subst hf
  obtain ⟨p, l, e, R, s, m, args, below, meth, c⟩ := X
  obtain ⟨hx, hb, hml, hown, hts, -, -, hK, hRf, hRl, hRc, hRs⟩ := C
  intro H locs ls hR hL hlo hl
  obtain ⟨n, f, m1, c1, c2, rfl, rfl⟩ := clL_some hv
  obtain ⟨ca, p1, p2, p3, p4, p5, p6⟩ := hR.2.2.2 a _ m1
  have ea := p6 (show 4 < 20 by decide)
  have hnm : s.vm.findClass "[J" = some ca.cls := p2.2.2 rfl
  obtain ⟨ps, k0, hk0, cm0, hkk0⟩ := p2.1
  obtain ⟨c0, t0, f1, f2, f3⟩ := Cond.castable_spec (va_Nw.use (A := args) rfl hK.2.2.2.1.2.2.2.2)
  cases hnm.symm.trans f1
  have hb : c.code = cc := hb
  have hx : p.tables.exec = Jvm.exec := hx
  have hRf : R.frames = fr := hRf
  have hRl : R.locals = lo := hRl
  have hRc : R.cells = h0.1 + 601024 - h0.2.1 := hRc
  have hRs : R.slots = 7293034 - h0.2.2.1 := hRs
  obtain ⟨x1, x2, x3, x4, x5, x6⟩ := id hL
  have p4 : ca.slots.size = n := p4
  have hz := hR.1
  show W p l e R s m args below meth c H locs (h.2.1 - h0.2.1) (h.2.2.1 - h0.2.2.1) (ZQ below s G h0 Q) (F0 m pc ls (.ref a :: st))
  intro T hT Y
  obtain ⟨k0', hk0', he0⟩ := Y.warmed.alike.2.2 _ _ hk0
  obtain ⟨vm', Y', st1⟩ := Y.cloneArray hx hown (hts _ hw1) (hts _ hw2) (hts _ hw3) (hts _ hw4) (hts _ hw5) (a := a) (cell := ca) (by rw [hT]; exact p1) ps p3 hnm f2 f3
    (fun i v hv => by
      have hkd : k0'.kind = .array cm0 .long := by rw [he0]; exact hkk0
      have hil : i < n := by rw [← p4]; exact (Array.getElem?_eq_some_iff.mp hv).1
      have hvv : v = .long (f i) := Option.some.inj (hv.symm.trans (p5 i hil))
      subst hvv
      simp [State.fitsSlot, State.slotType?, hk0', hkd, fits])
    (g := F0 m pc ls (.ref a :: st)) rfl hl.1 rfl (by rw [hb]; exact hd) (by rw [hRf]; exact hfr) (by rw [hRl]; show 2 * 0 + _ + 14 ≤ _; omega) (by rw [hRc]; omega) (by rw [hRs, p4]; omega) (hloader := Vm.clonesLoader_of_array hk0 hkk0)
  have hcellE : ({ cls := ca.cls, slots := ca.slots } : Cell) = ca := by rw [ea]; rfl
  rw [hcellE, p4] at Y'
  rw [hcellE] at st1
  have hsz : T.heap.size = h.2.1 := by rw [hT]; exact hz
  have hH1 : ((T.setVm vm').pushCell ca).heap = H.push ca := by rw [← hT]; rfl
  have hg1 : (H.push ca)[h.2.1]? = some ca := by rw [← hz]; exact Array.getElem?_push_size
  have hstat : ca.vm.isStatics = false := by rw [ea]; rfl
  obtain ⟨vm2, Y2, st2⟩ := Y'.checkcastYes hx hown (hts _ hw6) (a := h.2.1) (cell := ca) (by rw [hH1]; exact hg1) hstat hnm (va_asg _ _) (g := F0 m (pc + 3) ls (.ref h.2.1 :: st)) rfl rfl (by rw [hb]; exact hd2)
  have hRa : Ra G.1 s (H.push ca) h.2.1 (.inl (4, n, .inr (.inl f))) := ⟨ca, hg1, p2, p3, p4, p5, p6⟩
  have kk' := kk (H.push ca) locs ls (hR.push (by omega) (by simp) (fun q hq => by rw [Array.getElem?_push, if_neg (Nat.ne_of_lt hq)]) hRa) (LeN hL c1 c2) hlo hl
  have e1 : (hN h n (.inl (4, n, .inr (.inl f)))).2.1 - h0.2.1 = h.2.1 - h0.2.1 + 1 := by show h.2.1 + 1 - h0.2.1 = _; omega
  have e2 : (hN h n (.inl (4, n, .inr (.inl f)))).2.2.1 - h0.2.2.1 = h.2.2.1 - h0.2.2.1 + n := by show h.2.2.1 + n - h0.2.2.1 = _; omega
  rw [e1, e2] at kk'
  obtain ⟨t', a1, b1⟩ := kk' (((T.setVm vm').pushCell ca).setVm vm2) hH1 Y2
  refine ⟨t', st1 t' ?_, b1⟩
  rw [hsz]
  exact st2 t' a1
end NP
