/-! ===== fields ===== -/
/-- own's pool entry idx is the field k of the claim's class ci -/
def FL (own : String) (idx ci k : Nat) (ty : FieldType) (fin : Bool) : Prop := ∃ (Cn : String) (T : u_T) (N : Nat) (ty0 : Nat → FieldType), vwCl[ci]? = some (Cn, T, N) ∧ (∀ w ∈ u_ws Cn T N, w ∈ lw_good) ∧ (∀ k, k < N → parseFieldDescriptor (T k).2.2.1 = some (ty0 k)) ∧ (∀ a, a < N → ∀ b, b < N → a ≠ b → (T a).2.1 ≠ (T b).2.1) ∧ k < N ∧ ty0 k = ty ∧ (T k).2.2.2 = fin ∧
  (Cond.fieldLink own idx (T k).1 (T k).2.1 (T k).2.2.1 ∈ lw_good ∨ ∃ host : String, (own, idx, (T k).1, (T k).2.1, (T k).2.2.1, host) ∈ NFs) ∧ (fin = true → (T k).1 = own ∧ Cond.fieldLink own idx (T k).1 (T k).2.1 (T k).2.2.1 ∈ lw_good)
theorem nwFe (own : String) (idx : Nat) (a b c host : String) : nwF (own, idx, a, b, c, host) = Cond.fieldLinkNest own idx a b c host := rfl
theorem Ra_obj {D : va_G} {U : State} {H : Heap} {a ci : Nat} {F : Nat → Value} (hci : ci ≠ 99) (h : Ra D U H a (.inr (ci, F))) : ∃ r : vw_C, vwCl[ci]? = some r ∧ t_OB a (D.1 ci) r.2.2 (D.2 ci) H F := by
  rcases h with h | ⟨q, -⟩
  · exact h
  · exact absurd q hci
section HP
variable {X : MX} {G : GX} {own : String} {cc : ByteArray} {nL : Nat} {ret : Option FieldType} {fr lo : Nat} {h0 : AH} {Q : OC → AH → Prop} {h : AH}
theorem gV_some {ci : Nat} {h : AH} {a k : Nat} {v : Value} (hg : gV ci h a k = some v) : ∃ F : Nat → Value, h.2.2.2 a = some (.inr (ci, F)) ∧ F k = v := by
  unfold gV hM at hg
  split at hg
  · rename_i o ho
    split at hg
    · rename_i hc
      cases hg
      subst hc
      exact ⟨o.2, ho, rfl⟩
    · cases hg
  · cases hg
theorem Cx.getV (C : Cx X G own cc nL ret fr lo h0) {pc pf idx ci k a : Nat} {ty : FieldType} {fin : Bool} {lv : LV} {st : List Value} {v : Value} (hF : FL own idx ci k ty fin) (hv : gV ci h a k = some v) (hd : decode cc pc = .ok (.getfield idx, 3)) (hf : pc + 3 = pf) (kk : V X G h0 Q pf lv (v :: st) h) : V X G h0 Q pc lv (.ref a :: st) h := by
  subst hf
  obtain ⟨p, l, e, R, s, m, args, below, meth, c⟩ := X
  obtain ⟨hx, hb, hml, hown, hts, -, -, hK, -⟩ := C
  intro H locs ls hR hL hlo hl
  obtain ⟨Cn, T, N, ty0, hc, hin, hty, hnm, hk, -, -, hlk, -⟩ := hF
  obtain ⟨F, hm, hFk⟩ := gV_some hv
  have hci : ci ≠ 99 := by
    intro q; subst q
    have : vwCl[99]? = none := rfl
    rw [this] at hc; cases hc
  have hRa := hR.2.2.2 a _ hm
  obtain ⟨r, h1, cell, q1, q2, q3, q4⟩ := Ra_obj hci hRa
  have hr : r = (Cn, T, N) := Option.some.inj (h1.symm.trans hc)
  subst hr
  obtain ⟨hS, hfc, kC, hkC, hkind⟩ := hK.1.1 ci _ hc
  obtain ⟨cf, kf, fi, f, hi, hsl⟩ := hS k hk
  have hst := (u_facts hfc hkC (u_lays hts hin hk) hi).1
  have hvs : cell.slots[f.slot]? = some v := by rw [hsl, q4 k hk]; exact congrArg some hFk
  have kk' := kk H locs ls hR hL hlo hl
  rcases hlk with hlk | ⟨host, hlk⟩
  · exact W.getf hx hb hown (hts _ hlk) hi hst q1 (by rw [q3]; exact fun h => by cases h) hvs rfl rfl hd kk'
  · exact va_Wgetf hx hb hown (va_Nw.use rfl (hK.2.1 _ hlk)) hi hst q1 (by rw [q3]; exact fun h => by cases h) hvs rfl rfl hd kk'
theorem vI_some {v : Value} {x : Int32} (h : vI v = some x) : v = .int x := by cases v <;> simp [vI] at h; rw [h]
theorem vL_some {v : Value} {x : Int64} (h : vL v = some x) : v = .long x := by cases v <;> simp [vL] at h; rw [h]
theorem vA_some {v : Value} {x : Nat} (h : vA v = some x) : v = .ref x := by cases v <;> simp [vA] at h; rw [h]
theorem gI_some {ci : Nat} {h : AH} {a k : Nat} {x : Int32} (hg : gI ci h a k = some x) : gV ci h a k = some (.int x) := by
  unfold gI at hg
  obtain ⟨v, h1, h2⟩ := Option.bind_eq_some_iff.mp hg
  rw [h1, vI_some h2]
theorem gL_some {ci : Nat} {h : AH} {a k : Nat} {x : Int64} (hg : gL ci h a k = some x) : gV ci h a k = some (.long x) := by
  unfold gL at hg
  obtain ⟨v, h1, h2⟩ := Option.bind_eq_some_iff.mp hg
  rw [h1, vL_some h2]
theorem gA_some {ci : Nat} {h : AH} {a k : Nat} {x : Nat} (hg : gA ci h a k = some x) : gV ci h a k = some (.ref x) := by
  unfold gA at hg
  obtain ⟨v, h1, h2⟩ := Option.bind_eq_some_iff.mp hg
  rw [h1, vA_some h2]
theorem Cx.getI (C : Cx X G own cc nL ret fr lo h0) {pc pf idx ci k a : Nat} {ty : FieldType} {fin : Bool} {lv : LV} {st : List Value} {x : Int32} (hF : FL own idx ci k ty fin) (hv : gI ci h a k = some x) (hd : decode cc pc = .ok (.getfield idx, 3)) (hf : pc + 3 = pf) (kk : V X G h0 Q pf lv (.int x :: st) h) : V X G h0 Q pc lv (.ref a :: st) h := C.getV hF (gI_some hv) hd hf kk
theorem Cx.getL (C : Cx X G own cc nL ret fr lo h0) {pc pf idx ci k a : Nat} {ty : FieldType} {fin : Bool} {lv : LV} {st : List Value} {x : Int64} (hF : FL own idx ci k ty fin) (hv : gL ci h a k = some x) (hd : decode cc pc = .ok (.getfield idx, 3)) (hf : pc + 3 = pf) (kk : V X G h0 Q pf lv (.long x :: st) h) : V X G h0 Q pc lv (.ref a :: st) h := C.getV hF (gL_some hv) hd hf kk
theorem Cx.getA (C : Cx X G own cc nL ret fr lo h0) {pc pf idx ci k a : Nat} {ty : FieldType} {fin : Bool} {lv : LV} {st : List Value} {x : Nat} (hF : FL own idx ci k ty fin) (hv : gA ci h a k = some x) (hd : decode cc pc = .ok (.getfield idx, 3)) (hf : pc + 3 = pf) (kk : V X G h0 Q pf lv (.ref x :: st) h) : V X G h0 Q pc lv (.ref a :: st) h := C.getV hF (gA_some hv) hd hf kk
theorem pV_some {ci : Nat} {h h' : AH} {a k : Nat} {v : Value} (hg : pV ci h a k v = some h') : ∃ F : Nat → Value, h.2.2.2 a = some (.inr (ci, F)) ∧ h.1 ≤ a ∧ h' = hS h a (.inr (ci, updV F k v)) := by
  unfold pV hM at hg
  split at hg
  · rename_i o ho
    split at hg
    · rename_i hc
      cases hg
      obtain ⟨rfl, hb⟩ := hc
      exact ⟨o.2, ho, hb, rfl⟩
    · cases hg
  · cases hg
theorem Cx.putV (C : Cx X G own cc nL ret fr lo h0) {pc pf idx ci k a : Nat} {ty : FieldType} {lv : LV} {st : List Value} {v : Value} {h' : AH} (hF : FL own idx ci k ty false) (hn : narrow ty v = v) (hfit : fits ty v = true) (hv : pV ci h a k v = some h') (hd : decode cc pc = .ok (.putfield idx, 3)) (hf : pc + 3 = pf) (kk : V X G h0 Q pf lv st h') : V X G h0 Q pc lv (v :: .ref a :: st) h := by
  subst hf
  obtain ⟨p, l, e, R, s, m, args, below, meth, c⟩ := X
  obtain ⟨hx, hb, hml, hown, hts, -, -, hK, -⟩ := C
  intro H locs ls hR hL hlo hl
  obtain ⟨Cn, T, N, ty0, hc, hin, hty, hnm, hk, hte, hfin, hlk, -⟩ := hF
  obtain ⟨F, hm, hba, rfl⟩ := pV_some hv
  have hci : ci ≠ 99 := by
    intro q; subst q
    have : vwCl[99]? = none := rfl
    rw [this] at hc; cases hc
  have hRa := hR.2.2.2 a _ hm
  obtain ⟨r, h1, cell, q1, q2, q3, q4⟩ := Ra_obj hci hRa
  have hr : r = (Cn, T, N) := Option.some.inj (h1.symm.trans hc)
  subst hr
  have hap := va_apart (own := own) hts hin ty0 hty hnm hK.1 hc
  obtain ⟨hS, hfc, kC, hkC, hkind⟩ := hK.1.1 ci _ hc
  obtain ⟨cf, kf, fi, f, hi, hsl⟩ := hS k hk
  have hlay := hts _ (hin _ (u_in_lay hk))
  unfold u_lay at hlay
  rw [if_neg (by rw [hfin]; decide)] at hlay
  have hst := (u_facts hfc hkC (u_lays hts hin hk) hi).1
  have hpd := hty k hk
  rw [hte] at hpd
  have h6 := u_store hfc hkC hkind hlay hi hpd hn hfit
  have fin' : ∀ H' : Heap, H'[a]? = some (cell.setSlot f.slot v) → H'.size = H.size → (∀ q, q ≠ a → H'[q]? = H[q]?) → W p l e R s m args below meth c H' (locs ++ [⟨a, f.slot⟩]) (h.2.1 - h0.2.1) (h.2.2.1 - h0.2.2.1) (ZQ below s G h0 Q) (F0 m (pc + 3) ls st) := by
    intro H' e1 e2 e3
    rw [hsl] at e1 ⊢
    refine kk H' _ ls (hR.set hba e2 e3 (Or.inl ⟨_, hc, _, e1, q2, q3, t_set q4 hap hk v⟩)) hL ?_ hl
    intro q hq
    rcases List.mem_append.mp hq with hq | hq
    · exact hlo q hq
    · rw [List.mem_singleton.mp hq]; rw [← hL.1]; exact hba
  rcases hlk with hlk | ⟨host, hlk⟩
  · exact W.putK hx hb (f := f) ⟨hown, hts _ hlk, ⟨_, _, _, hi⟩, hst⟩ (by rw [q2]; exact h6) q1 q3 (by rw [hsl]; exact k2_hasslot (q4 k hk)) rfl rfl hd fin'
  · exact va_WputK hx hb (f := f) hown (va_Nw.use rfl (hK.2.1 _ hlk)) hi hst (by rw [q2]; exact h6) q1 q3 (by rw [hsl]; exact k2_hasslot (q4 k hk)) rfl rfl hd fin'
/-- a final field, in its class's constructor -/
theorem Cx.putVF (C : Cx X G own cc nL ret fr lo h0) {pc pf idx ci k a : Nat} {ty : FieldType} {lv : LV} {st : List Value} {v : Value} {h' : AH} (hnm0 : X.2.2.2.2.2.2.2.2.1.name = "<init>") (hF : FL own idx ci k ty true) (hn : narrow ty v = v) (hfit : fits ty v = true) (hv : pV ci h a k v = some h') (hd : decode cc pc = .ok (.putfield idx, 3)) (hf : pc + 3 = pf) (kk : V X G h0 Q pf lv st h') : V X G h0 Q pc lv (v :: .ref a :: st) h := by
  subst hf
  obtain ⟨p, l, e, R, s, m, args, below, meth, c⟩ := X
  obtain ⟨hx, hb, hml, hown, hts, -, -, hK, -⟩ := C
  intro H locs ls hR hL hlo hl
  obtain ⟨Cn, T, N, ty0, hc, hin, hty, hnm, hk, hte, hfin, -, hlk⟩ := hF
  obtain ⟨hdecl, hlk⟩ := hlk rfl
  obtain ⟨F, hm, hba, rfl⟩ := pV_some hv
  have hci : ci ≠ 99 := by
    intro q; subst q
    have : vwCl[99]? = none := rfl
    rw [this] at hc; cases hc
  have hRa := hR.2.2.2 a _ hm
  obtain ⟨r, h1, cell, q1, q2, q3, q4⟩ := Ra_obj hci hRa
  have hr : r = (Cn, T, N) := Option.some.inj (h1.symm.trans hc)
  subst hr
  have hap := va_apart (own := own) hts hin ty0 hty hnm hK.1 hc
  obtain ⟨hS, hfc, kC, hkC, hkind⟩ := hK.1.1 ci _ hc
  obtain ⟨cf, kf, fi, f, hi, hsl⟩ := hS k hk
  have hlay := hts _ (hin _ (u_in_lay hk))
  unfold u_lay at hlay
  rw [if_pos hfin] at hlay
  have hst := (u_facts hfc hkC (u_lays hts hin hk) hi).1
  have hpd := hty k hk
  rw [hte] at hpd
  have hown : s.vm.findClass own = some m.cls := hown
  have hcf : m.cls = cf := by
    obtain ⟨_, _, c', _, _, _, -, -, hf', -, -, -, hown2, -⟩ := Cond.laysFinal_spec hlay
    have e1 : c' = cf := by have := hi.symm.trans hf'; simp at this; exact this.1.symm
    rw [hdecl] at hown2
    rw [← e1]; exact Option.some.inj (hown.symm.trans hown2)
  have h6 := u_fits hfc hkC hkind (Or.inr hlay) hi hpd hn hfit
  refine W.putFinK hx hb hown (hts _ hlk) hi hst hcf hnm0 (by rw [q2]; exact h6) q1 q3 (by rw [hsl]; exact k2_hasslot (q4 k hk)) rfl rfl hd fun H' e1 e2 e3 => ?_
  rw [hsl] at e1 ⊢
  refine kk H' _ ls (hR.set hba e2 e3 (Or.inl ⟨_, hc, _, e1, q2, q3, t_set q4 hap hk v⟩)) hL ?_ hl
  intro q hq
  rcases List.mem_append.mp hq with hq | hq
  · exact hlo q hq
  · rw [List.mem_singleton.mp hq]; rw [← hL.1]; exact hba
theorem narI (x : Int32) : narrow .int (.int x) = .int x := rfl
theorem fitI (x : Int32) : fits .int (.int x) = true := rfl
theorem fitL (x : Int64) : fits .long (.long x) = true := rfl
theorem Cx.putI (C : Cx X G own cc nL ret fr lo h0) {pc pf idx ci k a : Nat} {lv : LV} {st : List Value} {x : Int32} {h' : AH} (hF : FL own idx ci k .int false) (hv : pI ci h a k x = some h') (hd : decode cc pc = .ok (.putfield idx, 3)) (hf : pc + 3 = pf) (kk : V X G h0 Q pf lv st h') : V X G h0 Q pc lv (.int x :: .ref a :: st) h := C.putV hF rfl rfl hv hd hf kk
theorem Cx.putL (C : Cx X G own cc nL ret fr lo h0) {pc pf idx ci k a : Nat} {lv : LV} {st : List Value} {x : Int64} {h' : AH} (hF : FL own idx ci k .long false) (hv : pL ci h a k x = some h') (hd : decode cc pc = .ok (.putfield idx, 3)) (hf : pc + 3 = pf) (kk : V X G h0 Q pf lv st h') : V X G h0 Q pc lv (.long x :: .ref a :: st) h := C.putV hF rfl rfl hv hd hf kk
theorem pZ_some {ci : Nat} {h h' : AH} {a k : Nat} {x : Int32} (hv : pZ ci h a k x = some h') : narrow .boolean (.int x) = .int x ∧ fits .boolean (.int x) = true ∧ pV ci h a k (.int x) = some h' := by
  unfold pZ at hv
  split at hv
  · rename_i hx
    refine ⟨?_, ?_, hv⟩
    · rcases hx with rfl | rfl <;> decide
    · rcases hx with rfl | rfl <;> decide
  · cases hv
theorem Cx.putZ (C : Cx X G own cc nL ret fr lo h0) {pc pf idx ci k a : Nat} {lv : LV} {st : List Value} {x : Int32} {h' : AH} (hF : FL own idx ci k .boolean false) (hv : pZ ci h a k x = some h') (hd : decode cc pc = .ok (.putfield idx, 3)) (hf : pc + 3 = pf) (kk : V X G h0 Q pf lv st h') : V X G h0 Q pc lv (.int x :: .ref a :: st) h :=
  C.putV hF (pZ_some hv).1 (pZ_some hv).2.1 (pZ_some hv).2.2 hd hf kk
/-- a reference into a field that isn't final -/
theorem refNF {ty : FieldType} (hr : (∃ n, ty = .object n) ∨ ∃ t, ty = .array t) (x : Nat) : narrow ty (.ref x) = .ref x ∧ fits ty (.ref x) = true := by
  rcases hr with ⟨n, rfl⟩ | ⟨t, rfl⟩ <;> exact ⟨rfl, rfl⟩
theorem nullNF {ty : FieldType} (hr : (∃ n, ty = .object n) ∨ ∃ t, ty = .array t) : narrow ty .null = .null ∧ fits ty .null = true := by
  rcases hr with ⟨n, rfl⟩ | ⟨t, rfl⟩ <;> exact ⟨rfl, rfl⟩
theorem Cx.putA (C : Cx X G own cc nL ret fr lo h0) {pc pf idx ci k a x : Nat} {ty : FieldType} {lv : LV} {st : List Value} {h' : AH} (hF : FL own idx ci k ty false) (hr : (∃ n, ty = .object n) ∨ ∃ t, ty = .array t) (hv : pQ ci h a k (some x) = some h') (hd : decode cc pc = .ok (.putfield idx, 3)) (hf : pc + 3 = pf) (kk : V X G h0 Q pf lv st h') : V X G h0 Q pc lv (.ref x :: .ref a :: st) h := C.putV hF (refNF hr x).1 (refNF hr x).2 hv hd hf kk
theorem Cx.putN (C : Cx X G own cc nL ret fr lo h0) {pc pf idx ci k a : Nat} {ty : FieldType} {lv : LV} {st : List Value} {h' : AH} (hF : FL own idx ci k ty false) (hr : (∃ n, ty = .object n) ∨ ∃ t, ty = .array t) (hv : pQ ci h a k none = some h') (hd : decode cc pc = .ok (.putfield idx, 3)) (hf : pc + 3 = pf) (kk : V X G h0 Q pf lv st h') : V X G h0 Q pc lv (.null :: .ref a :: st) h := C.putV hF (nullNF hr).1 (nullNF hr).2 hv hd hf kk
theorem Cx.putFA (C : Cx X G own cc nL ret fr lo h0) {pc pf idx ci k a x : Nat} {ty : FieldType} {lv : LV} {st : List Value} {h' : AH} (hnm0 : X.2.2.2.2.2.2.2.2.1.name = "<init>") (hF : FL own idx ci k ty true) (hr : (∃ n, ty = .object n) ∨ ∃ t, ty = .array t) (hv : pQ ci h a k (some x) = some h') (hd : decode cc pc = .ok (.putfield idx, 3)) (hf : pc + 3 = pf) (kk : V X G h0 Q pf lv st h') : V X G h0 Q pc lv (.ref x :: .ref a :: st) h := C.putVF hnm0 hF (refNF hr x).1 (refNF hr x).2 hv hd hf kk
theorem Cx.putFI (C : Cx X G own cc nL ret fr lo h0) {pc pf idx ci k a : Nat} {lv : LV} {st : List Value} {x : Int32} {h' : AH} (hnm0 : X.2.2.2.2.2.2.2.2.1.name = "<init>") (hF : FL own idx ci k .int true) (hv : pI ci h a k x = some h') (hd : decode cc pc = .ok (.putfield idx, 3)) (hf : pc + 3 = pf) (kk : V X G h0 Q pf lv st h') : V X G h0 Q pc lv (.int x :: .ref a :: st) h := C.putVF hnm0 hF rfl rfl hv hd hf kk
end HP
