/-! ===== arrays ===== -/
theorem iN_some {i : Int32} {n j : Nat} (h : iN i n = some j) : ¬ (i < 0 ∨ n ≤ i.toNatClampNeg) ∧ j = i.toNatClampNeg ∧ j < n := by
  unfold iN at h
  split at h
  · cases h
  · rename_i hn
    cases h
    exact ⟨hn, rfl, Nat.not_le.mp fun q => hn (Or.inr q)⟩
theorem aI_some {t : Nat} {h : AH} {a : Nat} {i x : Int32} (hg : aI t h a i = some x) : ∃ (n : Nat) (f : Nat → Int32), h.2.2.2 a = some (.inl (t, n, .inl f)) ∧ ¬ (i < 0 ∨ n ≤ i.toNatClampNeg) ∧ i.toNatClampNeg < n ∧ f i.toNatClampNeg = x := by
  unfold aI hM at hg
  split at hg
  · rename_i t' n f hm
    split at hg
    · rename_i hc
      subst hc
      obtain ⟨j, hj, hx⟩ := Option.map_eq_some_iff.mp hg
      obtain ⟨h1, h2, h3⟩ := iN_some hj
      subst h2
      exact ⟨n, f, hm, h1, h3, hx⟩
    · cases hg
  · cases hg
theorem aL_some {h : AH} {a : Nat} {i : Int32} {x : Int64} (hg : aL h a i = some x) : ∃ (n : Nat) (f : Nat → Int64), h.2.2.2 a = some (.inl (4, n, .inr (.inl f))) ∧ ¬ (i < 0 ∨ n ≤ i.toNatClampNeg) ∧ i.toNatClampNeg < n ∧ f i.toNatClampNeg = x := by
  unfold aL hM at hg
  split at hg
  · rename_i t' n f hm
    split at hg
    · rename_i hc
      subst hc
      obtain ⟨j, hj, hx⟩ := Option.map_eq_some_iff.mp hg
      obtain ⟨h1, h2, h3⟩ := iN_some hj
      subst h2
      exact ⟨n, f, hm, h1, h3, hx⟩
    · cases hg
  · cases hg
theorem aQ_some {t : Nat} {h : AH} {a : Nat} {i : Int32} {x : Option Nat} (hg : aQ t h a i = some x) : ∃ (n : Nat) (f : Nat → Option Nat), h.2.2.2 a = some (.inl (t, n, .inr (.inr (.inr (.inr f))))) ∧ ¬ (i < 0 ∨ n ≤ i.toNatClampNeg) ∧ i.toNatClampNeg < n ∧ f i.toNatClampNeg = x := by
  unfold aQ hM at hg
  split at hg
  · rename_i t' n f hm
    split at hg
    · rename_i hc
      subst hc
      obtain ⟨j, hj, hx⟩ := Option.map_eq_some_iff.mp hg
      obtain ⟨h1, h2, h3⟩ := iN_some hj
      subst h2
      exact ⟨n, f, hm, h1, h3, hx⟩
    · cases hg
  · cases hg
theorem aN_some {h : AH} {a : Nat} {x : Int32} (hg : aN h a = some x) : ∃ q : Nat × vp_A, h.2.2.2 a = some (.inl q) ∧ Int32.ofNat q.2.1 = x := by
  unfold aN hM at hg
  split at hg
  · rename_i q hm
    cases hg
    exact ⟨q, hm, rfl⟩
  · cases hg
section AP
variable {X : MX} {G : GX} {own : String} {cc : ByteArray} {nL : Nat} {ret : Option FieldType} {fr lo : Nat} {h0 : AH} {Q : OC → AH → Prop} {h : AH}
theorem Cx.ald (C : Cx X G own cc nL ret fr lo h0) {pc pf a : Nat} {lv : LV} {st : List Value} {i x : Int32} (t : Nat) (ht : aT t = .int) (hv : aI t h a i = some x) (hd : decode cc pc = .ok (.iaload, 1)) (hf : pc + 1 = pf) (kk : V X G h0 Q pf lv (.int x :: st) h) : V X G h0 Q pc lv (.int i :: .ref a :: st) h := by
  subst hf
  obtain ⟨p, l, e, R, s, m, args, below, meth, c⟩ := X
  obtain ⟨hx, hb, -⟩ := C
  intro H locs ls hR hL hlo hl
  obtain ⟨n, f, hm, h1, h2, h3⟩ := aI_some hv
  obtain ⟨cell, q1, q2, q3, q4, q5, -⟩ := hR.2.2.2 a _ hm
  have q2' := q2.1
  rw [ht] at q2'
  exact W.iald hx hb q1 q2' q3 (by rw [q4]; exact h1) (v := .int x) (by rw [q5 _ h2]; exact congrArg (fun z => some (Value.int z)) h3) rfl rfl hd (kk H locs ls hR hL hlo hl)
theorem Cx.bald (C : Cx X G own cc nL ret fr lo h0) {pc pf a : Nat} {lv : LV} {st : List Value} {i x : Int32} (t : Nat) (ht : aT t = .byte) (hv : aI t h a i = some x) (hd : decode cc pc = .ok (.baload, 1)) (hf : pc + 1 = pf) (kk : V X G h0 Q pf lv (.int x :: st) h) : V X G h0 Q pc lv (.int i :: .ref a :: st) h := by
  subst hf
  obtain ⟨p, l, e, R, s, m, args, below, meth, c⟩ := X
  obtain ⟨hx, hb, -⟩ := C
  intro H locs ls hR hL hlo hl
  obtain ⟨n, f, hm, h1, h2, h3⟩ := aI_some hv
  obtain ⟨cell, q1, q2, q3, q4, q5, -⟩ := hR.2.2.2 a _ hm
  have q2' := q2.1
  rw [ht] at q2'
  exact W.bald hx hb q1 q2' q3 (by rw [q4]; exact h1) (v := .int x) (by rw [q5 _ h2]; exact congrArg (fun z => some (Value.int z)) h3) rfl rfl hd (kk H locs ls hR hL hlo hl)
theorem Cx.zald (C : Cx X G own cc nL ret fr lo h0) {pc pf a : Nat} {lv : LV} {st : List Value} {i x : Int32} (t : Nat) (ht : aT t = .boolean) (hv : aI t h a i = some x) (hd : decode cc pc = .ok (.baload, 1)) (hf : pc + 1 = pf) (kk : V X G h0 Q pf lv (.int x :: st) h) : V X G h0 Q pc lv (.int i :: .ref a :: st) h := by
  subst hf
  obtain ⟨p, l, e, R, s, m, args, below, meth, c⟩ := X
  obtain ⟨hx, hb, -⟩ := C
  intro H locs ls hR hL hlo hl
  obtain ⟨n, f, hm, h1, h2, h3⟩ := aI_some hv
  obtain ⟨cell, q1, q2, q3, q4, q5, -⟩ := hR.2.2.2 a _ hm
  have q2' := q2.1
  rw [ht] at q2'
  exact W.zald hx hb q1 q2' q3 (by rw [q4]; exact h1) (v := .int x) (by rw [q5 _ h2]; exact congrArg (fun z => some (Value.int z)) h3) rfl rfl hd (kk H locs ls hR hL hlo hl)
theorem Cx.sald (C : Cx X G own cc nL ret fr lo h0) {pc pf a : Nat} {lv : LV} {st : List Value} {i x : Int32} (t : Nat) (ht : aT t = .short) (hv : aI t h a i = some x) (hd : decode cc pc = .ok (.saload, 1)) (hf : pc + 1 = pf) (kk : V X G h0 Q pf lv (.int x :: st) h) : V X G h0 Q pc lv (.int i :: .ref a :: st) h := by
  subst hf
  obtain ⟨p, l, e, R, s, m, args, below, meth, c⟩ := X
  obtain ⟨hx, hb, -⟩ := C
  intro H locs ls hR hL hlo hl
  obtain ⟨n, f, hm, h1, h2, h3⟩ := aI_some hv
  obtain ⟨cell, q1, q2, q3, q4, q5, -⟩ := hR.2.2.2 a _ hm
  have q2' := q2.1
  rw [ht] at q2'
  exact W.sald hx hb q1 q2' q3 (by rw [q4]; exact h1) (v := .int x) (by rw [q5 _ h2]; exact congrArg (fun z => some (Value.int z)) h3) rfl rfl hd (kk H locs ls hR hL hlo hl)
theorem Cx.lald (C : Cx X G own cc nL ret fr lo h0) {pc pf a : Nat} {lv : LV} {st : List Value} {i : Int32} {x : Int64} (hv : aL h a i = some x) (hd : decode cc pc = .ok (.laload, 1)) (hf : pc + 1 = pf) (kk : V X G h0 Q pf lv (.long x :: st) h) : V X G h0 Q pc lv (.int i :: .ref a :: st) h := by
  subst hf
  obtain ⟨p, l, e, R, s, m, args, below, meth, c⟩ := X
  obtain ⟨hx, hb, -⟩ := C
  intro H locs ls hR hL hlo hl
  obtain ⟨n, f, hm, h1, h2, h3⟩ := aL_some hv
  obtain ⟨cell, q1, q2, q3, q4, q5, -⟩ := hR.2.2.2 a _ hm
  exact W.lald hx hb q1 q2.1 q3 (by rw [q4]; exact h1) (v := .long x) (by rw [q5 _ h2]; exact congrArg (fun z => some (Value.long z)) h3) rfl rfl hd (kk H locs ls hR hL hlo hl)
theorem Cx.aald (C : Cx X G own cc nL ret fr lo h0) {pc pf a : Nat} {lv : LV} {st : List Value} {i : Int32} {x : Option Nat} (t : Nat) (ht : (aT t).isReference = true) (hv : aQ t h a i = some x) (hd : decode cc pc = .ok (.aaload, 1)) (hf : pc + 1 = pf) (kk : V X G h0 Q pf lv (va_rf x :: st) h) : V X G h0 Q pc lv (.int i :: .ref a :: st) h := by
  subst hf
  obtain ⟨p, l, e, R, s, m, args, below, meth, c⟩ := X
  obtain ⟨hx, hb, -⟩ := C
  intro H locs ls hR hL hlo hl
  obtain ⟨n, f, hm, h1, h2, h3⟩ := aQ_some hv
  obtain ⟨cell, q1, q2, q3, q4, q5, -⟩ := hR.2.2.2 a _ hm
  exact W.aald hx hb q1 q2.1 ht q3 (by rw [q4]; exact h1) (v := va_rf x) (by rw [q5 _ h2]; exact congrArg (fun z => some (va_rf z)) h3) rfl rfl hd (kk H locs ls hR hL hlo hl)
theorem Cx.alen (C : Cx X G own cc nL ret fr lo h0) {pc pf a : Nat} {lv : LV} {st : List Value} {x : Int32} (hv : aN h a = some x) (hd : decode cc pc = .ok (.arraylength, 1)) (hf : pc + 1 = pf) (kk : V X G h0 Q pf lv (.int x :: st) h) : V X G h0 Q pc lv (.ref a :: st) h := by
  subst hf
  obtain ⟨p, l, e, R, s, m, args, below, meth, c⟩ := X
  obtain ⟨hx, hb, -⟩ := C
  intro H locs ls hR hL hlo hl
  obtain ⟨q, hm, h1⟩ := aN_some hv
  obtain ⟨cell, q1, q2, q3, q4, q5, -⟩ := hR.2.2.2 a _ hm
  exact W.alen hx hb q1 q2.1 (by rw [q4]; exact h1) rfl rfl hd (kk H locs ls hR hL hlo hl)
theorem arrV_congr {cA : ClassId} {n : Nat} {f g : Nat → Value} (h : ∀ j, j < n → f j = g j) : arrV cA n f = arrV cA n g := by
  unfold arrV
  congr 1
  congr 1
  funext j
  exact h j.val j.isLt
/-- a cell with one slot written -/
theorem Ra_store {D : va_G} {U : State} {H : Heap} {a t n j : Nat} {x y : vp_A} {cell : Cell} {v : Value} (hx : x.1 = n) (hy : y.1 = n) (q2 : aK U cell t) (q3 : cell.vm ≠ .unknown) (q4 : cell.slots.size = n) (q5 : ∀ z, z < n → cell.slots[z]? = some (aV x z)) (q6 : t < 20 → cell = arrV cell.cls n (aV x)) (h1 : H[a]? = some (cell.setSlot j v)) (hj : j < n) (hv : ∀ z, z < n → aV y z = if z = j then v else aV x z) : Ra D U H a (.inl (t, y)) := by
  refine ⟨cell.setSlot j v, h1, q2, q3, ?_, fun z hz => ?_, fun ht => ?_⟩
  · rw [k2_slotsz, q4]; exact hy.symm
  · have hz' : z < n := by rw [← hy]; exact hz
    rw [hv z hz']
    by_cases hzj : z = j
    · subst hzj
      rw [if_pos rfl]
      simp [Cell.setSlot, q4, hj]
    · rw [if_neg hzj, ← q5 z hz']
      simp [Cell.setSlot, Ne.symm hzj]
  · have e1 : cell.setSlot j v = arrV cell.cls n (updV (aV x) j v) := by
      rw [← arrV_store, ← q6 ht]
    have e2 : (cell.setSlot j v).cls = cell.cls := rfl
    rw [e2, e1, show y.1 = n from hy]
    exact arrV_congr fun z hz => by rw [hv z hz]; rfl
theorem sI_some {t : Nat} {h h' : AH} {a : Nat} {i x : Int32} (hg : sI t h a i x = some h') : ∃ (n : Nat) (f : Nat → Int32), h.2.2.2 a = some (.inl (t, n, .inl f)) ∧ h.1 ≤ a ∧ ¬ (i < 0 ∨ n ≤ i.toNatClampNeg) ∧ i.toNatClampNeg < n ∧ h' = hS h a (.inl (t, n, .inl (upd f i.toNatClampNeg (aW t x)))) := by
  unfold sI hM at hg
  split at hg
  · rename_i t' n f hm
    split at hg
    · rename_i hc
      obtain ⟨rfl, hb⟩ := hc
      obtain ⟨j, hj, hx⟩ := Option.map_eq_some_iff.mp hg
      obtain ⟨h1, h2, h3⟩ := iN_some hj
      subst h2
      exact ⟨n, f, hm, hb, h1, h3, hx.symm⟩
    · cases hg
  · cases hg
theorem sL_some {h h' : AH} {a : Nat} {i : Int32} {x : Int64} (hg : sL h a i x = some h') : ∃ (n : Nat) (f : Nat → Int64), h.2.2.2 a = some (.inl (4, n, .inr (.inl f))) ∧ h.1 ≤ a ∧ ¬ (i < 0 ∨ n ≤ i.toNatClampNeg) ∧ i.toNatClampNeg < n ∧ h' = hS h a (.inl (4, n, .inr (.inl (vp_updL f i.toNatClampNeg x)))) := by
  unfold sL hM at hg
  split at hg
  · rename_i t' n f hm
    split at hg
    · rename_i hc
      obtain ⟨rfl, hb⟩ := hc
      obtain ⟨j, hj, hx⟩ := Option.map_eq_some_iff.mp hg
      obtain ⟨h1, h2, h3⟩ := iN_some hj
      subst h2
      exact ⟨n, f, hm, hb, h1, h3, hx.symm⟩
    · cases hg
  · cases hg
theorem narV {ty : FieldType} (hty : ty = .int ∨ ty = .byte ∨ ty = .boolean ∨ ty = .short) (x : Int32) : narrow ty (.int x) = .int (vp_nar ty x) := by
  rcases hty with rfl | rfl | rfl | rfl <;> rfl
theorem lo_app {locs : List Loc} {b a j : Nat} (h1 : ∀ q ∈ locs, b ≤ q.base) (h2 : b ≤ a) : ∀ q ∈ locs ++ [(⟨a, j⟩ : Loc)], b ≤ q.base := by
  intro q hq
  rcases List.mem_append.mp hq with hq | hq
  · exact h1 q hq
  · rw [List.mem_singleton.mp hq]; exact h2
theorem Cx.ast (C : Cx X G own cc nL ret fr lo h0) {pc pf a : Nat} {lv : LV} {st : List Value} {i x : Int32} {h' : AH} (hv : sI 0 h a i x = some h') (hd : decode cc pc = .ok (.iastore, 1)) (hf : pc + 1 = pf) (kk : V X G h0 Q pf lv st h') : V X G h0 Q pc lv (.int x :: .int i :: .ref a :: st) h := by
  subst hf
  obtain ⟨p, l, e, R, s, m, args, below, meth, c⟩ := X
  obtain ⟨hx, hb, -⟩ := C
  intro H locs ls hR hL hlo hl
  obtain ⟨n, f, hm, hba, h1, h2, rfl⟩ := sI_some hv
  obtain ⟨cell, q1, q2, q3, q4, q5, q6⟩ := hR.2.2.2 a _ hm
  refine W.iast hx hb q1 q2.1 q3 (by rw [q4]; exact h1) rfl rfl hd fun H1 e1 z1 o1 => ?_
  refine kk H1 _ ls (hR.set hba z1 o1 (Ra_store (x := (n, .inl f)) rfl rfl q2 q3 q4 q5 q6 e1 h2 fun z hz => ?_)) hL (lo_app hlo (by rw [← hL.1]; exact hba)) hl
  by_cases hzj : z = i.toNatClampNeg <;> simp [aV, upd, hzj, aW, vp_nar, aT, narrow]
theorem Cx.bast (C : Cx X G own cc nL ret fr lo h0) {pc pf a : Nat} {lv : LV} {st : List Value} {i x : Int32} {h' : AH} (hv : sI 1 h a i x = some h') (hd : decode cc pc = .ok (.bastore, 1)) (hf : pc + 1 = pf) (kk : V X G h0 Q pf lv st h') : V X G h0 Q pc lv (.int x :: .int i :: .ref a :: st) h := by
  subst hf
  obtain ⟨p, l, e, R, s, m, args, below, meth, c⟩ := X
  obtain ⟨hx, hb, -⟩ := C
  intro H locs ls hR hL hlo hl
  obtain ⟨n, f, hm, hba, h1, h2, rfl⟩ := sI_some hv
  obtain ⟨cell, q1, q2, q3, q4, q5, q6⟩ := hR.2.2.2 a _ hm
  refine W.bast hx hb q1 q2.1 q3 (by rw [q4]; exact h1) rfl rfl hd fun H1 e1 z1 o1 => ?_
  refine kk H1 _ ls (hR.set hba z1 o1 (Ra_store (x := (n, .inl f)) rfl rfl q2 q3 q4 q5 q6 e1 h2 fun z hz => ?_)) hL (lo_app hlo (by rw [← hL.1]; exact hba)) hl
  by_cases hzj : z = i.toNatClampNeg <;> simp [aV, upd, hzj, aW, vp_nar, aT, narrow]
theorem Cx.zast (C : Cx X G own cc nL ret fr lo h0) {pc pf a : Nat} {lv : LV} {st : List Value} {i x : Int32} {h' : AH} (hv : sI 2 h a i x = some h') (hd : decode cc pc = .ok (.bastore, 1)) (hf : pc + 1 = pf) (kk : V X G h0 Q pf lv st h') : V X G h0 Q pc lv (.int x :: .int i :: .ref a :: st) h := by
  subst hf
  obtain ⟨p, l, e, R, s, m, args, below, meth, c⟩ := X
  obtain ⟨hx, hb, -⟩ := C
  intro H locs ls hR hL hlo hl
  obtain ⟨n, f, hm, hba, h1, h2, rfl⟩ := sI_some hv
  obtain ⟨cell, q1, q2, q3, q4, q5, q6⟩ := hR.2.2.2 a _ hm
  refine W.zast hx hb q1 q2.1 q3 (by rw [q4]; exact h1) rfl rfl hd fun H1 e1 z1 o1 => ?_
  refine kk H1 _ ls (hR.set hba z1 o1 (Ra_store (x := (n, .inl f)) rfl rfl q2 q3 q4 q5 q6 e1 h2 fun z hz => ?_)) hL (lo_app hlo (by rw [← hL.1]; exact hba)) hl
  by_cases hzj : z = i.toNatClampNeg <;> simp [aV, upd, hzj, aW, vp_nar, aT, narrow]
theorem Cx.sast (C : Cx X G own cc nL ret fr lo h0) {pc pf a : Nat} {lv : LV} {st : List Value} {i x : Int32} {h' : AH} (hv : sI 3 h a i x = some h') (hd : decode cc pc = .ok (.sastore, 1)) (hf : pc + 1 = pf) (kk : V X G h0 Q pf lv st h') : V X G h0 Q pc lv (.int x :: .int i :: .ref a :: st) h := by
  subst hf
  obtain ⟨p, l, e, R, s, m, args, below, meth, c⟩ := X
  obtain ⟨hx, hb, -⟩ := C
  intro H locs ls hR hL hlo hl
  obtain ⟨n, f, hm, hba, h1, h2, rfl⟩ := sI_some hv
  obtain ⟨cell, q1, q2, q3, q4, q5, q6⟩ := hR.2.2.2 a _ hm
  refine W.sast hx hb q1 q2.1 q3 (by rw [q4]; exact h1) rfl rfl hd fun H1 e1 z1 o1 => ?_
  refine kk H1 _ ls (hR.set hba z1 o1 (Ra_store (x := (n, .inl f)) rfl rfl q2 q3 q4 q5 q6 e1 h2 fun z hz => ?_)) hL (lo_app hlo (by rw [← hL.1]; exact hba)) hl
  by_cases hzj : z = i.toNatClampNeg <;> simp [aV, upd, hzj, aW, vp_nar, aT, narrow]
theorem Cx.last (C : Cx X G own cc nL ret fr lo h0) {pc pf a : Nat} {lv : LV} {st : List Value} {i : Int32} {x : Int64} {h' : AH} (hv : sL h a i x = some h') (hd : decode cc pc = .ok (.lastore, 1)) (hf : pc + 1 = pf) (kk : V X G h0 Q pf lv st h') : V X G h0 Q pc lv (.long x :: .int i :: .ref a :: st) h := by
  subst hf
  obtain ⟨p, l, e, R, s, m, args, below, meth, c⟩ := X
  obtain ⟨hx, hb, -⟩ := C
  intro H locs ls hR hL hlo hl
  obtain ⟨n, f, hm, hba, h1, h2, rfl⟩ := sL_some hv
  obtain ⟨cell, q1, q2, q3, q4, q5, q6⟩ := hR.2.2.2 a _ hm
  refine W.last hx hb q1 q2.1 q3 (by rw [q4]; exact h1) rfl rfl hd fun H1 e1 z1 o1 => ?_
  refine kk H1 _ ls (hR.set hba z1 o1 (Ra_store (x := (n, .inr (.inl f))) rfl rfl q2 q3 q4 q5 q6 e1 h2 fun z hz => ?_)) hL (lo_app hlo (by rw [← hL.1]; exact hba)) hl
  by_cases hzj : z = i.toNatClampNeg <;> simp [aV, vp_updL, hzj]
end AP
