/-! ===== words of the written functions ===== -/
def FU : Nat := 4000000
abbrev lt {α β : Type} (a : α) (k : α → β) : β := k a
def b2 {α β γ : Type} (o : Option (α × β)) (k : α → β → Option γ) : Option γ := match o with
  | some q => k q.1 q.2
  | none => none
def tr {α : Type} (e : Option Nat) (A : Option α) (B : Nat → Option α) : Option α := match e with
  | none => A
  | some a => B a
theorem lt_ap {α β : Type} {a x : α} {k : α → Option β} {r : Option β} (hx : x = a) (hf : lt a k = r) : k x = r := by subst hx; exact hf
theorem b2_some {α β γ : Type} {o : Option (α × β)} {k : α → β → Option γ} {r : γ} (h : b2 o k = some r) : ∃ a b, o = some (a, b) ∧ k a b = some r := by
  unfold b2 at h
  cases o with
  | none => cases h
  | some q => exact ⟨q.1, q.2, rfl, h⟩
theorem tr_none {α : Type} {A : Option α} {B : Nat → Option α} {r : Option α} (h : tr none A B = r) : A = r := h
theorem tr_some {α : Type} {a : Nat} {A : Option α} {B : Nat → Option α} {r : Option α} (h : tr (some a) A B = r) : B a = r := h
theorem ifp {α : Type} {c : Prop} [Decidable c] {A B r : α} (hc : c) (h : (if c then A else B) = r) : A = r := by rw [if_pos hc] at h; exact h
theorem ifn {α : Type} {c : Prop} [Decidable c] {A B r : α} (hc : ¬ c) (h : (if c then A else B) = r) : B = r := by rw [if_neg hc] at h; exact h
theorem ifO {α : Type} {b : Bool} {A : Option α} {r : α} (h : (if b = true then A else none) = some r) : b = true ∧ A = some r := by
  cases b
  · cases h
  · exact ⟨rfl, h⟩
theorem ckZ_eq {x y : Int32} (h : ckZ x = some y) : x = y := by
  unfold ckZ at h
  split at h
  · exact Option.some.inj h
  · cases h
theorem ckD_self {x y : Int32} (h : ckD x = some y) : ckD x = some x := by
  unfold ckD at h ⊢
  split at h
  · cases h
  · rename_i hc; rw [if_neg hc]
/-- a byte, a char -/
def ckB (x : Int32) : Option Int32 := if x.toInt8.toInt32 = x then some x else none
def ckC (x : Int32) : Option Int32 := if (x.toUInt32 % 65536).toInt32 = x then some x else none
theorem ckB_eq {x y : Int32} (h : ckB x = some y) : x = y := by
  unfold ckB at h
  split at h
  · exact Option.some.inj h
  · cases h
theorem ckC_eq {x y : Int32} (h : ckC x = some y) : x = y := by
  unfold ckC at h
  split at h
  · exact Option.some.inj h
  · cases h
def ckO (ci : Nat) (h : AH) (a : Nat) : Option Unit := if isO ci h a = true then some () else none
theorem ckO_is {ci a : Nat} {h : AH} {u : Unit} (hc : ckO ci h a = some u) : isO ci h a = true := by
  unfold ckO at hc
  split at hc
  · assumption
  · cases hc
abbrev QI (r : Int32) (h : AH) : OC → AH → Prop := fun o h1 => o = .inl (some (.int r)) ∧ h1 = h
abbrev QJ (r : Int64) (h : AH) : OC → AH → Prop := fun o h1 => o = .inl (some (.long r)) ∧ h1 = h
abbrev QA (r : Option Nat) (h : AH) : OC → AH → Prop := fun o h1 => o = .inl (some (va_rf r)) ∧ h1 = h
abbrev QV (h : AH) : OC → AH → Prop := fun o h1 => o = .inl none ∧ h1 = h
abbrev oT (e : Option Nat) : OC := match e with
  | none => .inl none
  | some a => .inr a
abbrev QT (e : Option Nat) (h : AH) : OC → AH → Prop := fun o h1 => o = oT e ∧ h1 = h
/-- a field that is read -/
def FLr (own : String) (idx ci k : Nat) : Prop := ∃ (Cn : String) (T : u_T) (N : Nat) (ty0 : Nat → FieldType), vwCl[ci]? = some (Cn, T, N) ∧ (∀ w ∈ u_ws Cn T N, w ∈ lw_good) ∧ (∀ k, k < N → parseFieldDescriptor (T k).2.2.1 = some (ty0 k)) ∧ (∀ a, a < N → ∀ b, b < N → a ≠ b → (T a).2.1 ≠ (T b).2.1) ∧ k < N ∧
  (Cond.fieldLink own idx (T k).1 (T k).2.1 (T k).2.2.1 ∈ lw_good ∨ ∃ host : String, (own, idx, (T k).1, (T k).2.1, (T k).2.2.1, host) ∈ NFs)
theorem FL.r {own : String} {idx ci k : Nat} {ty : FieldType} {fin : Bool} (h : FL own idx ci k ty fin) : FLr own idx ci k := by
  obtain ⟨a, b, c, d, e1, e2, e3, e4, e5, -, -, e8, -⟩ := h
  exact ⟨a, b, c, d, e1, e2, e3, e4, e5, e8⟩
theorem memIdx {ws : List Cond} (ps : List Nat) (hp : ws = ps.filterMap (fun i => lw_tbl[i]?)) (hg : ws.all goodWord = true) : ∀ w ∈ ws, w ∈ lw_good := by
  intro w hw
  have h1 := List.all_eq_true.mp hg w hw
  rw [hp] at hw
  obtain ⟨i, -, hi⟩ := List.mem_filterMap.mp hw
  exact mg (List.mem_of_getElem? hi) h1
section MO
variable {X : MX} {l : Launch} {G : GX} {own : String} {cc : ByteArray} {nL : Nat} {ret : Option FieldType} {fr lo : Nat} {h0 : AH} {Q : OC → AH → Prop} {h : AH} {y : MethodName} {fr' lo' maxL idx : Nat}
theorem Cx.getVr (C : Cx X G own cc nL ret fr lo h0) {pc pf idx ci k a : Nat} {lv : LV} {st : List Value} {v : Value} (hF : FLr own idx ci k) (hv : gV ci h a k = some v) (hd : decode cc pc = .ok (.getfield idx, 3)) (hf : pc + 3 = pf) (kk : V X G h0 Q pf lv (v :: st) h) : V X G h0 Q pc lv (.ref a :: st) h := by
  subst hf
  obtain ⟨p, l, e, R, s, m, args, below, meth, c⟩ := X
  obtain ⟨hx, hb, hml, hown, hts, -, -, hK, -⟩ := C
  intro H locs ls hR hL hlo hl
  obtain ⟨Cn, T, N, ty0, hc, hin, hty, hnm, hk, hlk⟩ := hF
  obtain ⟨F, hm, hFk⟩ := gV_some hv
  have hci : ci ≠ 99 := by
    intro q; subst q
    have : vwCl[99]? = none := rfl
    rw [this] at hc; cases hc
  have hRa := hR.2.2.2 a _ hm
  obtain ⟨r, h1, cell, q1, q2, q3, q4⟩ := Ra_obj hci hRa
  have hr : r = (Cn, T, N) := Option.some.inj (h1.symm.trans hc)
  subst hr
  obtain ⟨hS, hfc, kC, hkC, hkind⟩ := hK.1.1 ci _ hc
  obtain ⟨cf, kf, fi, f, hi, hsl⟩ := hS k hk
  have hst := (u_facts hfc hkC (u_lays hts hin hk) hi).1
  have hvs : cell.slots[f.slot]? = some v := by rw [hsl, q4 k hk]; exact congrArg some hFk
  have kk' := kk H locs ls hR hL hlo hl
  rcases hlk with hlk | ⟨host, hlk⟩
  · exact W.getf hx hb hown (hts _ hlk) hi hst q1 (by rw [q3]; exact fun h => by cases h) hvs rfl rfl hd kk'
  · exact va_Wgetf hx hb hown (va_Nw.use rfl (hK.2.1 _ hlk)) hi hst q1 (by rw [q3]; exact fun h => by cases h) hvs rfl rfl hd kk'
theorem Cx.rdI (C : Cx X G own cc nL ret fr lo h0) {pc pf idx ci k a : Nat} {lv : LV} {st : List Value} {x : Int32} (hF : FLr own idx ci k) (hv : gI ci h a k = some x) (hd : decode cc pc = .ok (.getfield idx, 3)) (hf : pc + 3 = pf) (kk : V X G h0 Q pf lv (.int x :: st) h) : V X G h0 Q pc lv (.ref a :: st) h := C.getVr hF (gI_some hv) hd hf kk
theorem Cx.rdL (C : Cx X G own cc nL ret fr lo h0) {pc pf idx ci k a : Nat} {lv : LV} {st : List Value} {x : Int64} (hF : FLr own idx ci k) (hv : gL ci h a k = some x) (hd : decode cc pc = .ok (.getfield idx, 3)) (hf : pc + 3 = pf) (kk : V X G h0 Q pf lv (.long x :: st) h) : V X G h0 Q pc lv (.ref a :: st) h := C.getVr hF (gL_some hv) hd hf kk
theorem Cx.rdA (C : Cx X G own cc nL ret fr lo h0) {pc pf idx ci k a : Nat} {lv : LV} {st : List Value} {x : Nat} (hF : FLr own idx ci k) (hv : gA ci h a k = some x) (hd : decode cc pc = .ok (.getfield idx, 3)) (hf : pc + 3 = pf) (kk : V X G h0 Q pf lv (.ref x :: st) h) : V X G h0 Q pc lv (.ref a :: st) h := C.getVr hF (gA_some hv) hd hf kk
theorem Cx.tsOut (C : Cx X G own cc nL ret fr lo h0) {pc tgt len : Nat} {x : Int32} {dflt a b : Int} {offs : Array Int} {lv : LV} {st : List Value} (hd : decode cc pc = .ok (.tableswitch dflt a b offs, len)) (ho : x.toInt < a ∨ b < x.toInt) (ht : (pc : Int) + dflt = (tgt : Int)) (k : V X G h0 Q tgt lv st h) : V X G h0 Q pc lv (.int x :: st) h := by
  obtain ⟨p, l, e, R, s, m, args, below, meth, c⟩ := X
  obtain ⟨hx, hb, -⟩ := C
  intro H locs ls hR hL hlo hl
  exact lv_tableOut hx hb hd ho ht (k H locs ls hR hL hlo hl)
theorem Cx.tsIn (C : Cx X G own cc nL ret fr lo h0) {pc tgt len : Nat} {x k : Int32} {dflt a b off : Int} {offs : Array Int} {lv : LV} {st : List Value} (hxk : x = k) (hd : decode cc pc = .ok (.tableswitch dflt a b offs, len)) (h1 : ¬ k.toInt < a) (h2 : ¬ b < k.toInt) (ho : offs[(k.toInt - a).toNat]? = some off) (ht : (pc : Int) + off = (tgt : Int)) (kk : V X G h0 Q tgt lv st h) : V X G h0 Q pc lv (.int x :: st) h := by
  subst hxk
  obtain ⟨p, l, e, R, s, m, args, below, meth, c⟩ := X
  obtain ⟨hx, hb, -⟩ := C
  intro H locs ls hR hL hlo hl
  exact lv_tableIn hx hb hd h1 h2 ho ht (kk H locs ls hR hL hlo hl)
end MO
def mxI (x y : Int32) : Int32 := if x < y then y else x
def mnI (x y : Int32) : Int32 := if y < x then y else x
section MM
variable {X : MX} {l : Launch} {G : GX} {own : String} {cc : ByteArray} {nL : Nat} {ret : Option FieldType} {fr lo : Nat} {h0 : AH} {Q : OC → AH → Prop} {h : AH}
theorem Cx.mmax (C : Cx X G own cc nL ret fr lo h0) {pc pf idx : Nat} {lv : LV} {st : List Value} {x y : Int32} (hw1 : Cond.methodLink own idx Lib.Math.max.name ∈ lw_good) (hw2 : Cond.static Lib.Math.max.name ∈ lw_good) (hw3 : Cond.initialized "java/lang/Math" ∈ lw_good) (hw4 : Cond.code Lib.Math.max.name Lib.Math.max.code 2 (some .int) ∈ lw_good) (hfr : 1 ≤ fr) (hlo : 21 ≤ lo) (hst : (st.map fun v => v.category).sum ≤ 8) (hd : decode cc pc = .ok (.invokestatic idx, 3)) (hf : pc + 3 = pf) (kv : V X G h0 Q pf lv (.int (mxI x y) :: st) h) : V X G h0 Q pc lv (.int y :: .int x :: st) h := by
  subst hf
  obtain ⟨p, l', e, R, s, m, args, below, meth, c⟩ := X
  obtain ⟨hx, hb, hml, hown, hts, -, -, hK, hRf, hRl, hRc, hRs⟩ := C
  have hRf : R.frames = fr := hRf
  have hRl : R.locals = lo := hRl
  have hRc : R.cells = h0.1 + 601024 - h0.2.1 := hRc
  have hRs : R.slots = 7293034 - h0.2.2.1 := hRs
  intro H locs ls hR hL hl0 hl
  obtain ⟨x1, x2, x3, x4, x5, x6⟩ := id hL
  exact va_mmax hx hb hl.1.symm hown (hts _ hw1) (hts _ hw2) (hts _ hw3) (hts _ hw4) (by rw [hRf]; exact hfr) (by rw [hRl]; omega) (by show h.2.1 - h0.2.1 ≤ R.cells; rw [hRc]; omega) (by show h.2.2.1 - h0.2.2.1 ≤ R.slots; rw [hRs]; omega) hd (kv H locs ls hR hL hl0 hl)
theorem Cx.mmin (C : Cx X G own cc nL ret fr lo h0) {pc pf idx : Nat} {lv : LV} {st : List Value} {x y : Int32} (hw1 : Cond.methodLink own idx Lib.Math.min.name ∈ lw_good) (hw2 : Cond.static Lib.Math.min.name ∈ lw_good) (hw3 : Cond.initialized "java/lang/Math" ∈ lw_good) (hw4 : Cond.code Lib.Math.min.name Lib.Math.min.code 2 (some .int) ∈ lw_good) (hfr : 1 ≤ fr) (hlo : 21 ≤ lo) (hst : (st.map fun v => v.category).sum ≤ 8) (hd : decode cc pc = .ok (.invokestatic idx, 3)) (hf : pc + 3 = pf) (kv : V X G h0 Q pf lv (.int (mnI x y) :: st) h) : V X G h0 Q pc lv (.int y :: .int x :: st) h := by
  subst hf
  obtain ⟨p, l', e, R, s, m, args, below, meth, c⟩ := X
  obtain ⟨hx, hb, hml, hown, hts, -, -, hK, hRf, hRl, hRc, hRs⟩ := C
  have hRf : R.frames = fr := hRf
  have hRl : R.locals = lo := hRl
  have hRc : R.cells = h0.1 + 601024 - h0.2.1 := hRc
  have hRs : R.slots = 7293034 - h0.2.2.1 := hRs
  intro H locs ls hR hL hl0 hl
  obtain ⟨x1, x2, x3, x4, x5, x6⟩ := id hL
  exact va_mmin hx hb hl.1.symm hown (hts _ hw1) (hts _ hw2) (hts _ hw3) (hts _ hw4) (by rw [hRf]; exact hfr) (by rw [hRl]; omega) (by show h.2.1 - h0.2.1 ≤ R.cells; rw [hRc]; omega) (by show h.2.2.1 - h0.2.2.1 ≤ R.slots; rw [hRs]; omega) hd (kv H locs ls hR hL hl0 hl)
end MM
/-! ===== texts ===== -/
theorem ldcwStr {p : Program} {l : Launch} {e : Env} {R : Room} {s : State} {m : MethodId} {args : Array Value} {below : List Frame} {meth : Method} {c : Code} {T : State} {locs : List Loc} {cells slots : Nat}
    (X : Stand p l e R s m args below meth c T locs cells slots) (hexec : p.tables.exec = Jvm.exec) {own text : String} {index : Nat} {a : Addr} (hown : s.vm.findClass own = some m.cls)
    (hconst : (Cond.stringRef own index text).before #[] s = true) (hev : (Term.string own index).eval #[] s none [] s = some (.ref a)) {g : JFrame} (hg : g.method = m) (hdg : decode c.code g.pc = .ok (.ldc_w index, 3)) :
    ∀ target, Steps p.tables e below (T.setTop { g with pc := g.pc + 3, stack := .ref a :: g.stack }) target → Steps p.tables e below (T.setTop g) target := by
  obtain ⟨k, cf, i, a', hk, hcf, hcp, -, hr, hev'⟩ := Cond.stringRef_spec hown hconst
  cases hev.symm.trans hev'
  obtain ⟨k', hk', he⟩ := X.warmed.alike.2.2 _ _ hk
  have hr' : k'.resolved[index]? = some (some (.string a)) := by
    rcases X.warmed.entry hk hk' index with h | ⟨h, -⟩
    · rw [h]; exact hr
    · rw [hr] at h; cases h
  intro target hrest
  subst hg
  jvm_step X.here [hexec, hdg, ldc_w.wp_string (e := e) (s := T) (f := g) X.here.top hk' (by rw [he]; exact hcf) hcp hr']
  exact hrest
section STR
variable {X : MX} {l : Launch} {G : GX} {own : String} {cc : ByteArray} {nL : Nat} {ret : Option FieldType} {fr lo : Nat} {h0 : AH} {Q : OC → AH → Prop} {h : AH} {y : MethodName} {fr' lo' maxL idx : Nat}
theorem Cx.ldcwS (C : Cx X G own cc nL ret fr lo h0) {pc pf idx i : Nat} {lv : LV} {st : List Value} {tx : String} (hm : Ss[i]? = some (own, idx, tx)) (hd : decode cc pc = .ok (.ldc_w idx, 3)) (hf : pc + 3 = pf) (k : V X G h0 Q pf lv (.ref (G.2.2.1 i) :: st) h) : V X G h0 Q pc lv st h := by
  subst hf
  obtain ⟨p, l, e, R, s, m, args, below, meth, c⟩ := X
  obtain ⟨hx, hb, hml, hown, hts, -, -, hK, -⟩ := C
  intro H locs ls hR hL hlo hl
  have hb : c.code = cc := hb
  have hZ := hK.2.2.2.2.1 i _ hm
  have k' := k H locs ls hR hL hlo hl
  intro T hT Y
  obtain ⟨t, a1, b1⟩ := k' T hT Y
  exact ⟨t, ldcwStr Y hx hown (text := tx) (a := G.2.2.1 i) hZ.1 hZ.2 (g := F0 m pc ls st) rfl (by rw [hb]; exact hd) t a1, b1⟩
theorem Ra_str {D : va_G} {U : State} {H : Heap} {a : Nat} {F : Nat → Value} (h : Ra D U H a (.inr (99, F))) : strAt U H a F := by
  rcases h with ⟨r, h1, -⟩ | ⟨-, h⟩
  · have : vwCl[99]? = none := rfl
    rw [show ((99, F) : Nat × (Nat → Value)).1 = 99 from rfl, this] at h1; cases h1
  · exact h
theorem Cx.strV (C : Cx X G own cc nL ret fr lo h0) {pc pf idx a x : Nat} {lv : LV} {st : List Value} (hw : Cond.fieldLink own idx "java/lang/String" "value" "[B" ∈ lw_good) (hv : gA 99 h a 0 = some x) (hd : decode cc pc = .ok (.getfield idx, 3)) (hf : pc + 3 = pf) (kk : V X G h0 Q pf lv (.ref x :: st) h) : V X G h0 Q pc lv (.ref a :: st) h := by
  subst hf
  obtain ⟨p, l, e, R, s, m, args, below, meth, c⟩ := X
  obtain ⟨hx, hb, hml, hown, hts, -, -, hK, -⟩ := C
  intro H locs ls hR hL hlo hl
  obtain ⟨F, hm, hFk⟩ := gV_some (gA_some hv)
  obtain ⟨cell, q1, q2, q3, q4, ⟨cf, k, fi, f, e1, e2, e3⟩, -⟩ := Ra_str (hR.2.2.2 a _ hm)
  exact W.getf hx hb hown (hts _ hw) e1 e2 q1 q3 (v := .ref x) (by rw [e3, hFk]) rfl rfl hd (kk H locs ls hR hL hlo hl)
theorem Cx.strC (C : Cx X G own cc nL ret fr lo h0) {pc pf idx a : Nat} {x : Int32} {lv : LV} {st : List Value} (hw : Cond.fieldLink own idx "java/lang/String" "coder" "B" ∈ lw_good) (hv : gI 99 h a 1 = some x) (hd : decode cc pc = .ok (.getfield idx, 3)) (hf : pc + 3 = pf) (kk : V X G h0 Q pf lv (.int x :: st) h) : V X G h0 Q pc lv (.ref a :: st) h := by
  subst hf
  obtain ⟨p, l, e, R, s, m, args, below, meth, c⟩ := X
  obtain ⟨hx, hb, hml, hown, hts, -, -, hK, -⟩ := C
  intro H locs ls hR hL hlo hl
  obtain ⟨F, hm, hFk⟩ := gV_some (gI_some hv)
  obtain ⟨cell, q1, q2, q3, q4, -, cf, k, fi, f, e1, e2, e3⟩ := Ra_str (hR.2.2.2 a _ hm)
  exact W.getf hx hb hown (hts _ hw) e1 e2 q1 q3 (v := .int x) (by rw [e3, hFk]) rfl rfl hd (kk H locs ls hR hL hlo hl)
def MTw (own : String) (idx : Nat) (y : MethodName) (n maxL : Nat) : Prop := Cond.methodLink own idx y ∈ lw_good ∧ Cond.instanceMethod y ∈ lw_good ∧ Cond.selects y.cls y y ∈ lw_good ∧ notMH y ∧ parN y n ∧ CD y maxL ∧ Cond.initialized y.cls ∈ lw_good ∧ y.cls = "java/lang/String"
theorem Inv_T {p : Program} {l : Launch} {e : Env} {R : Room} {s : State} {m : MethodId} {args : Array Value} {below : List Frame} {meth : Method} {c : Code} {H : Heap} {locs : List Loc} {ls : Array Slot} {b n pc : Nat} {As st : List Value} (C : Cx (p, l, e, R, s, m, args, below, meth, c) G own cc nL ret fr lo h0) (hM : MTw own idx y n maxL) (hn : As.length = n) (ho : isO 99 h b = true) (hR : Rp G s h H) (hd : decode cc pc = .ok (.invokevirtual idx, 3)) : Inv p l e R s m args below meth c h h0 locs H (F0 m pc ls (As.reverse ++ .ref b :: st)) (F0 m pc ls st) y (.ref b :: As) := by
  obtain ⟨hx, hb, hml, hown, hts, -, -, hK, -⟩ := C
  obtain ⟨w1, w2, w3, w4, w5, w6, w7, w8⟩ := hM
  have hb : c.code = cc := hb
  obtain ⟨F, hF⟩ := isO_some ho
  obtain ⟨cellB, g1, g2, g3, g4, -⟩ := Ra_str (hR.2.2.2 b _ hF)
  have hcls : s.vm.findClass y.cls = some cellB.cls := by rw [w8]; exact g4
  intro T hT Y
  obtain ⟨mk, methM, hnamed, hmethM, hstM, habM⟩ := Cond.instanceMethod_spec (hts _ w2)
  obtain ⟨mk', methM', cM, hn', hmethM', -, -, hsigM⟩ := w6.at hts
  have hmk : mk' = mk := Option.some.inj (hn'.symm.trans hnamed)
  subst hmk
  cases hmethM.symm.trans hmethM'
  obtain ⟨c2, r2, m2, q1, q2, q3, q4, kP, hkP, hkPi⟩ := Cond.selects_spec (hts _ w3)
  cases hcls.symm.trans q1
  cases (State.methodFound?_of_named hnamed w4).symm.trans q2
  cases hnamed.symm.trans q3
  have hselP : selectMethod e.platform s.vm cellB.cls mk' = .method mk' := by rw [Launch.admits_selectMethod Y.admits]; exact q4
  obtain ⟨vm₁, X₁, hstep₁⟩ := Y.invokevirtual hx hown (hts _ w1) hnamed hmethM hstM hkP hkPi w4 (a := b) (cell := cellB) (by rw [hT]; exact g1)
    (fun z h => by rw [h] at g2; cases g2) hselP hmethM habM hkP hkPi (g := F0 m pc ls (As.reverse ++ .ref b :: st)) rfl (argsL := As) (rest := st) (parN_len w5 hn _ hsigM) rfl (by rw [hb]; exact hd)
  exact ⟨vm₁, mk', X₁, hnamed, fun target ht => hstep₁ target ht⟩
theorem Cx.callTr (C : Cx X G own cc nL ret fr lo h0) {nm : String} {hs : List (Nat × Nat × Nat × Nat)} (C2 : Cy X l nm hs) {pc pf b n : Nat} {lv : LV} {v : Option Value} {h' : AH} (As st : List Value) (hM : MTw own idx y n maxL) (hn : As.length = n) (ho : isO 99 h b = true) (hCt : Ct l G y fr' lo' (.ref b :: As) h (fun o h1 => o = .inl v ∧ h1 = h')) (hfr : fr' + 1 ≤ fr) (hlo : 8 + (maxL + 11) + lo' ≤ lo) (hst : (st.map fun v => v.category).sum ≤ 8) (hd : decode cc pc = .ok (.invokevirtual idx, 3)) (hf : pc + 3 = pf) (kv : V X G h0 Q pf lv (v.toList ++ st) h') : V X G h0 Q pc lv (As.reverse ++ .ref b :: st) h := by
  obtain ⟨p, l', e, R, s, m, args, below, meth, c⟩ := X
  obtain ⟨rfl, -⟩ := C2
  intro H locs ls hR hL hl0 hl
  exact inv_core C hCt hM.2.2.2.2.2.1 hM.2.2.2.2.2.2.1 hfr hlo hst hd hR hL hl0 hl (Inv_T C hM hn ho hR hd) (inv_ret hf kv hl)
end STR
theorem ckB_nar {v : Int32} (h : ckB v = some v) : narrow .byte (.int v) = .int v := by
  unfold ckB at h
  split at h
  · rename_i hc
    show Value.int v.toInt8.toInt32 = .int v
    rw [hc]
  · cases h
theorem ckC_nar {v : Int32} (h : ckC v = some v) : narrow .char (.int v) = .int v := by
  unfold ckC at h
  split at h
  · rename_i hc
    have := pk_nc v
    rw [hc] at this
    exact this
  · cases h
section RET
variable {X : MX} {l : Launch} {G : GX} {own : String} {cc : ByteArray} {nL : Nat} {ret : Option FieldType} {fr lo : Nat} {h0 : AH} {Q : OC → AH → Prop} {h : AH}
theorem Cx.retN_ (C : Cx X G own cc nL ret fr lo h0) {pc : Nat} {lv : LV} {v : Int32} {ty : FieldType} (hr0 : ret = some ty) (hn : narrow ty (.int v) = .int v) (hd : decode cc pc = .ok (.ireturn, 1)) (hq : Q (.inl (some (.int v))) h) : V X G h0 Q pc lv [.int v] h := by
  obtain ⟨p, l, e, R, s, m, args, below, meth, c⟩ := X
  obtain ⟨hx, hb, hml, hown, hts, hr1, hlk, -⟩ := C
  intro H locs ls hR hL hlo hl
  have hx : p.tables.exec = Jvm.exec := hx
  have hb : c.code = cc := hb
  show W p l e R s m args below meth c H locs (h.2.1 - h0.2.1) (h.2.2.1 - h0.2.2.1) (ZQ below s G h0 Q) (F0 m pc ls [.int v])
  intro T hT Y
  have hlocks : meth.locks = false := hlk
  have hr : meth.sig.returnType = some ty := hr1.trans hr0
  obtain ⟨fs, hret, hrun, hended, hW, hframe⟩ := Y.leave (v := (some (.int v))) (fun h => by rw [hr] at h; cases h) (hlocks := hlocks)
  have hmeth' : T.vm.method? m = some meth := Y.method'
  refine ⟨T.setFrames fs, ?_, .returned (some (.int v)), hrun, hended, .inl (some (.int v)), h, rfl, hW, ⟨locs, hframe, hlo⟩, ?_, hL, hq⟩
  · jvm_step Y.here [Y.here.top, hx, hb, hd, hmeth', hr, hn]
    (try refine ⟨rfl, ?_⟩); (try refine ⟨rfl, ?_⟩)
    first | (intro acts; rw [hret _ acts rfl rfl rfl]) | rw [hret _ _ rfl rfl rfl]
    exact Steps.refl _
  · have e1 : (T.setFrames fs).heap = H := hT
    rw [e1]
    exact Rp.moved hW.alike hR
theorem Cx.retB (C : Cx X G own cc nL ret fr lo h0) {pc : Nat} {lv : LV} {v : Int32} (hr0 : ret = some .byte) (hz : ckB v = some v) (hd : decode cc pc = .ok (.ireturn, 1)) (hq : Q (.inl (some (.int v))) h) : V X G h0 Q pc lv [.int v] h := C.retN_ hr0 (ckB_nar hz) hd hq
theorem Cx.retC (C : Cx X G own cc nL ret fr lo h0) {pc : Nat} {lv : LV} {v : Int32} (hr0 : ret = some .char) (hz : ckC v = some v) (hd : decode cc pc = .ok (.ireturn, 1)) (hq : Q (.inl (some (.int v))) h) : V X G h0 Q pc lv [.int v] h := C.retN_ hr0 (ckC_nar hz) hd hq
end RET
