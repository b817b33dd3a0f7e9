/-! ===== the invocation's own facts ===== -/
def Cx (X : MX) (G : GX) (own : String) (cc : ByteArray) (nL : Nat) (ret : Option FieldType) (fr lo : Nat) (h0 : AH) : Prop :=
  X.1.tables.exec = Jvm.exec ∧ (xC X).code = cc ∧ (xC X).maxLocals = nL ∧ (xS X).vm.findClass own = some X.2.2.2.2.2.1.cls ∧ (∀ w ∈ lw_good, w.before X.2.2.2.2.2.2.1 (xS X) = true) ∧ X.2.2.2.2.2.2.2.2.1.sig.returnType = ret ∧ X.2.2.2.2.2.2.2.2.1.locks = false ∧ K1 G (xS X) ∧
  X.2.2.2.1.frames = fr ∧ X.2.2.2.1.locals = lo ∧ X.2.2.2.1.cells = h0.1 + 601024 - h0.2.1 ∧ X.2.2.2.1.slots = 7293034 - h0.2.2.1
def lget (lv : LV) (k : Nat) : Option Value := (lv.find? (fun q => q.1 == k)).map (fun q => q.2)
def lput1 (lv : LV) (i : Nat) (v : Value) : LV := (i, v) :: lv.filter (fun q => !(q.1 == i) && !(q.1 + 1 == i && q.2.category == 2))
def lput2 (lv : LV) (i : Nat) (v : Value) : LV := (i, v) :: lv.filter (fun q => !(q.1 == i) && (!(q.1 == i + 1) && !(q.1 + 1 == i && q.2.category == 2)))
theorem lget_has {ls : Array Slot} {nL : Nat} {lv : LV} {k : Nat} {v : Value} (h : lv_has ls nL lv) (hg : lget lv k = some v) : ls[k]? = some (.val v) := by
  unfold lget at hg
  cases hf : lv.find? (fun q => q.1 == k) with
  | none => rw [hf] at hg; simp at hg
  | some q =>
    rw [hf] at hg
    have h1 := List.find?_some hf
    have h2 := List.mem_of_find?_eq_some hf
    have h3 : q.1 = k := by simpa using h1
    have h4 : q.2 = v := by simpa using hg
    rw [← h3, ← h4]
    exact h.2.2 q h2
theorem lget_mem {lv : LV} {k : Nat} {v : Value} (hg : lget lv k = some v) : ∃ j : Nat, lv[j]? = some (k, v) := by
  unfold lget at hg
  cases hf : lv.find? (fun q => q.1 == k) with
  | none => rw [hf] at hg; simp at hg
  | some q =>
    rw [hf] at hg
    have h1 := List.find?_some hf
    have h2 := List.mem_of_find?_eq_some hf
    have h3 : q.1 = k := by simpa using h1
    have h4 : q.2 = v := by simpa using hg
    obtain ⟨j, hj⟩ := List.getElem?_of_mem h2
    exact ⟨j, by rw [hj, ← h3, ← h4]⟩
/-- loads by kind, stores by kind -/
def ldI (lv : LV) (k : Nat) (st : List Value) : Option (LV × List Value) := match lget lv k with
  | some (.int x) => some (lv, .int x :: st)
  | _ => none
def ldL (lv : LV) (k : Nat) (st : List Value) : Option (LV × List Value) := match lget lv k with
  | some (.long x) => some (lv, .long x :: st)
  | _ => none
def ldA (lv : LV) (k : Nat) (st : List Value) : Option (LV × List Value) := match lget lv k with
  | some (.ref x) => some (lv, .ref x :: st)
  | some .null => some (lv, .null :: st)
  | _ => none
def stI (lv : LV) (k : Nat) (st : List Value) : Option (LV × List Value) := match st with
  | .int x :: r => some (lput1 lv k (.int x), r)
  | _ => none
def stL (lv : LV) (k : Nat) (st : List Value) : Option (LV × List Value) := match st with
  | .long x :: r => some (lput2 lv k (.long x), r)
  | _ => none
def stA (lv : LV) (k : Nat) (st : List Value) : Option (LV × List Value) := match st with
  | .ref x :: r => some (lput1 lv k (.ref x), r)
  | .null :: r => some (lput1 lv k .null, r)
  | _ => none
def bI (f : Int32 → Int32 → Int32) (lv : LV) (st : List Value) : Option (LV × List Value) := match st with
  | .int y :: .int x :: r => some (lv, .int (f x y) :: r)
  | _ => none
def uI (f : Int32 → Int32) (lv : LV) (st : List Value) : Option (LV × List Value) := match st with
  | .int x :: r => some (lv, .int (f x) :: r)
  | _ => none
def bL (f : Int64 → Int64 → Int64) (lv : LV) (st : List Value) : Option (LV × List Value) := match st with
  | .long y :: .long x :: r => some (lv, .long (f x y) :: r)
  | _ => none
def up1 (v : Value) : Bool := match v with
  | .int _ => true
  | .ref _ => true
  | .null => true
  | _ => false
/-- an instruction that touches locals and the operand stack alone -/
def pst (i : Instr) (v : Int32) (lv : LV) (st : List Value) : Option (LV × List Value) := match i with
  | .iconst _ => some (lv, .int v :: st)
  | .bipush _ => some (lv, .int v :: st)
  | .sipush _ => some (lv, .int v :: st)
  | .lconst n => some (lv, .long (Int64.ofNat (n : Nat)) :: st)
  | .aconst_null => some (lv, .null :: st)
  | .iload_n k => ldI lv (k : Nat) st
  | .iload k => ldI lv k st
  | .lload_n k => ldL lv (k : Nat) st
  | .lload k => ldL lv k st
  | .aload_n k => ldA lv (k : Nat) st
  | .aload k => ldA lv k st
  | .istore_n k => stI lv (k : Nat) st
  | .istore k => stI lv k st
  | .lstore_n k => stL lv (k : Nat) st
  | .lstore k => stL lv k st
  | .astore_n k => stA lv (k : Nat) st
  | .astore k => stA lv k st
  | .iinc k _ => match lget lv k with
    | some (.int x) => some (lput1 lv k (.int (x + v)), st)
    | _ => none
  | .iadd => bI (fun x y => x + y) lv st
  | .isub => bI (fun x y => x - y) lv st
  | .imul => bI (fun x y => x * y) lv st
  | .iand => bI (fun x y => x &&& y) lv st
  | .ior => bI (fun x y => x ||| y) lv st
  | .ixor => bI (fun x y => x ^^^ y) lv st
  | .ishl => bI (fun x y => x <<< (y &&& 31)) lv st
  | .ishr => bI (fun x y => x >>> (y &&& 31)) lv st
  | .iushr => bI (fun x y => (x.toUInt32 >>> (y.toUInt32 &&& Int32.toUInt32 31)).toInt32) lv st
  | .ineg => uI (fun x => -x) lv st
  | .i2b => uI (fun x => x.toInt8.toInt32) lv st
  | .i2s => uI (fun x => x.toInt16.toInt32) lv st
  | .i2c => uI (fun x => (x.toUInt32 % 65536).toInt32) lv st
  | .i2l => match st with
    | .int x :: r => some (lv, .long x.toInt64 :: r)
    | _ => none
  | .l2i => match st with
    | .long x :: r => some (lv, .int x.toInt32 :: r)
    | _ => none
  | .ladd => bL (fun x y => x + y) lv st
  | .lsub => bL (fun x y => x - y) lv st
  | .lmul => bL (fun x y => x * y) lv st
  | .lshr => match st with
    | .int y :: .long x :: r => some (lv, .long (x >>> (y.toInt64 &&& 63)) :: r)
    | _ => none
  | .lcmp => match st with
    | .long y :: .long x :: r => some (lv, .int (lg_cmp x y) :: r)
    | _ => none
  | .dup => match st with
    | w :: r => if up1 w then some (lv, w :: w :: r) else none
    | _ => none
  | .pop => match st with
    | w :: r => if up1 w then some (lv, r) else none
    | _ => none
  | .dup_x1 => match st with
    | w :: z :: r => if up1 w && up1 z then some (lv, w :: z :: w :: r) else none
    | _ => none
  | .dup2 => match st with
    | w :: z :: r => if up1 w && up1 z then some (lv, w :: z :: w :: z :: r) else none
    | _ => none
  | _ => none
/-- the printed number is the instruction's, its length, its local's place -/
def okc (i : Instr) (n : Nat) (v : Int32) (nL : Nat) : Bool := match i with
  | .iconst z => n == 1 && Int32.ofInt z == v
  | .bipush z => n == 2 && (Int8.ofInt z).toInt32 == v
  | .sipush z => n == 3 && (Int16.ofInt z).toInt32 == v
  | .iinc k z => n == 3 && Int32.ofInt z == v && decide (k < nL)
  | .istore_n k => n == 1 && decide ((k : Nat) < nL)
  | .astore_n k => n == 1 && decide ((k : Nat) < nL)
  | .lstore_n k => n == 1 && decide ((k : Nat) + 1 < nL)
  | .istore k => n == 2 && decide (k < nL)
  | .astore k => n == 2 && decide (k < nL)
  | .lstore k => n == 2 && decide (k + 1 < nL)
  | .iload _ => n == 2
  | .lload _ => n == 2
  | .aload _ => n == 2
  | _ => n == 1
abbrev SI : Type := Instr × Nat × Int32
def segR (cc : ByteArray) (nL : Nat) : List SI → Nat → Nat → Bool
  | [], pc, pe => pc == pe
  | q :: r, pc, pe => decide (decode cc pc = .ok (q.1, q.2.1)) && okc q.1 q.2.1 q.2.2 nL && segR cc nL r (pc + q.2.1) pe
def segE : List SI → LV → List Value → Option (LV × List Value)
  | [], lv, st => some (lv, st)
  | q :: r, lv, st => match pst q.1 q.2.2 lv st with
    | some z => segE r z.1 z.2
    | none => none
section SEG
variable {X : MX} {G : GX} {own : String} {cc : ByteArray} {nL : Nat} {ret : Option FieldType} {fr lo : Nat} {h0 : AH} {Q : OC → AH → Prop} {h : AH}
theorem up1_cat {w : Value} (h : up1 w = true) : w.category = 1 := by cases w <;> simp [up1] at h <;> rfl
set_option maxHeartbeats 4000000 in
theorem pst_ok (C : Cx X G own cc nL ret fr lo h0) {i : Instr} {n : Nat} {v : Int32} {pc : Nat} {lv lv' : LV} {st st' : List Value} (hd : decode cc pc = .ok (i, n)) (hk : okc i n v nL = true) (he : pst i v lv st = some (lv', st')) (k : V X G h0 Q (pc + n) lv' st' h) : V X G h0 Q pc lv st h := by
  obtain ⟨p, l, e, R, s, m, args, below, meth, c⟩ := X
  obtain ⟨hx, hb, hml, -⟩ := C
  intro H locs ls hR hL hlo hl
  have k' : ∀ ls, lv_has ls c.maxLocals lv' → _ := fun ls hl => k H locs ls hR hL hlo hl
  dsimp only [xS, xC] at hx hb hml hR hl k' ⊢
  clear k
  cases i <;> try (simp [pst] at he; done)
  case iconst z =>
    simp only [okc, Bool.and_eq_true, beq_iff_eq] at hk
    obtain ⟨rfl, hv⟩ := hk
    cases he
    exact lv_iconst hx hb hd hv (k' ls hl)
  case bipush z =>
    simp only [okc, Bool.and_eq_true, beq_iff_eq] at hk
    obtain ⟨rfl, hv⟩ := hk
    cases he
    exact lv_bipush hx hb hd hv (k' ls hl)
  case sipush z =>
    simp only [okc, Bool.and_eq_true, beq_iff_eq] at hk
    obtain ⟨rfl, hv⟩ := hk
    cases he
    exact lv_sipush hx hb hd hv (k' ls hl)
  case lconst z =>
    simp only [okc, beq_iff_eq] at hk
    subst hk
    cases he
    exact lv_lconst hx hb hd rfl (k' ls hl)
  case aconst_null =>
    simp only [okc, beq_iff_eq] at hk
    subst hk
    cases he
    exact lv_null hx hb hd (k' ls hl)
  case iload_n z =>
    simp only [okc, beq_iff_eq] at hk
    subst hk
    simp only [pst, ldI] at he
    cases hg : lget lv (z : Nat) with
    | none => rw [hg] at he; cases he
    | some w =>
      rw [hg] at he
      cases w <;> simp at he
      obtain ⟨rfl, rfl⟩ := he
      exact lv_iload_n hx hb hd rfl (lget_has hl hg) (k' ls hl)
  case iload z =>
    simp only [okc, beq_iff_eq] at hk
    subst hk
    simp only [pst, ldI] at he
    cases hg : lget lv z with
    | none => rw [hg] at he; cases he
    | some w =>
      rw [hg] at he
      cases w <;> simp at he
      obtain ⟨rfl, rfl⟩ := he
      exact lv_iload hx hb hd (lget_has hl hg) (k' ls hl)
  case lload_n z =>
    simp only [okc, beq_iff_eq] at hk
    subst hk
    simp only [pst, ldL] at he
    cases hg : lget lv (z : Nat) with
    | none => rw [hg] at he; cases he
    | some w =>
      rw [hg] at he
      cases w <;> simp at he
      obtain ⟨rfl, rfl⟩ := he
      exact lv_lload_n hx hb hd rfl (lget_has hl hg) (k' ls hl)
  case lload z =>
    simp only [okc, beq_iff_eq] at hk
    subst hk
    simp only [pst, ldL] at he
    cases hg : lget lv z with
    | none => rw [hg] at he; cases he
    | some w =>
      rw [hg] at he
      cases w <;> simp at he
      obtain ⟨rfl, rfl⟩ := he
      exact lv_lload hx hb hd (lget_has hl hg) (k' ls hl)
  case aload_n z =>
    simp only [okc, beq_iff_eq] at hk
    subst hk
    simp only [pst, ldA] at he
    cases hg : lget lv (z : Nat) with
    | none => rw [hg] at he; cases he
    | some w =>
      rw [hg] at he
      cases w <;> simp at he
      · obtain ⟨rfl, rfl⟩ := he
        exact lv_aload_nN hx hb hd rfl (lget_has hl hg) (k' ls hl)
      · obtain ⟨rfl, rfl⟩ := he
        exact lv_aload_n hx hb hd rfl (lget_has hl hg) (k' ls hl)
  case aload z =>
    simp only [okc, beq_iff_eq] at hk
    subst hk
    simp only [pst, ldA] at he
    cases hg : lget lv z with
    | none => rw [hg] at he; cases he
    | some w =>
      rw [hg] at he
      cases w <;> simp at he
      · obtain ⟨rfl, rfl⟩ := he
        exact lv_aloadN hx hb hd (lget_has hl hg) (k' ls hl)
      · obtain ⟨rfl, rfl⟩ := he
        exact lv_aload hx hb hd (lget_has hl hg) (k' ls hl)
  case istore_n z =>
    simp only [okc, Bool.and_eq_true, beq_iff_eq, decide_eq_true_eq] at hk
    obtain ⟨rfl, hz⟩ := hk
    match st, he with
    | .int x :: r, he =>
      simp only [pst, stI] at he
      cases he
      exact lv_istore_n hx hb hd rfl hl (by rw [hml]; exact hz) rfl (fun ls hl => k' ls hl)
  case istore z =>
    simp only [okc, Bool.and_eq_true, beq_iff_eq, decide_eq_true_eq] at hk
    obtain ⟨rfl, hz⟩ := hk
    match st, he with
    | .int x :: r, he =>
      simp only [pst, stI] at he
      cases he
      exact lv_istore hx hb hd hl (by rw [hml]; exact hz) rfl (fun ls hl => k' ls hl)
  case lstore_n z =>
    simp only [okc, Bool.and_eq_true, beq_iff_eq, decide_eq_true_eq] at hk
    obtain ⟨rfl, hz⟩ := hk
    match st, he with
    | .long x :: r, he =>
      simp only [pst, stL] at he
      cases he
      exact lv_lstore_n hx hb hd rfl hl (by rw [hml]; exact hz) rfl (fun ls hl => k' ls hl)
  case lstore z =>
    simp only [okc, Bool.and_eq_true, beq_iff_eq, decide_eq_true_eq] at hk
    obtain ⟨rfl, hz⟩ := hk
    match st, he with
    | .long x :: r, he =>
      simp only [pst, stL] at he
      cases he
      exact lv_lstore hx hb hd hl (by rw [hml]; exact hz) rfl (fun ls hl => k' ls hl)
  case astore_n z =>
    simp only [okc, Bool.and_eq_true, beq_iff_eq, decide_eq_true_eq] at hk
    obtain ⟨rfl, hz⟩ := hk
    match st, he with
    | .ref x :: r, he =>
      simp only [pst, stA] at he
      cases he
      exact lv_astore_n hx hb hd rfl hl (by rw [hml]; exact hz) rfl (fun ls hl => k' ls hl)
    | .null :: r, he =>
      simp only [pst, stA] at he
      cases he
      exact lv_astore_nN hx hb hd rfl hl (by rw [hml]; exact hz) rfl (fun ls hl => k' ls hl)
  case astore z =>
    simp only [okc, Bool.and_eq_true, beq_iff_eq, decide_eq_true_eq] at hk
    obtain ⟨rfl, hz⟩ := hk
    match st, he with
    | .ref x :: r, he =>
      simp only [pst, stA] at he
      cases he
      exact lv_astore hx hb hd hl (by rw [hml]; exact hz) rfl (fun ls hl => k' ls hl)
    | .null :: r, he =>
      simp only [pst, stA] at he
      cases he
      exact lv_astoreN hx hb hd hl (by rw [hml]; exact hz) rfl (fun ls hl => k' ls hl)
  case iinc z y =>
    simp only [okc, Bool.and_eq_true, beq_iff_eq, decide_eq_true_eq] at hk
    obtain ⟨⟨rfl, hv⟩, hz⟩ := hk
    simp only [pst] at he
    cases hg : lget lv z with
    | none => rw [hg] at he; cases he
    | some w =>
      rw [hg] at he
      cases w <;> simp at he
      rename_i x
      obtain ⟨rfl, rfl⟩ := he
      obtain ⟨j, hj⟩ := lget_mem hg
      exact lv_iinc (v := x + v) hx hb hd hl hj (by rw [hv]) (by rw [hml]; exact hz) rfl (fun ls hl => k' ls hl)
  case iadd =>
    simp only [okc, beq_iff_eq] at hk
    subst hk
    match st, he with
    | .int y :: .int x :: r, he =>
      simp only [pst, bI] at he
      cases he
      exact lv_iadd hx hb hd (k' ls hl)
  case isub =>
    simp only [okc, beq_iff_eq] at hk
    subst hk
    match st, he with
    | .int y :: .int x :: r, he =>
      simp only [pst, bI] at he
      cases he
      exact lv_isub hx hb hd (k' ls hl)
  case imul =>
    simp only [okc, beq_iff_eq] at hk
    subst hk
    match st, he with
    | .int y :: .int x :: r, he =>
      simp only [pst, bI] at he
      cases he
      exact lv_imul hx hb hd (k' ls hl)
  case iand =>
    simp only [okc, beq_iff_eq] at hk
    subst hk
    match st, he with
    | .int y :: .int x :: r, he =>
      simp only [pst, bI] at he
      cases he
      exact lv_iand hx hb hd (k' ls hl)
  case ior =>
    simp only [okc, beq_iff_eq] at hk
    subst hk
    match st, he with
    | .int y :: .int x :: r, he =>
      simp only [pst, bI] at he
      cases he
      exact lv_ior hx hb hd (k' ls hl)
  case ixor =>
    simp only [okc, beq_iff_eq] at hk
    subst hk
    match st, he with
    | .int y :: .int x :: r, he =>
      simp only [pst, bI] at he
      cases he
      exact lv_ixor hx hb hd (k' ls hl)
  case ishl =>
    simp only [okc, beq_iff_eq] at hk
    subst hk
    match st, he with
    | .int y :: .int x :: r, he =>
      simp only [pst, bI] at he
      cases he
      exact lv_ishl hx hb hd (k' ls hl)
  case ishr =>
    simp only [okc, beq_iff_eq] at hk
    subst hk
    match st, he with
    | .int y :: .int x :: r, he =>
      simp only [pst, bI] at he
      cases he
      exact lv_ishr hx hb hd (k' ls hl)
  case iushr =>
    simp only [okc, beq_iff_eq] at hk
    subst hk
    match st, he with
    | .int y :: .int x :: r, he =>
      simp only [pst, bI] at he
      cases he
      exact lv_iushr hx hb hd rfl (k' ls hl)
  case ineg =>
    simp only [okc, beq_iff_eq] at hk
    subst hk
    match st, he with
    | .int x :: r, he =>
      simp only [pst, uI] at he
      cases he
      exact lv_ineg hx hb hd (k' ls hl)
  case i2b =>
    simp only [okc, beq_iff_eq] at hk
    subst hk
    match st, he with
    | .int x :: r, he =>
      simp only [pst, uI] at he
      cases he
      exact lv_i2b hx hb hd rfl (k' ls hl)
  case i2s =>
    simp only [okc, beq_iff_eq] at hk
    subst hk
    match st, he with
    | .int x :: r, he =>
      simp only [pst, uI] at he
      cases he
      exact lv_i2s hx hb hd rfl (k' ls hl)
  case i2c =>
    simp only [okc, beq_iff_eq] at hk
    subst hk
    match st, he with
    | .int x :: r, he =>
      simp only [pst, uI] at he
      cases he
      exact lv_i2c hx hb hd rfl (k' ls hl)
  case i2l =>
    simp only [okc, beq_iff_eq] at hk
    subst hk
    match st, he with
    | .int x :: r, he =>
      simp only [pst] at he
      cases he
      exact lv_i2l hx hb hd rfl (k' ls hl)
  case l2i =>
    simp only [okc, beq_iff_eq] at hk
    subst hk
    match st, he with
    | .long x :: r, he =>
      simp only [pst] at he
      cases he
      exact lv_l2i hx hb hd rfl (k' ls hl)
  case ladd =>
    simp only [okc, beq_iff_eq] at hk
    subst hk
    match st, he with
    | .long y :: .long x :: r, he =>
      simp only [pst, bL] at he
      cases he
      exact lv_ladd hx hb hd (k' ls hl)
  case lsub =>
    simp only [okc, beq_iff_eq] at hk
    subst hk
    match st, he with
    | .long y :: .long x :: r, he =>
      simp only [pst, bL] at he
      cases he
      exact lv_lsub hx hb hd (k' ls hl)
  case lmul =>
    simp only [okc, beq_iff_eq] at hk
    subst hk
    match st, he with
    | .long y :: .long x :: r, he =>
      simp only [pst, bL] at he
      cases he
      exact lv_lmul hx hb hd (k' ls hl)
  case lshr =>
    simp only [okc, beq_iff_eq] at hk
    subst hk
    match st, he with
    | .int y :: .long x :: r, he =>
      simp only [pst] at he
      cases he
      exact lv_lshr hx hb hd rfl (k' ls hl)
  case lcmp =>
    simp only [okc, beq_iff_eq] at hk
    subst hk
    match st, he with
    | .long y :: .long x :: r, he =>
      simp only [pst] at he
      cases he
      exact W.lcmp hx hb hd (k' ls hl)
  case dup =>
    simp only [okc, beq_iff_eq] at hk
    subst hk
    match st, he with
    | w :: r, he =>
      simp only [pst] at he
      by_cases hw : up1 w = true
      · rw [if_pos hw] at he
        cases he
        exact lv_dup hx hb hd (up1_cat hw) (k' ls hl)
      · rw [if_neg hw] at he; cases he
  case pop =>
    simp only [okc, beq_iff_eq] at hk
    subst hk
    match st, he with
    | w :: r, he =>
      simp only [pst] at he
      by_cases hw : up1 w = true
      · rw [if_pos hw] at he
        cases he
        exact lv_pop hx hb hd (up1_cat hw) (k' ls hl)
      · rw [if_neg hw] at he; cases he
  case dup_x1 =>
    simp only [okc, beq_iff_eq] at hk
    subst hk
    match st, he with
    | w :: z :: r, he =>
      simp only [pst] at he
      by_cases hw : (up1 w && up1 z) = true
      · rw [if_pos hw] at he
        cases he
        rw [Bool.and_eq_true] at hw
        exact lv_dup_x1 hx hb hd (up1_cat hw.1) (up1_cat hw.2) (k' ls hl)
      · rw [if_neg hw] at he; cases he
  case dup2 =>
    simp only [okc, beq_iff_eq] at hk
    subst hk
    match st, he with
    | w :: z :: r, he =>
      simp only [pst] at he
      by_cases hw : (up1 w && up1 z) = true
      · rw [if_pos hw] at he
        cases he
        rw [Bool.and_eq_true] at hw
        exact lv_dup2_11 hx hb hd (up1_cat hw.1) (up1_cat hw.2) (k' ls hl)
      · rw [if_neg hw] at he; cases he
/-- a stretch of them -/
theorem Cx.seg (C : Cx X G own cc nL ret fr lo h0) {pc pe : Nat} {lv lv' : LV} {st st' : List Value} (is : List SI) (hd : segR cc nL is pc pe = true) (he : segE is lv st = some (lv', st')) (k : V X G h0 Q pe lv' st' h) : V X G h0 Q pc lv st h := by
  induction is generalizing pc lv st with
  | nil =>
    simp only [segR, beq_iff_eq] at hd
    subst hd
    cases he
    exact k
  | cons q r ih =>
    simp only [segR, Bool.and_eq_true, decide_eq_true_eq] at hd
    obtain ⟨⟨h1, h2⟩, h3⟩ := hd
    simp only [segE] at he
    cases hp : pst q.1 q.2.2 lv st with
    | none => rw [hp] at he; cases he
    | some z =>
      rw [hp] at he
      exact pst_ok C h1 h2 hp (ih h3 he)
/-- fewer locals are known -/
theorem Vsub {pc : Nat} {lv lv' : LV} {st : List Value} (ks : List Nat) (hl : lv_pick lv ks = lv') (k : V X G h0 Q pc lv' st h) : V X G h0 Q pc lv st h :=
  fun H locs ls hR hL hlo hl0 => k H locs ls hR hL hlo (lv_sub hl0 ks hl)
theorem Vtopi {pc : Nat} {lv : LV} {st : List Value} {x : Int32} (k : ∀ y : Int32, y = x → V X G h0 Q pc lv (.int y :: st) h) : V X G h0 Q pc lv (.int x :: st) h := k x rfl
theorem Vtopl {pc : Nat} {lv : LV} {st : List Value} {x : Int64} (k : ∀ y : Int64, y = x → V X G h0 Q pc lv (.long y :: st) h) : V X G h0 Q pc lv (.long x :: st) h := k x rfl
theorem Cx.goto (C : Cx X G own cc nL ret fr lo h0) {pc tgt : Nat} {off : Int} {lv : LV} {st : List Value} (hd : decode cc pc = .ok (.goto off, 3)) (ht : (pc : Int) + off = (tgt : Int)) (k : V X G h0 Q tgt lv st h) : V X G h0 Q pc lv st h := by
  obtain ⟨p, l, e, R, s, m, args, below, meth, c⟩ := X
  obtain ⟨hx, hb, -⟩ := C
  intro H locs ls hR hL hlo hl
  exact lv_goto hx hb hd ht (k H locs ls hR hL hlo hl)
theorem Cx.if_eq (C : Cx X G own cc nL ret fr lo h0) {pc pf tgt : Nat} {off : Int} {lv : LV} {st : List Value} {x : Int32} (hd : decode cc pc = .ok (.ifCond .eq off, 3)) (ht : (pc : Int) + off = (tgt : Int)) (hf : pc + 3 = pf) (kt : x = 0 → V X G h0 Q tgt lv st h) (kf : ¬ x = 0 → V X G h0 Q pf lv st h) : V X G h0 Q pc lv (.int x :: st) h := by
  subst hf
  obtain ⟨p, l, e, R, s, m, args, below, meth, c⟩ := X
  obtain ⟨hx, hb, -⟩ := C
  intro H locs ls hR hL hlo hl
  exact lv_if_eq hx hb hd ht (fun q => kt q H locs ls hR hL hlo hl) (fun q => kf q H locs ls hR hL hlo hl)
theorem Cx.icmp_eq (C : Cx X G own cc nL ret fr lo h0) {pc pf tgt : Nat} {off : Int} {lv : LV} {st : List Value} {x y : Int32} (hd : decode cc pc = .ok (.if_icmp .eq off, 3)) (ht : (pc : Int) + off = (tgt : Int)) (hf : pc + 3 = pf) (kt : x = y → V X G h0 Q tgt lv st h) (kf : ¬ x = y → V X G h0 Q pf lv st h) : V X G h0 Q pc lv (.int y :: .int x :: st) h := by
  subst hf
  obtain ⟨p, l, e, R, s, m, args, below, meth, c⟩ := X
  obtain ⟨hx, hb, -⟩ := C
  intro H locs ls hR hL hlo hl
  exact lv_icmp_eq hx hb hd ht (fun q => kt q H locs ls hR hL hlo hl) (fun q => kf q H locs ls hR hL hlo hl)
theorem Cx.if_lt (C : Cx X G own cc nL ret fr lo h0) {pc pf tgt : Nat} {off : Int} {lv : LV} {st : List Value} {x : Int32} (hd : decode cc pc = .ok (.ifCond .lt off, 3)) (ht : (pc : Int) + off = (tgt : Int)) (hf : pc + 3 = pf) (kt : x < 0 → V X G h0 Q tgt lv st h) (kf : ¬ x < 0 → V X G h0 Q pf lv st h) : V X G h0 Q pc lv (.int x :: st) h := by
  subst hf
  obtain ⟨p, l, e, R, s, m, args, below, meth, c⟩ := X
  obtain ⟨hx, hb, -⟩ := C
  intro H locs ls hR hL hlo hl
  exact lv_if_lt hx hb hd ht (fun q => kt q H locs ls hR hL hlo hl) (fun q => kf q H locs ls hR hL hlo hl)
theorem Cx.icmp_lt (C : Cx X G own cc nL ret fr lo h0) {pc pf tgt : Nat} {off : Int} {lv : LV} {st : List Value} {x y : Int32} (hd : decode cc pc = .ok (.if_icmp .lt off, 3)) (ht : (pc : Int) + off = (tgt : Int)) (hf : pc + 3 = pf) (kt : x < y → V X G h0 Q tgt lv st h) (kf : ¬ x < y → V X G h0 Q pf lv st h) : V X G h0 Q pc lv (.int y :: .int x :: st) h := by
  subst hf
  obtain ⟨p, l, e, R, s, m, args, below, meth, c⟩ := X
  obtain ⟨hx, hb, -⟩ := C
  intro H locs ls hR hL hlo hl
  exact lv_icmp_lt hx hb hd ht (fun q => kt q H locs ls hR hL hlo hl) (fun q => kf q H locs ls hR hL hlo hl)
theorem Cx.if_ge (C : Cx X G own cc nL ret fr lo h0) {pc pf tgt : Nat} {off : Int} {lv : LV} {st : List Value} {x : Int32} (hd : decode cc pc = .ok (.ifCond .ge off, 3)) (ht : (pc : Int) + off = (tgt : Int)) (hf : pc + 3 = pf) (kt : 0 ≤ x → V X G h0 Q tgt lv st h) (kf : ¬ 0 ≤ x → V X G h0 Q pf lv st h) : V X G h0 Q pc lv (.int x :: st) h := by
  subst hf
  obtain ⟨p, l, e, R, s, m, args, below, meth, c⟩ := X
  obtain ⟨hx, hb, -⟩ := C
  intro H locs ls hR hL hlo hl
  exact lv_if_ge hx hb hd ht (fun q => kt q H locs ls hR hL hlo hl) (fun q => kf q H locs ls hR hL hlo hl)
theorem Cx.icmp_ge (C : Cx X G own cc nL ret fr lo h0) {pc pf tgt : Nat} {off : Int} {lv : LV} {st : List Value} {x y : Int32} (hd : decode cc pc = .ok (.if_icmp .ge off, 3)) (ht : (pc : Int) + off = (tgt : Int)) (hf : pc + 3 = pf) (kt : y ≤ x → V X G h0 Q tgt lv st h) (kf : ¬ y ≤ x → V X G h0 Q pf lv st h) : V X G h0 Q pc lv (.int y :: .int x :: st) h := by
  subst hf
  obtain ⟨p, l, e, R, s, m, args, below, meth, c⟩ := X
  obtain ⟨hx, hb, -⟩ := C
  intro H locs ls hR hL hlo hl
  exact lv_icmp_ge hx hb hd ht (fun q => kt q H locs ls hR hL hlo hl) (fun q => kf q H locs ls hR hL hlo hl)
theorem Cx.if_gt (C : Cx X G own cc nL ret fr lo h0) {pc pf tgt : Nat} {off : Int} {lv : LV} {st : List Value} {x : Int32} (hd : decode cc pc = .ok (.ifCond .gt off, 3)) (ht : (pc : Int) + off = (tgt : Int)) (hf : pc + 3 = pf) (kt : 0 < x → V X G h0 Q tgt lv st h) (kf : ¬ 0 < x → V X G h0 Q pf lv st h) : V X G h0 Q pc lv (.int x :: st) h := by
  subst hf
  obtain ⟨p, l, e, R, s, m, args, below, meth, c⟩ := X
  obtain ⟨hx, hb, -⟩ := C
  intro H locs ls hR hL hlo hl
  exact lv_if_gt hx hb hd ht (fun q => kt q H locs ls hR hL hlo hl) (fun q => kf q H locs ls hR hL hlo hl)
theorem Cx.icmp_gt (C : Cx X G own cc nL ret fr lo h0) {pc pf tgt : Nat} {off : Int} {lv : LV} {st : List Value} {x y : Int32} (hd : decode cc pc = .ok (.if_icmp .gt off, 3)) (ht : (pc : Int) + off = (tgt : Int)) (hf : pc + 3 = pf) (kt : y < x → V X G h0 Q tgt lv st h) (kf : ¬ y < x → V X G h0 Q pf lv st h) : V X G h0 Q pc lv (.int y :: .int x :: st) h := by
  subst hf
  obtain ⟨p, l, e, R, s, m, args, below, meth, c⟩ := X
  obtain ⟨hx, hb, -⟩ := C
  intro H locs ls hR hL hlo hl
  exact lv_icmp_gt hx hb hd ht (fun q => kt q H locs ls hR hL hlo hl) (fun q => kf q H locs ls hR hL hlo hl)
theorem Cx.if_le (C : Cx X G own cc nL ret fr lo h0) {pc pf tgt : Nat} {off : Int} {lv : LV} {st : List Value} {x : Int32} (hd : decode cc pc = .ok (.ifCond .le off, 3)) (ht : (pc : Int) + off = (tgt : Int)) (hf : pc + 3 = pf) (kt : x ≤ 0 → V X G h0 Q tgt lv st h) (kf : ¬ x ≤ 0 → V X G h0 Q pf lv st h) : V X G h0 Q pc lv (.int x :: st) h := by
  subst hf
  obtain ⟨p, l, e, R, s, m, args, below, meth, c⟩ := X
  obtain ⟨hx, hb, -⟩ := C
  intro H locs ls hR hL hlo hl
  exact lv_if_le hx hb hd ht (fun q => kt q H locs ls hR hL hlo hl) (fun q => kf q H locs ls hR hL hlo hl)
theorem Cx.icmp_le (C : Cx X G own cc nL ret fr lo h0) {pc pf tgt : Nat} {off : Int} {lv : LV} {st : List Value} {x y : Int32} (hd : decode cc pc = .ok (.if_icmp .le off, 3)) (ht : (pc : Int) + off = (tgt : Int)) (hf : pc + 3 = pf) (kt : x ≤ y → V X G h0 Q tgt lv st h) (kf : ¬ x ≤ y → V X G h0 Q pf lv st h) : V X G h0 Q pc lv (.int y :: .int x :: st) h := by
  subst hf
  obtain ⟨p, l, e, R, s, m, args, below, meth, c⟩ := X
  obtain ⟨hx, hb, -⟩ := C
  intro H locs ls hR hL hlo hl
  exact lv_icmp_le hx hb hd ht (fun q => kt q H locs ls hR hL hlo hl) (fun q => kf q H locs ls hR hL hlo hl)
theorem Cx.if_ne (C : Cx X G own cc nL ret fr lo h0) {pc pf tgt : Nat} {off : Int} {lv : LV} {st : List Value} {x : Int32} (hd : decode cc pc = .ok (.ifCond .ne off, 3)) (ht : (pc : Int) + off = (tgt : Int)) (hf : pc + 3 = pf) (kt : ¬ x = 0 → V X G h0 Q tgt lv st h) (kf : x = 0 → V X G h0 Q pf lv st h) : V X G h0 Q pc lv (.int x :: st) h := by
  subst hf
  obtain ⟨p, l, e, R, s, m, args, below, meth, c⟩ := X
  obtain ⟨hx, hb, -⟩ := C
  intro H locs ls hR hL hlo hl
  exact lv_if_ne hx hb hd ht (fun q => kt q H locs ls hR hL hlo hl) (fun q => kf q H locs ls hR hL hlo hl)
theorem Cx.icmp_ne (C : Cx X G own cc nL ret fr lo h0) {pc pf tgt : Nat} {off : Int} {lv : LV} {st : List Value} {x y : Int32} (hd : decode cc pc = .ok (.if_icmp .ne off, 3)) (ht : (pc : Int) + off = (tgt : Int)) (hf : pc + 3 = pf) (kt : ¬ x = y → V X G h0 Q tgt lv st h) (kf : x = y → V X G h0 Q pf lv st h) : V X G h0 Q pc lv (.int y :: .int x :: st) h := by
  subst hf
  obtain ⟨p, l, e, R, s, m, args, below, meth, c⟩ := X
  obtain ⟨hx, hb, -⟩ := C
  intro H locs ls hR hL hlo hl
  exact lv_icmp_ne hx hb hd ht (fun q => kt q H locs ls hR hL hlo hl) (fun q => kf q H locs ls hR hL hlo hl)
theorem Cx.nullN (C : Cx X G own cc nL ret fr lo h0) {pc tgt : Nat} {off : Int} {lv : LV} {st : List Value} (hd : decode cc pc = .ok (.ifnull off, 3)) (ht : (pc : Int) + off = (tgt : Int)) (k : V X G h0 Q tgt lv st h) : V X G h0 Q pc lv (.null :: st) h := by
  obtain ⟨p, l, e, R, s, m, args, below, meth, c⟩ := X
  obtain ⟨hx, hb, -⟩ := C
  intro H locs ls hR hL hlo hl
  exact lv_ifnullN hx hb hd ht (k H locs ls hR hL hlo hl)
theorem Cx.nullR (C : Cx X G own cc nL ret fr lo h0) {pc pf a : Nat} {off : Int} {lv : LV} {st : List Value} (hd : decode cc pc = .ok (.ifnull off, 3)) (hf : pc + 3 = pf) (k : V X G h0 Q pf lv st h) : V X G h0 Q pc lv (.ref a :: st) h := by
  subst hf
  obtain ⟨p, l, e, R, s, m, args, below, meth, c⟩ := X
  obtain ⟨hx, hb, -⟩ := C
  intro H locs ls hR hL hlo hl
  exact lv_ifnull hx hb hd (k H locs ls hR hL hlo hl)
theorem Cx.nonnullN (C : Cx X G own cc nL ret fr lo h0) {pc pf : Nat} {off : Int} {lv : LV} {st : List Value} (hd : decode cc pc = .ok (.ifnonnull off, 3)) (hf : pc + 3 = pf) (k : V X G h0 Q pf lv st h) : V X G h0 Q pc lv (.null :: st) h := by
  subst hf
  obtain ⟨p, l, e, R, s, m, args, below, meth, c⟩ := X
  obtain ⟨hx, hb, -⟩ := C
  intro H locs ls hR hL hlo hl
  exact lv_ifnonnullN hx hb hd (k H locs ls hR hL hlo hl)
theorem Cx.nonnullR (C : Cx X G own cc nL ret fr lo h0) {pc tgt a : Nat} {off : Int} {lv : LV} {st : List Value} (hd : decode cc pc = .ok (.ifnonnull off, 3)) (ht : (pc : Int) + off = (tgt : Int)) (k : V X G h0 Q tgt lv st h) : V X G h0 Q pc lv (.ref a :: st) h := by
  obtain ⟨p, l, e, R, s, m, args, below, meth, c⟩ := X
  obtain ⟨hx, hb, -⟩ := C
  intro H locs ls hR hL hlo hl
  exact lv_ifnonnull hx hb hd ht (k H locs ls hR hL hlo hl)
theorem Cx.idiv (C : Cx X G own cc nL ret fr lo h0) {pc pf : Nat} {lv : LV} {st : List Value} {x y : Int32} (hd : decode cc pc = .ok (.idiv, 1)) (hf : pc + 1 = pf) (hy : ckD y = some y) (k : V X G h0 Q pf lv (.int (x / y) :: st) h) : V X G h0 Q pc lv (.int y :: .int x :: st) h := by
  subst hf
  obtain ⟨p, l, e, R, s, m, args, below, meth, c⟩ := X
  obtain ⟨hx, hb, -⟩ := C
  intro H locs ls hR hL hlo hl
  exact lv_idiv hx hb hd (fun q => by subst q; simp [ckD] at hy) (k H locs ls hR hL hlo hl)
theorem Cx.irem (C : Cx X G own cc nL ret fr lo h0) {pc pf : Nat} {lv : LV} {st : List Value} {x y : Int32} (hd : decode cc pc = .ok (.irem, 1)) (hf : pc + 1 = pf) (hy : ckD y = some y) (k : V X G h0 Q pf lv (.int (x - x / y * y) :: st) h) : V X G h0 Q pc lv (.int y :: .int x :: st) h := by
  subst hf
  obtain ⟨p, l, e, R, s, m, args, below, meth, c⟩ := X
  obtain ⟨hx, hb, -⟩ := C
  intro H locs ls hR hL hlo hl
  exact lv_irem hx hb hd (fun q => by subst q; simp [ckD] at hy) (k H locs ls hR hL hlo hl)
theorem Cx.ldcI (C : Cx X G own cc nL ret fr lo h0) {pc pf idx : Nat} {lv : LV} {st : List Value} {v : Int32} (hm : Cond.constant own idx v ∈ lw_good) (hd : decode cc pc = .ok (.ldc idx, 2)) (hf : pc + 2 = pf) (k : V X G h0 Q pf lv (.int v :: st) h) : V X G h0 Q pc lv st h := by
  subst hf
  obtain ⟨p, l, e, R, s, m, args, below, meth, c⟩ := X
  obtain ⟨hx, hb, hml, hown, hts, -⟩ := C
  intro H locs ls hR hL hlo hl
  exact lv_ldc hx hb hown (hts _ hm) hd (k H locs ls hR hL hlo hl)
theorem Cx.ldcwI (C : Cx X G own cc nL ret fr lo h0) {pc pf idx : Nat} {lv : LV} {st : List Value} {v : Int32} (hm : Cond.constant own idx v ∈ lw_good) (hd : decode cc pc = .ok (.ldc_w idx, 3)) (hf : pc + 3 = pf) (k : V X G h0 Q pf lv (.int v :: st) h) : V X G h0 Q pc lv st h := by
  subst hf
  obtain ⟨p, l, e, R, s, m, args, below, meth, c⟩ := X
  obtain ⟨hx, hb, hml, hown, hts, -⟩ := C
  intro H locs ls hR hL hlo hl
  exact lv_ldcw hx hb hown (hts _ hm) hd (k H locs ls hR hL hlo hl)
theorem Cx.ldcL (C : Cx X G own cc nL ret fr lo h0) {pc pf idx : Nat} {lv : LV} {st : List Value} {v : Int64} (hm : Cond.constantLong own idx v ∈ lw_good) (hd : decode cc pc = .ok (.ldc2_w idx, 3)) (hf : pc + 3 = pf) (k : V X G h0 Q pf lv (.long v :: st) h) : V X G h0 Q pc lv st h := by
  subst hf
  obtain ⟨p, l, e, R, s, m, args, below, meth, c⟩ := X
  obtain ⟨hx, hb, hml, hown, hts, -⟩ := C
  intro H locs ls hR hL hlo hl
  exact lv_ldc2 hx hb hown (hts _ hm) hd (k H locs ls hR hL hlo hl)
theorem Cx.ldcS (C : Cx X G own cc nL ret fr lo h0) {pc pf idx i : Nat} {lv : LV} {st : List Value} {tx : String} (hm : Ss[i]? = some (own, idx, tx)) (hd : decode cc pc = .ok (.ldc idx, 2)) (hf : pc + 2 = pf) (k : V X G h0 Q pf lv (.ref (G.2.2.1 i) :: st) h) : V X G h0 Q pc lv st h := by
  subst hf
  obtain ⟨p, l, e, R, s, m, args, below, meth, c⟩ := X
  obtain ⟨hx, hb, hml, hown, hts, -, -, hK, -⟩ := C
  intro H locs ls hR hL hlo hl
  exact va_ldcS hx hb hown (hK.2.2.2.2.1 i _ hm) hd (k H locs ls hR hL hlo hl)
theorem Cx.statV (C : Cx X G own cc nL ret fr lo h0) {pc pf idx : Nat} {lv : LV} {st : List Value} {Cn n d : String} {v : Value} (hZ : ∀ U, K1 G U → va_Z Cn n d v (fun a => G.2.1.size ≤ a) U G.2.1) (hm : Cond.fieldLink own idx Cn n d ∈ lw_good) (hd : decode cc pc = .ok (.getstatic idx, 3)) (hf : pc + 3 = pf) (k : V X G h0 Q pf lv (v :: st) h) : V X G h0 Q pc lv st h := by
  subst hf
  obtain ⟨p, l, e, R, s, m, args, below, meth, c⟩ := X
  obtain ⟨hx, hb, hml, hown, hts, -, -, hK, -⟩ := C
  intro H locs ls hR hL hlo hl
  obtain ⟨cf, kf, fi, f, a, cell, h1, h2, h3, h4, h5, h6, h7, h8⟩ := hZ _ hK
  have ha : a < G.2.1.size := (Array.getElem?_eq_some_iff.mp h5).1
  exact W.gets hx hb hown (hts _ hm) h1 h2 h3 h4 (by rw [hR.2.2.1 a (by rw [hR.2.1]; exact ha)]; exact h5) (fun e => by rw [e] at h6; cases h6) h7 rfl hd (k H locs ls hR hL hlo hl)
theorem Cx.fades (C : Cx X G own cc nL ret fr lo h0) {pc pf idx : Nat} {lv : LV} {st : List Value} (hm : Cond.fieldLink own idx "WallHouse$Wall" "FADES" "[I" ∈ lw_good) (hd : decode cc pc = .ok (.getstatic idx, 3)) (hf : pc + 3 = pf) (k : V X G h0 Q pf lv (.ref G.2.2.2.1 :: st) h) : V X G h0 Q pc lv st h := C.statV (fun _ K => K.2.2.2.2.2.1) hm hd hf k
theorem Cx.compact (C : Cx X G own cc nL ret fr lo h0) {pc pf idx : Nat} {lv : LV} {st : List Value} (hm : Cond.fieldLink own idx "java/lang/String" "COMPACT_STRINGS" "Z" ∈ lw_good) (hd : decode cc pc = .ok (.getstatic idx, 3)) (hf : pc + 3 = pf) (k : V X G h0 Q pf lv (.int 1 :: st) h) : V X G h0 Q pc lv st h := C.statV (fun _ K => K.2.2.2.2.2.2.1) hm hd hf k
theorem Cx.stat0 (C : Cx X G own cc nL ret fr lo h0) {pc pf idx : Nat} {lv : LV} {st : List Value} {v : Value} (hv : va_rf (G.2.2.2.2 0) = v) (hm : Cond.fieldLink own idx "jdk/internal/util/Preconditions" "SIOOBE_FORMATTER" "Ljava/util/function/BiFunction;" ∈ lw_good) (hd : decode cc pc = .ok (.getstatic idx, 3)) (hf : pc + 3 = pf) (k : V X G h0 Q pf lv (v :: st) h) : V X G h0 Q pc lv st h := by subst hv; exact C.statV (fun _ K => K.2.2.2.2.2.2.2.1) hm hd hf k
theorem Cx.stat1 (C : Cx X G own cc nL ret fr lo h0) {pc pf idx : Nat} {lv : LV} {st : List Value} {v : Value} (hv : va_rf (G.2.2.2.2 1) = v) (hm : Cond.fieldLink own idx "java/lang/Throwable" "UNASSIGNED_STACK" "[Ljava/lang/StackTraceElement;" ∈ lw_good) (hd : decode cc pc = .ok (.getstatic idx, 3)) (hf : pc + 3 = pf) (k : V X G h0 Q pf lv (v :: st) h) : V X G h0 Q pc lv st h := by subst hv; exact C.statV (fun _ K => K.2.2.2.2.2.2.2.2.1) hm hd hf k
theorem Cx.stat2 (C : Cx X G own cc nL ret fr lo h0) {pc pf idx : Nat} {lv : LV} {st : List Value} {v : Value} (hv : va_rf (G.2.2.2.2 2) = v) (hm : Cond.fieldLink own idx "java/lang/Throwable" "SUPPRESSED_SENTINEL" "Ljava/util/List;" ∈ lw_good) (hd : decode cc pc = .ok (.getstatic idx, 3)) (hf : pc + 3 = pf) (k : V X G h0 Q pf lv (v :: st) h) : V X G h0 Q pc lv st h := by subst hv; exact C.statV (fun _ K => K.2.2.2.2.2.2.2.2.2) hm hd hf k
theorem Cx.retI (C : Cx X G own cc nL ret fr lo h0) {pc : Nat} {lv : LV} {v : Int32} (hr0 : ret = some .int) (hd : decode cc pc = .ok (.ireturn, 1)) (hq : Q (.inl (some (.int v))) h) : V X G h0 Q pc lv [.int v] h := by
  obtain ⟨p, l, e, R, s, m, args, below, meth, c⟩ := X
  obtain ⟨hx, hb, hml, hown, hts, hr1, hlk, -⟩ := C
  intro H locs ls hR hL hlo hl
  have hx : p.tables.exec = Jvm.exec := hx
  have hb : c.code = cc := hb
  show W p l e R s m args below meth c H locs (h.2.1 - h0.2.1) (h.2.2.1 - h0.2.2.1) (ZQ below s G h0 Q) (F0 m pc ls [.int v])
  intro T hT Y
  have hlocks : meth.locks = false := hlk
  have hr : meth.sig.returnType = some .int := hr1.trans hr0
  obtain ⟨fs, hret, hrun, hended, hW, hframe⟩ := Y.leave (v := (some (.int v))) (fun h => by rw [hr] at h; cases h) (hlocks := hlocks)
  have hmeth' : T.vm.method? m = some meth := Y.method'
  refine ⟨T.setFrames fs, ?_, .returned (some (.int v)), hrun, hended, .inl (some (.int v)), h, rfl, hW, ⟨locs, hframe, hlo⟩, ?_, hL, hq⟩
  · jvm_step Y.here [Y.here.top, hx, hb, hd, hmeth', hr, narrow]
    (try refine ⟨rfl, ?_⟩); (try refine ⟨rfl, ?_⟩)
    first | (intro acts; rw [hret _ acts rfl rfl rfl]) | rw [hret _ _ rfl rfl rfl]
    exact Steps.refl _
  · have e1 : (T.setFrames fs).heap = H := hT
    rw [e1]
    exact Rp.moved hW.alike hR
theorem Cx.retZ (C : Cx X G own cc nL ret fr lo h0) {pc : Nat} {lv : LV} {v : Int32} (hr0 : ret = some .boolean) (hz : ckZ v = some v) (hd : decode cc pc = .ok (.ireturn, 1)) (hq : Q (.inl (some (.int v))) h) : V X G h0 Q pc lv [.int v] h := by
  obtain ⟨p, l, e, R, s, m, args, below, meth, c⟩ := X
  obtain ⟨hx, hb, hml, hown, hts, hr1, hlk, -⟩ := C
  intro H locs ls hR hL hlo hl
  have hx : p.tables.exec = Jvm.exec := hx
  have hb : c.code = cc := hb
  show W p l e R s m args below meth c H locs (h.2.1 - h0.2.1) (h.2.2.1 - h0.2.2.1) (ZQ below s G h0 Q) (F0 m pc ls [.int v])
  intro T hT Y
  have hlocks : meth.locks = false := hlk
  have hr : meth.sig.returnType = some .boolean := hr1.trans hr0
  obtain ⟨fs, hret, hrun, hended, hW, hframe⟩ := Y.leave (v := (some (.int v))) (fun h => by rw [hr] at h; cases h) (hlocks := hlocks)
  have hmeth' : T.vm.method? m = some meth := Y.method'
  refine ⟨T.setFrames fs, ?_, .returned (some (.int v)), hrun, hended, .inl (some (.int v)), h, rfl, hW, ⟨locs, hframe, hlo⟩, ?_, hL, hq⟩
  · have hn : narrow .boolean (.int v) = .int v := by
      by_cases h1 : v = 0
      · subst h1; decide
      · by_cases h2 : v = 1
        · subst h2; decide
        · simp [ckZ, h1, h2] at hz
    jvm_step Y.here [Y.here.top, hx, hb, hd, hmeth', hr, hn]
    (try refine ⟨rfl, ?_⟩); (try refine ⟨rfl, ?_⟩)
    first | (intro acts; rw [hret _ acts rfl rfl rfl]) | rw [hret _ _ rfl rfl rfl]
    exact Steps.refl _
  · have e1 : (T.setFrames fs).heap = H := hT
    rw [e1]
    exact Rp.moved hW.alike hR
theorem Cx.retL (C : Cx X G own cc nL ret fr lo h0) {pc : Nat} {lv : LV} {v : Int64} (hr0 : ret = some .long) (hd : decode cc pc = .ok (.lreturn, 1)) (hq : Q (.inl (some (.long v))) h) : V X G h0 Q pc lv [.long v] h := by
  obtain ⟨p, l, e, R, s, m, args, below, meth, c⟩ := X
  obtain ⟨hx, hb, hml, hown, hts, hr1, hlk, -⟩ := C
  intro H locs ls hR hL hlo hl
  have hx : p.tables.exec = Jvm.exec := hx
  have hb : c.code = cc := hb
  show W p l e R s m args below meth c H locs (h.2.1 - h0.2.1) (h.2.2.1 - h0.2.2.1) (ZQ below s G h0 Q) (F0 m pc ls [.long v])
  intro T hT Y
  have hlocks : meth.locks = false := hlk
  have hr : meth.sig.returnType = some .long := hr1.trans hr0
  obtain ⟨fs, hret, hrun, hended, hW, hframe⟩ := Y.leave (v := (some (.long v))) (fun h => by rw [hr] at h; cases h) (hlocks := hlocks)
  have hmeth' : T.vm.method? m = some meth := Y.method'
  refine ⟨T.setFrames fs, ?_, .returned (some (.long v)), hrun, hended, .inl (some (.long v)), h, rfl, hW, ⟨locs, hframe, hlo⟩, ?_, hL, hq⟩
  · jvm_step Y.here [Y.here.top, hx, hb, hd, hmeth', hr, narrow]
    (try refine ⟨rfl, ?_⟩); (try refine ⟨rfl, ?_⟩)
    first | (intro acts; rw [hret _ acts rfl rfl rfl]) | rw [hret _ _ rfl rfl rfl]
    exact Steps.refl _
  · have e1 : (T.setFrames fs).heap = H := hT
    rw [e1]
    exact Rp.moved hW.alike hR
theorem Cx.retV (C : Cx X G own cc nL ret fr lo h0) {pc : Nat} {lv : LV} (hr0 : ret = none) (hd : decode cc pc = .ok (.return_, 1)) (hq : Q (.inl none) h) : V X G h0 Q pc lv [] h := by
  obtain ⟨p, l, e, R, s, m, args, below, meth, c⟩ := X
  obtain ⟨hx, hb, hml, hown, hts, hr1, hlk, -⟩ := C
  intro H locs ls hR hL hlo hl
  have hx : p.tables.exec = Jvm.exec := hx
  have hb : c.code = cc := hb
  show W p l e R s m args below meth c H locs (h.2.1 - h0.2.1) (h.2.2.1 - h0.2.2.1) (ZQ below s G h0 Q) (F0 m pc ls [])
  intro T hT Y
  have hlocks : meth.locks = false := hlk
  have hr : meth.sig.returnType = none := hr1.trans hr0
  obtain ⟨fs, hret, hrun, hended, hW, hframe⟩ := Y.leave (v := none) (fun _ => rfl) (hlocks := hlocks)
  have hmeth' : T.vm.method? m = some meth := Y.method'
  refine ⟨T.setFrames fs, ?_, .returned none, hrun, hended, .inl none, h, rfl, hW, ⟨locs, hframe, hlo⟩, ?_, hL, hq⟩
  · jvm_step Y.here [Y.here.top, hx, hb, hd, hmeth', hr]
    (try refine ⟨rfl, ?_⟩); (try refine ⟨rfl, ?_⟩)
    first | (intro acts; rw [hret _ acts rfl rfl rfl]) | rw [hret _ _ rfl rfl rfl]
    exact Steps.refl _
  · have e1 : (T.setFrames fs).heap = H := hT
    rw [e1]
    exact Rp.moved hW.alike hR
theorem Cx.retA (C : Cx X G own cc nL ret fr lo h0) {pc : Nat} {lv : LV} {q : Nat} {rt : FieldType} (hr0 : ret = some rt) (hrt : (∃ n, rt = .object n) ∨ ∃ t, rt = .array t) (hd : decode cc pc = .ok (.areturn, 1)) (hq : Q (.inl (some (.ref q))) h) : V X G h0 Q pc lv [.ref q] h := by
  obtain ⟨p, l, e, R, s, m, args, below, meth, c⟩ := X
  obtain ⟨hx, hb, hml, hown, hts, hr1, hlk, -⟩ := C
  intro H locs ls hR hL hlo hl
  have hx : p.tables.exec = Jvm.exec := hx
  have hb : c.code = cc := hb
  show W p l e R s m args below meth c H locs (h.2.1 - h0.2.1) (h.2.2.1 - h0.2.2.1) (ZQ below s G h0 Q) (F0 m pc ls [.ref q])
  intro T hT Y
  have hlocks : meth.locks = false := hlk
  have hr : meth.sig.returnType = some rt := hr1.trans hr0
  obtain ⟨fs, hret, hrun, hended, hW, hframe⟩ := Y.leave (v := (some (.ref q))) (fun h => by rw [hr] at h; cases h) (hlocks := hlocks)
  have hmeth' : T.vm.method? m = some meth := Y.method'
  refine ⟨T.setFrames fs, ?_, .returned (some (.ref q)), hrun, hended, .inl (some (.ref q)), h, rfl, hW, ⟨locs, hframe, hlo⟩, ?_, hL, hq⟩
  · rcases hrt with ⟨n, rfl⟩ | ⟨t, rfl⟩ <;>
    (jvm_step Y.here [Y.here.top, hx, hb, hd, hmeth', hr]
     (try refine ⟨rfl, ?_⟩); (try refine ⟨rfl, ?_⟩)
     first | (intro acts; rw [hret _ acts rfl rfl rfl]) | rw [hret _ _ rfl rfl rfl]
     exact Steps.refl _)
  · have e1 : (T.setFrames fs).heap = H := hT
    rw [e1]
    exact Rp.moved hW.alike hR
theorem Cx.retN (C : Cx X G own cc nL ret fr lo h0) {pc : Nat} {lv : LV} {rt : FieldType} (hr0 : ret = some rt) (hrt : (∃ n, rt = .object n) ∨ ∃ t, rt = .array t) (hd : decode cc pc = .ok (.areturn, 1)) (hq : Q (.inl (some .null)) h) : V X G h0 Q pc lv [.null] h := by
  obtain ⟨p, l, e, R, s, m, args, below, meth, c⟩ := X
  obtain ⟨hx, hb, hml, hown, hts, hr1, hlk, -⟩ := C
  intro H locs ls hR hL hlo hl
  have hx : p.tables.exec = Jvm.exec := hx
  have hb : c.code = cc := hb
  show W p l e R s m args below meth c H locs (h.2.1 - h0.2.1) (h.2.2.1 - h0.2.2.1) (ZQ below s G h0 Q) (F0 m pc ls [.null])
  intro T hT Y
  have hlocks : meth.locks = false := hlk
  have hr : meth.sig.returnType = some rt := hr1.trans hr0
  obtain ⟨fs, hret, hrun, hended, hW, hframe⟩ := Y.leave (v := (some .null)) (fun h => by rw [hr] at h; cases h) (hlocks := hlocks)
  have hmeth' : T.vm.method? m = some meth := Y.method'
  refine ⟨T.setFrames fs, ?_, .returned (some .null), hrun, hended, .inl (some .null), h, rfl, hW, ⟨locs, hframe, hlo⟩, ?_, hL, hq⟩
  · rcases hrt with ⟨n, rfl⟩ | ⟨t, rfl⟩ <;>
    (jvm_step Y.here [Y.here.top, hx, hb, hd, hmeth', hr]
     (try refine ⟨rfl, ?_⟩); (try refine ⟨rfl, ?_⟩)
     first | (intro acts; rw [hret _ acts rfl rfl rfl]) | rw [hret _ _ rfl rfl rfl]
     exact Steps.refl _)
  · have e1 : (T.setFrames fs).heap = H := hT
    rw [e1]
    exact Rp.moved hW.alike hR
end SEG
