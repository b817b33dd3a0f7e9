/-! WallHouse$Walls.<init>()V -/
def f_X9_init_41 : Nat → Nat → Int32 → AH → Option (AH)
  | 0, _, _, _ => none
  | n + 1, r0, i1, h =>
    if 16 ≤ i1 then
      some h
    else
      (gA 9 h r0 3).bind fun a1 =>
      (sI 0 h a1 ((i1 * 16) + i1) 0).bind fun h2 =>
      (f_X9_init_41 n) r0 (i1 + 1) h2
set_option maxRecDepth 100000 in
set_option maxHeartbeats 4000000 in
theorem l_X9_init_41 {X : MX} {l : Launch} {G : GX} {h0 : AH} {hr : AH} (C : Cx X G RX9 cX9_init 2 none 1 23 h0) (C2 : Cy X l "<init>" []) : ∀ (n : Nat) (r0 : Nat) (i1 : Int32) (h : AH), f_X9_init_41 n r0 i1 h = some hr → V X G h0 (QV hr) 41 [(0, .ref r0), (1, .int i1)] [] h := by
  intro n
  induction n with
  | zero => intro r0 i1 h hf; rw [f_X9_init_41] at hf; cases hf
  | succ n ih =>
    intro r0 i1 h hf
    rw [f_X9_init_41] at hf
    refine C.seg (pe := 44) (lv' := [(0, .ref r0), (1, .int i1)]) (st' := [.int 16, .int i1]) [(.iload_n 1, 1, 0), (.bipush 16, 2, 16)] (by decide +kernel) rfl ?_
    refine C.icmp_ge (off := 21) (tgt := 65) (pf := 47) (by decide +kernel) (by decide) rfl (fun c3 => ?_) (fun c3 => ?_)
    · replace hf := ifp c3 hf
      cases hf
      exact C.retV rfl (by decide +kernel) ⟨rfl, rfl⟩
    · replace hf := ifn c3 hf
      refine C.seg (pe := 48) (lv' := [(0, .ref r0), (1, .int i1)]) (st' := [.ref r0]) [(.aload_n 0, 1, 0)] (by decide +kernel) rfl ?_
      obtain ⟨a1, ga1, hf⟩ := Option.bind_eq_some_iff.mp hf
      refine C.rdA fr_170 ga1 (by decide +kernel) rfl ?_
      refine C.seg (pe := 58) (lv' := [(0, .ref r0), (1, .int i1)]) (st' := [.int 0, .int ((i1 * 16) + i1), .ref a1]) [(.iload_n 1, 1, 0), (.bipush 16, 2, 16), (.imul, 1, 0), (.iload_n 1, 1, 0), (.iadd, 1, 0), (.iconst 0, 1, 0)] (by decide +kernel) rfl ?_
      obtain ⟨h2, gh2, hf⟩ := Option.bind_eq_some_iff.mp hf
      refine C.ast gh2 (by decide +kernel) rfl ?_
      refine C.seg (pe := 62) (lv' := [(1, .int (i1 + 1)), (0, .ref r0)]) (st' := []) [(.iinc 1 1, 3, 1)] (by decide +kernel) rfl ?_
      refine C.goto (off := (-21)) (tgt := 41) (by decide +kernel) (by decide) ?_
      refine Vsub [1, 0] rfl ?_
      exact ih r0 (i1 + 1) h2 hf
def f_X9_init (a0 : Nat) (h : AH) : Option (AH) :=
  b2 (nwA 5 16 h) fun a1 h2 =>
  (pQ 9 h2 a0 0 (some a1)).bind fun h3 =>
  b2 (nwA 0 16 h3) fun a4 h5 =>
  (pQ 9 h5 a0 2 (some a4)).bind fun h6 =>
  b2 (nwA 0 256 h6) fun a7 h8 =>
  (pQ 9 h8 a0 3 (some a7)).bind fun h9 =>
  (gA 9 h9 a0 3).bind fun a10 =>
  (f_J7_fill_53178 a10 60 h9).bind fun h11 =>
  f_X9_init_41 FU a0 0 h11
set_option maxRecDepth 100000 in
set_option maxHeartbeats 4000000 in
theorem w_X9_init {l : Launch} {G : GX} {a0 : Nat} {h : AH} {hr : AH} (hf : f_X9_init a0 h = some hr) : Ct l G yX9_init 1 23 [.ref a0] h (QV hr) := by
  unfold f_X9_init at hf
  refine Ct_of (own := RX9) (cc := cX9_init) (nL := 2) (ret := none) rfl rfl k_157 (Nat.le_of_ble_eq_true rfl) (fun X C2 C => ?_)
  show V X G h (QV hr) 0 [(0, .ref a0)] [] h
  refine C.seg (pe := 1) (lv' := [(0, .ref a0)]) (st' := [.ref a0]) [(.aload_n 0, 1, 0)] (by decide +kernel) rfl ?_
  refine C.objInit k_158 k_151 k_152 (by omega) (by omega) (Nat.le_of_ble_eq_true rfl) (by decide +kernel) rfl ?_
  refine C.seg (pe := 7) (lv' := [(0, .ref a0)]) (st' := [.int 16, .ref a0]) [(.aload_n 0, 1, 0), (.bipush 16, 2, 16)] (by decide +kernel) rfl ?_
  obtain ⟨a1, h2, ga1, hf⟩ := b2_some hf
  refine C.anew 5 k_159 rfl (by decide) (by decide) (fun _ K => K.2.2.2.1.1) ga1 (by decide +kernel) rfl ?_
  obtain ⟨h3, gh3, hf⟩ := Option.bind_eq_some_iff.mp hf
  refine C.putFA C2.2.1 fl_164 (Or.inr ⟨_, rfl⟩) gh3 (by decide +kernel) rfl ?_
  refine C.seg (pe := 16) (lv' := [(0, .ref a0)]) (st' := [.int 16, .ref a0]) [(.aload_n 0, 1, 0), (.bipush 16, 2, 16)] (by decide +kernel) rfl ?_
  obtain ⟨a4, h5, ga4, hf⟩ := b2_some hf
  refine C.newa0 k_180 ga4 (by decide +kernel) rfl ?_
  obtain ⟨h6, gh6, hf⟩ := Option.bind_eq_some_iff.mp hf
  refine C.putFA C2.2.1 fl_169 (Or.inr ⟨_, rfl⟩) gh6 (by decide +kernel) rfl ?_
  refine C.seg (pe := 25) (lv' := [(0, .ref a0)]) (st' := [.int 256, .ref a0]) [(.aload_n 0, 1, 0), (.sipush 256, 3, 256)] (by decide +kernel) rfl ?_
  obtain ⟨a7, h8, ga7, hf⟩ := b2_some hf
  refine C.newa0 k_180 ga7 (by decide +kernel) rfl ?_
  obtain ⟨h9, gh9, hf⟩ := Option.bind_eq_some_iff.mp hf
  refine C.putFA C2.2.1 fl_170 (Or.inr ⟨_, rfl⟩) gh9 (by decide +kernel) rfl ?_
  refine C.seg (pe := 31) (lv' := [(0, .ref a0)]) (st' := [.ref a0]) [(.aload_n 0, 1, 0)] (by decide +kernel) rfl ?_
  obtain ⟨a10, ga10, hf⟩ := Option.bind_eq_some_iff.mp hf
  refine C.rdA fr_170 ga10 (by decide +kernel) rfl ?_
  refine C.seg (pe := 36) (lv' := [(0, .ref a0)]) (st' := [.int 60, .ref a10]) [(.bipush 60, 2, 60)] (by decide +kernel) rfl ?_
  obtain ⟨h11, gh11, hf⟩ := Option.bind_eq_some_iff.mp hf
  refine C.callSr C2 [.ref a10, .int 60] [] ms_161 rfl (w_J7_fill_53178 gh11) (by omega) (by omega) (Nat.le_of_ble_eq_true rfl) (by decide +kernel) rfl ?_
  refine C.seg (pe := 41) (lv' := [(1, .int 0), (0, .ref a0)]) (st' := []) [(.iconst 0, 1, 0), (.istore_n 1, 1, 0)] (by decide +kernel) rfl ?_
  refine Vsub [1, 0] rfl ?_
  exact l_X9_init_41 C C2 FU a0 0 h11 hf
/-! WallHouse$Walls.add(LWallHouse$Wall;)I -/
def f_X9_add (a0 : Nat) (p1 : Nat) (h : AH) : Option (Int32 × AH) :=
  if isO 9 h a0 = true then
    (gI 9 h a0 1).bind fun x1 =>
    (gA 9 h a0 0).bind fun a2 =>
    (aN h a2).bind fun x3 =>
    if x1 < x3 then
      (gA 9 h a0 0).bind fun a4 =>
      (gI 9 h a0 1).bind fun x5 =>
      (sQ 5 8 h a4 x5 p1).bind fun h6 =>
      (gI 9 h6 a0 1).bind fun x7 =>
      (pI 9 h6 a0 1 (x7 + 1)).bind fun h8 =>
      (gI 9 h8 a0 1).bind fun x9 =>
      some (x9 - 1, h8)
    else
      some ((-1), h)
  else none
set_option maxRecDepth 100000 in
set_option maxHeartbeats 4000000 in
theorem w_X9_add {l : Launch} {G : GX} {a0 : Nat} {p1 : Nat} {h : AH} {rr : Int32} {hr : AH} (hf : f_X9_add a0 p1 h = some (rr, hr)) : Ct l G yX9_add 0 0 [.ref a0, .ref p1] h (QI rr hr) := by
  unfold f_X9_add at hf
  obtain ⟨ho, hf⟩ := ifO hf
  refine Ct_of (own := RX9) (cc := cX9_add) (nL := 2) (ret := (some .int)) rfl rfl k_711 (Nat.le_of_ble_eq_true rfl) (fun X C2 C => ?_)
  show V X G h (QI rr hr) 0 [(0, .ref a0), (1, .ref p1)] [] h
  refine C.seg (pe := 1) (lv' := [(0, .ref a0), (1, .ref p1)]) (st' := [.ref a0]) [(.aload_n 0, 1, 0)] (by decide +kernel) rfl ?_
  obtain ⟨x1, gx1, hf⟩ := Option.bind_eq_some_iff.mp hf
  refine C.rdI fr_165 gx1 (by decide +kernel) rfl ?_
  refine C.seg (pe := 5) (lv' := [(0, .ref a0), (1, .ref p1)]) (st' := [.ref a0, .int x1]) [(.aload_n 0, 1, 0)] (by decide +kernel) rfl ?_
  obtain ⟨a2, ga2, hf⟩ := Option.bind_eq_some_iff.mp hf
  refine C.rdA fr_164 ga2 (by decide +kernel) rfl ?_
  obtain ⟨x3, gx3, hf⟩ := Option.bind_eq_some_iff.mp hf
  refine C.alen gx3 (by decide +kernel) rfl ?_
  refine C.icmp_lt (off := 5) (tgt := 14) (pf := 12) (by decide +kernel) (by decide) rfl (fun c10 => ?_) (fun c10 => ?_)
  · replace hf := ifp c10 hf
    refine C.seg (pe := 15) (lv' := [(0, .ref a0), (1, .ref p1)]) (st' := [.ref a0]) [(.aload_n 0, 1, 0)] (by decide +kernel) rfl ?_
    obtain ⟨a4, ga4, hf⟩ := Option.bind_eq_some_iff.mp hf
    refine C.rdA fr_164 ga4 (by decide +kernel) rfl ?_
    refine C.seg (pe := 19) (lv' := [(0, .ref a0), (1, .ref p1)]) (st' := [.ref a0, .ref a4]) [(.aload_n 0, 1, 0)] (by decide +kernel) rfl ?_
    obtain ⟨x5, gx5, hf⟩ := Option.bind_eq_some_iff.mp hf
    refine C.rdI fr_165 gx5 (by decide +kernel) rfl ?_
    refine C.seg (pe := 23) (lv' := [(0, .ref a0), (1, .ref p1)]) (st' := [.ref p1, .int x5, .ref a4]) [(.aload_n 1, 1, 0)] (by decide +kernel) rfl ?_
    obtain ⟨h6, gh6, hf⟩ := Option.bind_eq_some_iff.mp hf
    refine C.aast 5 (ci := 8) rfl (by decide) rfl gh6 (by decide +kernel) rfl ?_
    refine C.seg (pe := 26) (lv' := [(0, .ref a0), (1, .ref p1)]) (st' := [.ref a0, .ref a0]) [(.aload_n 0, 1, 0), (.dup, 1, 0)] (by decide +kernel) rfl ?_
    obtain ⟨x7, gx7, hf⟩ := Option.bind_eq_some_iff.mp hf
    refine C.rdI fr_165 gx7 (by decide +kernel) rfl ?_
    refine C.seg (pe := 31) (lv' := [(0, .ref a0), (1, .ref p1)]) (st' := [.int (x7 + 1), .ref a0]) [(.iconst 1, 1, 1), (.iadd, 1, 0)] (by decide +kernel) rfl ?_
    obtain ⟨h8, gh8, hf⟩ := Option.bind_eq_some_iff.mp hf
    refine C.putI fl_165 gh8 (by decide +kernel) rfl ?_
    refine C.seg (pe := 35) (lv' := [(0, .ref a0), (1, .ref p1)]) (st' := [.ref a0]) [(.aload_n 0, 1, 0)] (by decide +kernel) rfl ?_
    obtain ⟨x9, gx9, hf⟩ := Option.bind_eq_some_iff.mp hf
    refine C.rdI fr_165 gx9 (by decide +kernel) rfl ?_
    refine C.seg (pe := 40) (lv' := [(0, .ref a0), (1, .ref p1)]) (st' := [.int (x9 - 1)]) [(.iconst 1, 1, 1), (.isub, 1, 0)] (by decide +kernel) rfl ?_
    cases hf
    exact C.retI rfl (by decide +kernel) ⟨rfl, rfl⟩
  · replace hf := ifn c10 hf
    refine C.seg (pe := 13) (lv' := [(0, .ref a0), (1, .ref p1)]) (st' := [.int (-1)]) [(.iconst (-1), 1, (-1))] (by decide +kernel) rfl ?_
    cases hf
    exact C.retI rfl (by decide +kernel) ⟨rfl, rfl⟩
theorem o_X9_add {a0 : Nat} {p1 : Nat} {h : AH} {rr : Int32} {hr : AH} (hf : f_X9_add a0 p1 h = some (rr, hr)) : isO 9 h a0 = true := by
  unfold f_X9_add at hf
  exact (ifO hf).1
/-! WallHouse$Walls.at(I)LWallHouse$Wall; -/
def f_X9_at_31 (so0 : Option Nat) (h : AH) : Option (Option Nat × AH) :=
  tr so0 (
    some (none, h)) fun sr0 =>
  some (some sr0, h)
set_option maxRecDepth 100000 in
set_option maxHeartbeats 4000000 in
theorem l_X9_at_31 {X : MX} {l : Launch} {G : GX} {h0 : AH} {rr : Option Nat} {hr : AH} (C : Cx X G RX9 cX9_at 2 (some (.object "WallHouse$Wall")) 0 0 h0) (C2 : Cy X l "at" []) (so0 : Option Nat) (h : AH) (hf : f_X9_at_31 so0 h = some (rr, hr)) : V X G h0 (QA rr hr) 31 [] [va_rf so0] h := by
  unfold f_X9_at_31 at hf
  cases so0 with
  | none =>
    replace hf := tr_none hf
    cases hf
    exact C.retN rfl (Or.inl ⟨_, rfl⟩) (by decide +kernel) ⟨rfl, rfl⟩
  | some sr0 =>
    replace hf := tr_some hf
    cases hf
    exact C.retA rfl (Or.inl ⟨_, rfl⟩) (by decide +kernel) ⟨rfl, rfl⟩
def f_X9_at_30 (h : AH) : Option (Option Nat × AH) :=
  f_X9_at_31 none h
set_option maxRecDepth 100000 in
set_option maxHeartbeats 4000000 in
theorem l_X9_at_30 {X : MX} {l : Launch} {G : GX} {h0 : AH} {rr : Option Nat} {hr : AH} (C : Cx X G RX9 cX9_at 2 (some (.object "WallHouse$Wall")) 0 0 h0) (C2 : Cy X l "at" []) (h : AH) (hf : f_X9_at_30 h = some (rr, hr)) : V X G h0 (QA rr hr) 30 [] [] h := by
  unfold f_X9_at_30 at hf
  refine C.seg (pe := 31) (lv' := []) (st' := [.null]) [(.aconst_null, 1, 0)] (by decide +kernel) rfl ?_
  exact l_X9_at_31 C C2 none h hf
def f_X9_at (a0 : Nat) (p1 : Int32) (h : AH) : Option (Option Nat × AH) :=
  if isO 9 h a0 = true then
    if p1 < 0 then
      f_X9_at_30 h
    else
      (gI 9 h a0 1).bind fun x1 =>
      if x1 ≤ p1 then
        f_X9_at_30 h
      else
        (gA 9 h a0 0).bind fun a2 =>
        (aN h a2).bind fun x3 =>
        if x3 ≤ p1 then
          f_X9_at_30 h
        else
          (gA 9 h a0 0).bind fun a4 =>
          (aQ 5 h a4 p1).bind fun q5 =>
          tr q5 (
            f_X9_at_31 none h) fun a6 =>
          f_X9_at_31 (some a6) h
  else none
set_option maxRecDepth 100000 in
set_option maxHeartbeats 4000000 in
theorem w_X9_at {l : Launch} {G : GX} {a0 : Nat} {p1 : Int32} {h : AH} {rr : Option Nat} {hr : AH} (hf : f_X9_at a0 p1 h = some (rr, hr)) : Ct l G yX9_at 0 0 [.ref a0, .int p1] h (QA rr hr) := by
  unfold f_X9_at at hf
  obtain ⟨ho, hf⟩ := ifO hf
  refine Ct_of (own := RX9) (cc := cX9_at) (nL := 2) (ret := (some (.object "WallHouse$Wall"))) rfl rfl k_723 (Nat.le_of_ble_eq_true rfl) (fun X C2 C => ?_)
  show V X G h (QA rr hr) 0 [(0, .ref a0), (1, .int p1)] [] h
  refine C.seg (pe := 1) (lv' := [(0, .ref a0), (1, .int p1)]) (st' := [.int p1]) [(.iload_n 1, 1, 0)] (by decide +kernel) rfl ?_
  refine C.if_lt (off := 29) (tgt := 30) (pf := 4) (by decide +kernel) (by decide) rfl (fun c9 => ?_) (fun c9 => ?_)
  · replace hf := ifp c9 hf
    refine Vsub [] rfl ?_
    exact l_X9_at_30 C C2 h hf
  · replace hf := ifn c9 hf
    refine C.seg (pe := 6) (lv' := [(0, .ref a0), (1, .int p1)]) (st' := [.ref a0, .int p1]) [(.iload_n 1, 1, 0), (.aload_n 0, 1, 0)] (by decide +kernel) rfl ?_
    obtain ⟨x1, gx1, hf⟩ := Option.bind_eq_some_iff.mp hf
    refine C.rdI fr_165 gx1 (by decide +kernel) rfl ?_
    refine C.icmp_ge (off := 21) (tgt := 30) (pf := 12) (by decide +kernel) (by decide) rfl (fun c8 => ?_) (fun c8 => ?_)
    · replace hf := ifp c8 hf
      refine Vsub [] rfl ?_
      exact l_X9_at_30 C C2 h hf
    · replace hf := ifn c8 hf
      refine C.seg (pe := 14) (lv' := [(0, .ref a0), (1, .int p1)]) (st' := [.ref a0, .int p1]) [(.iload_n 1, 1, 0), (.aload_n 0, 1, 0)] (by decide +kernel) rfl ?_
      obtain ⟨a2, ga2, hf⟩ := Option.bind_eq_some_iff.mp hf
      refine C.rdA fr_164 ga2 (by decide +kernel) rfl ?_
      obtain ⟨x3, gx3, hf⟩ := Option.bind_eq_some_iff.mp hf
      refine C.alen gx3 (by decide +kernel) rfl ?_
      refine C.icmp_ge (off := 12) (tgt := 30) (pf := 21) (by decide +kernel) (by decide) rfl (fun c7 => ?_) (fun c7 => ?_)
      · replace hf := ifp c7 hf
        refine Vsub [] rfl ?_
        exact l_X9_at_30 C C2 h hf
      · replace hf := ifn c7 hf
        refine C.seg (pe := 22) (lv' := [(0, .ref a0), (1, .int p1)]) (st' := [.ref a0]) [(.aload_n 0, 1, 0)] (by decide +kernel) rfl ?_
        obtain ⟨a4, ga4, hf⟩ := Option.bind_eq_some_iff.mp hf
        refine C.rdA fr_164 ga4 (by decide +kernel) rfl ?_
        refine C.seg (pe := 26) (lv' := [(0, .ref a0), (1, .int p1)]) (st' := [.int p1, .ref a4]) [(.iload_n 1, 1, 0)] (by decide +kernel) rfl ?_
        obtain ⟨q5, gq5, hf⟩ := Option.bind_eq_some_iff.mp hf
        cases q5 with
        | none =>
          refine C.aald 5 rfl gq5 (by decide +kernel) rfl ?_
          replace hf := tr_none hf
          refine C.goto (off := 4) (tgt := 31) (by decide +kernel) (by decide) ?_
          refine Vsub [] rfl ?_
          exact l_X9_at_31 C C2 none h hf
        | some a6 =>
          refine C.aald 5 rfl gq5 (by decide +kernel) rfl ?_
          replace hf := tr_some hf
          refine C.goto (off := 4) (tgt := 31) (by decide +kernel) (by decide) ?_
          refine Vsub [] rfl ?_
          exact l_X9_at_31 C C2 (some a6) h hf
theorem o_X9_at {a0 : Nat} {p1 : Int32} {h : AH} {rr : Option Nat} {hr : AH} (hf : f_X9_at a0 p1 h = some (rr, hr)) : isO 9 h a0 = true := by
  unfold f_X9_at at hf
  exact (ifO hf).1
/-! WallHouse$Walls.arePair(II)Z -/
def f_X9_arePair_26 (si0 : Int32) (h : AH) : Option (Int32 × AH) :=
  (ckZ si0).bind fun x1 =>
  some (x1, h)
set_option maxRecDepth 100000 in
set_option maxHeartbeats 4000000 in
theorem l_X9_arePair_26 {X : MX} {l : Launch} {G : GX} {h0 : AH} {rr : Int32} {hr : AH} (C : Cx X G RX9 cX9_arePair 3 (some .boolean) 1 21 h0) (C2 : Cy X l "arePair" []) (si0 : Int32) (h : AH) (hf : f_X9_arePair_26 si0 h = some (rr, hr)) : V X G h0 (QI rr hr) 26 [] [.int si0] h := by
  unfold f_X9_arePair_26 at hf
  obtain ⟨x1, gx1, hf⟩ := Option.bind_eq_some_iff.mp hf
  have ex1 := ckZ_eq gx1
  subst ex1
  cases hf
  exact C.retZ rfl gx1 (by decide +kernel) ⟨rfl, rfl⟩
def f_X9_arePair_25 (h : AH) : Option (Int32 × AH) :=
  f_X9_arePair_26 0 h
set_option maxRecDepth 100000 in
set_option maxHeartbeats 4000000 in
theorem l_X9_arePair_25 {X : MX} {l : Launch} {G : GX} {h0 : AH} {rr : Int32} {hr : AH} (C : Cx X G RX9 cX9_arePair 3 (some .boolean) 1 21 h0) (C2 : Cy X l "arePair" []) (h : AH) (hf : f_X9_arePair_25 h = some (rr, hr)) : V X G h0 (QI rr hr) 25 [] [] h := by
  unfold f_X9_arePair_25 at hf
  refine C.seg (pe := 26) (lv' := []) (st' := [.int 0]) [(.iconst 0, 1, 0)] (by decide +kernel) rfl ?_
  exact l_X9_arePair_26 C C2 0 h hf
def f_X9_arePair (a0 : Nat) (p1 : Int32) (p2 : Int32) (h : AH) : Option (Int32 × AH) :=
  if isO 9 h a0 = true then
    b2 (f_X9_at a0 p1 h) fun q1 h2 =>
    tr q1 (
      f_X9_arePair_25 h2) fun a3 =>
    b2 (f_X9_at a0 p2 h2) fun q4 h5 =>
    tr q4 (
      f_X9_arePair_25 h5) fun a6 =>
    if p1 = p2 then
      f_X9_arePair_25 h5
    else
      f_X9_arePair_26 1 h5
  else none
set_option maxRecDepth 100000 in
set_option maxHeartbeats 4000000 in
theorem w_X9_arePair {l : Launch} {G : GX} {a0 : Nat} {p1 : Int32} {p2 : Int32} {h : AH} {rr : Int32} {hr : AH} (hf : f_X9_arePair a0 p1 p2 h = some (rr, hr)) : Ct l G yX9_arePair 1 21 [.ref a0, .int p1, .int p2] h (QI rr hr) := by
  unfold f_X9_arePair at hf
  obtain ⟨ho, hf⟩ := ifO hf
  refine Ct_of (own := RX9) (cc := cX9_arePair) (nL := 3) (ret := (some .boolean)) rfl rfl k_788 (Nat.le_of_ble_eq_true rfl) (fun X C2 C => ?_)
  show V X G h (QI rr hr) 0 [(0, .ref a0), (1, .int p1), (2, .int p2)] [] h
  refine C.seg (pe := 2) (lv' := [(0, .ref a0), (1, .int p1), (2, .int p2)]) (st' := [.int p1, .ref a0]) [(.aload_n 0, 1, 0), (.iload_n 1, 1, 0)] (by decide +kernel) rfl ?_
  obtain ⟨q1, h2, gq1, hf⟩ := b2_some hf
  cases q1 with
  | none =>
    replace hf := tr_none hf
    refine C.callVr C2 [.int p1] [] mv_789 rfl (o_X9_at gq1) (w_X9_at gq1) (by omega) (by omega) (Nat.le_of_ble_eq_true rfl) (by decide +kernel) rfl ?_
    refine C.nullN (off := 20) (tgt := 25) (by decide +kernel) (by decide) ?_
    refine Vsub [] rfl ?_
    exact l_X9_arePair_25 C C2 h2 hf
  | some a3 =>
    replace hf := tr_some hf
    refine C.callVr C2 [.int p1] [] mv_789 rfl (o_X9_at gq1) (w_X9_at gq1) (by omega) (by omega) (Nat.le_of_ble_eq_true rfl) (by decide +kernel) rfl ?_
    refine C.nullR (off := 20) (pf := 8) (by decide +kernel) rfl ?_
    refine C.seg (pe := 10) (lv' := [(0, .ref a0), (1, .int p1), (2, .int p2)]) (st' := [.int p2, .ref a0]) [(.aload_n 0, 1, 0), (.iload_n 2, 1, 0)] (by decide +kernel) rfl ?_
    obtain ⟨q4, h5, gq4, hf⟩ := b2_some hf
    cases q4 with
    | none =>
      replace hf := tr_none hf
      refine C.callVr C2 [.int p2] [] mv_789 rfl (o_X9_at gq4) (w_X9_at gq4) (by omega) (by omega) (Nat.le_of_ble_eq_true rfl) (by decide +kernel) rfl ?_
      refine C.nullN (off := 12) (tgt := 25) (by decide +kernel) (by decide) ?_
      refine Vsub [] rfl ?_
      exact l_X9_arePair_25 C C2 h5 hf
    | some a6 =>
      replace hf := tr_some hf
      refine C.callVr C2 [.int p2] [] mv_789 rfl (o_X9_at gq4) (w_X9_at gq4) (by omega) (by omega) (Nat.le_of_ble_eq_true rfl) (by decide +kernel) rfl ?_
      refine C.nullR (off := 12) (pf := 16) (by decide +kernel) rfl ?_
      refine C.seg (pe := 18) (lv' := [(0, .ref a0), (1, .int p1), (2, .int p2)]) (st' := [.int p2, .int p1]) [(.iload_n 1, 1, 0), (.iload_n 2, 1, 0)] (by decide +kernel) rfl ?_
      refine C.icmp_eq (off := 7) (tgt := 25) (pf := 21) (by decide +kernel) (by decide) rfl (fun c7 => ?_) (fun c7 => ?_)
      · replace hf := ifp c7 hf
        refine Vsub [] rfl ?_
        exact l_X9_arePair_25 C C2 h5 hf
      · replace hf := ifn c7 hf
        refine C.seg (pe := 22) (lv' := [(0, .ref a0), (1, .int p1), (2, .int p2)]) (st' := [.int 1]) [(.iconst 1, 1, 1)] (by decide +kernel) rfl ?_
        refine C.goto (off := 4) (tgt := 26) (by decide +kernel) (by decide) ?_
        refine Vsub [] rfl ?_
        exact l_X9_arePair_26 C C2 1 h5 hf
theorem o_X9_arePair {a0 : Nat} {p1 : Int32} {p2 : Int32} {h : AH} {rr : Int32} {hr : AH} (hf : f_X9_arePair a0 p1 p2 h = some (rr, hr)) : isO 9 h a0 = true := by
  unfold f_X9_arePair at hf
  exact (ifO hf).1
/-! WallHouse$Walls.setBeside(IIZ)V -/
def f_X9_setBeside_69 (h : AH) : Option (AH) :=
  some h
set_option maxRecDepth 100000 in
set_option maxHeartbeats 4000000 in
theorem l_X9_setBeside_69 {X : MX} {l : Launch} {G : GX} {h0 : AH} {hr : AH} (C : Cx X G RX9 cX9_setBeside 4 none 2 43 h0) (C2 : Cy X l "setBeside" []) (h : AH) (hf : f_X9_setBeside_69 h = some hr) : V X G h0 (QV hr) 69 [] [] h := by
  unfold f_X9_setBeside_69 at hf
  cases hf
  exact C.retV rfl (by decide +kernel) ⟨rfl, rfl⟩
def f_X9_setBeside (a0 : Nat) (p1 : Int32) (p2 : Int32) (p3 : Int32) (h : AH) : Option (AH) :=
  if isO 9 h a0 = true then
    b2 (f_X9_arePair a0 p1 p2 h) fun x1 h2 =>
    if x1 = 0 then
      some h2
    else
      if p3 = 0 then
        (gA 9 h2 a0 2).bind fun a3 =>
        (aI 0 h2 a3 p1).bind fun x4 =>
        (sI 0 h2 a3 p1 (x4 &&& ((1 <<< (p2 &&& 31)) ^^^ (-1)))).bind fun h5 =>
        (gA 9 h5 a0 2).bind fun a6 =>
        (aI 0 h5 a6 p2).bind fun x7 =>
        (sI 0 h5 a6 p2 (x7 &&& ((1 <<< (p1 &&& 31)) ^^^ (-1)))).bind fun h8 =>
        f_X9_setBeside_69 h8
      else
        (gA 9 h2 a0 2).bind fun a9 =>
        (aI 0 h2 a9 p1).bind fun x10 =>
        (sI 0 h2 a9 p1 (x10 ||| (1 <<< (p2 &&& 31)))).bind fun h11 =>
        (gA 9 h11 a0 2).bind fun a12 =>
        (aI 0 h11 a12 p2).bind fun x13 =>
        (sI 0 h11 a12 p2 (x13 ||| (1 <<< (p1 &&& 31)))).bind fun h14 =>
        f_X9_setBeside_69 h14
  else none
set_option maxRecDepth 100000 in
set_option maxHeartbeats 4000000 in
theorem w_X9_setBeside {l : Launch} {G : GX} {a0 : Nat} {p1 : Int32} {p2 : Int32} {p3 : Int32} {h : AH} {hr : AH} (hf : f_X9_setBeside a0 p1 p2 p3 h = some hr) : Ct l G yX9_setBeside 2 43 [.ref a0, .int p1, .int p2, .int p3] h (QV hr) := by
  unfold f_X9_setBeside at hf
  obtain ⟨ho, hf⟩ := ifO hf
  refine Ct_of (own := RX9) (cc := cX9_setBeside) (nL := 4) (ret := none) rfl rfl k_793 (Nat.le_of_ble_eq_true rfl) (fun X C2 C => ?_)
  show V X G h (QV hr) 0 [(0, .ref a0), (1, .int p1), (2, .int p2), (3, .int p3)] [] h
  refine C.seg (pe := 3) (lv' := [(0, .ref a0), (1, .int p1), (2, .int p2), (3, .int p3)]) (st' := [.int p2, .int p1, .ref a0]) [(.aload_n 0, 1, 0), (.iload_n 1, 1, 0), (.iload_n 2, 1, 0)] (by decide +kernel) rfl ?_
  obtain ⟨x1, h2, gx1, hf⟩ := b2_some hf
  refine C.callVr C2 [.int p1, .int p2] [] mv_794 rfl (o_X9_arePair gx1) (w_X9_arePair gx1) (by omega) (by omega) (Nat.le_of_ble_eq_true rfl) (by decide +kernel) rfl ?_
  refine C.if_ne (off := 4) (tgt := 10) (pf := 9) (by decide +kernel) (by decide) rfl (fun c16 => ?_) (fun c16 => ?_)
  · replace hf := ifn c16 hf
    refine C.seg (pe := 11) (lv' := [(0, .ref a0), (1, .int p1), (2, .int p2), (3, .int p3)]) (st' := [.int p3]) [(.iload_n 3, 1, 0)] (by decide +kernel) rfl ?_
    refine C.if_eq (off := 30) (tgt := 41) (pf := 14) (by decide +kernel) (by decide) rfl (fun c15 => ?_) (fun c15 => ?_)
    · replace hf := ifp c15 hf
      refine C.seg (pe := 42) (lv' := [(0, .ref a0), (1, .int p1), (2, .int p2), (3, .int p3)]) (st' := [.ref a0]) [(.aload_n 0, 1, 0)] (by decide +kernel) rfl ?_
      obtain ⟨a3, ga3, hf⟩ := Option.bind_eq_some_iff.mp hf
      refine C.rdA fr_169 ga3 (by decide +kernel) rfl ?_
      refine C.seg (pe := 47) (lv' := [(0, .ref a0), (1, .int p1), (2, .int p2), (3, .int p3)]) (st' := [.int p1, .ref a3, .int p1, .ref a3]) [(.iload_n 1, 1, 0), (.dup2, 1, 0)] (by decide +kernel) rfl ?_
      obtain ⟨x4, gx4, hf⟩ := Option.bind_eq_some_iff.mp hf
      refine C.ald 0 rfl gx4 (by decide +kernel) rfl ?_
      refine C.seg (pe := 54) (lv' := [(0, .ref a0), (1, .int p1), (2, .int p2), (3, .int p3)]) (st' := [.int (x4 &&& ((1 <<< (p2 &&& 31)) ^^^ (-1))), .int p1, .ref a3]) [(.iconst 1, 1, 1), (.iload_n 2, 1, 0), (.ishl, 1, 0), (.iconst (-1), 1, (-1)), (.ixor, 1, 0), (.iand, 1, 0)] (by decide +kernel) rfl ?_
      obtain ⟨h5, gh5, hf⟩ := Option.bind_eq_some_iff.mp hf
      refine C.ast gh5 (by decide +kernel) rfl ?_
      refine C.seg (pe := 56) (lv' := [(0, .ref a0), (1, .int p1), (2, .int p2), (3, .int p3)]) (st' := [.ref a0]) [(.aload_n 0, 1, 0)] (by decide +kernel) rfl ?_
      obtain ⟨a6, ga6, hf⟩ := Option.bind_eq_some_iff.mp hf
      refine C.rdA fr_169 ga6 (by decide +kernel) rfl ?_
      refine C.seg (pe := 61) (lv' := [(0, .ref a0), (1, .int p1), (2, .int p2), (3, .int p3)]) (st' := [.int p2, .ref a6, .int p2, .ref a6]) [(.iload_n 2, 1, 0), (.dup2, 1, 0)] (by decide +kernel) rfl ?_
      obtain ⟨x7, gx7, hf⟩ := Option.bind_eq_some_iff.mp hf
      refine C.ald 0 rfl gx7 (by decide +kernel) rfl ?_
      refine C.seg (pe := 68) (lv' := [(0, .ref a0), (1, .int p1), (2, .int p2), (3, .int p3)]) (st' := [.int (x7 &&& ((1 <<< (p1 &&& 31)) ^^^ (-1))), .int p2, .ref a6]) [(.iconst 1, 1, 1), (.iload_n 1, 1, 0), (.ishl, 1, 0), (.iconst (-1), 1, (-1)), (.ixor, 1, 0), (.iand, 1, 0)] (by decide +kernel) rfl ?_
      obtain ⟨h8, gh8, hf⟩ := Option.bind_eq_some_iff.mp hf
      refine C.ast gh8 (by decide +kernel) rfl ?_
      refine Vsub [] rfl ?_
      exact l_X9_setBeside_69 C C2 h8 hf
    · replace hf := ifn c15 hf
      refine C.seg (pe := 15) (lv' := [(0, .ref a0), (1, .int p1), (2, .int p2), (3, .int p3)]) (st' := [.ref a0]) [(.aload_n 0, 1, 0)] (by decide +kernel) rfl ?_
      obtain ⟨a9, ga9, hf⟩ := Option.bind_eq_some_iff.mp hf
      refine C.rdA fr_169 ga9 (by decide +kernel) rfl ?_
      refine C.seg (pe := 20) (lv' := [(0, .ref a0), (1, .int p1), (2, .int p2), (3, .int p3)]) (st' := [.int p1, .ref a9, .int p1, .ref a9]) [(.iload_n 1, 1, 0), (.dup2, 1, 0)] (by decide +kernel) rfl ?_
      obtain ⟨x10, gx10, hf⟩ := Option.bind_eq_some_iff.mp hf
      refine C.ald 0 rfl gx10 (by decide +kernel) rfl ?_
      refine C.seg (pe := 25) (lv' := [(0, .ref a0), (1, .int p1), (2, .int p2), (3, .int p3)]) (st' := [.int (x10 ||| (1 <<< (p2 &&& 31))), .int p1, .ref a9]) [(.iconst 1, 1, 1), (.iload_n 2, 1, 0), (.ishl, 1, 0), (.ior, 1, 0)] (by decide +kernel) rfl ?_
      obtain ⟨h11, gh11, hf⟩ := Option.bind_eq_some_iff.mp hf
      refine C.ast gh11 (by decide +kernel) rfl ?_
      refine C.seg (pe := 27) (lv' := [(0, .ref a0), (1, .int p1), (2, .int p2), (3, .int p3)]) (st' := [.ref a0]) [(.aload_n 0, 1, 0)] (by decide +kernel) rfl ?_
      obtain ⟨a12, ga12, hf⟩ := Option.bind_eq_some_iff.mp hf
      refine C.rdA fr_169 ga12 (by decide +kernel) rfl ?_
      refine C.seg (pe := 32) (lv' := [(0, .ref a0), (1, .int p1), (2, .int p2), (3, .int p3)]) (st' := [.int p2, .ref a12, .int p2, .ref a12]) [(.iload_n 2, 1, 0), (.dup2, 1, 0)] (by decide +kernel) rfl ?_
      obtain ⟨x13, gx13, hf⟩ := Option.bind_eq_some_iff.mp hf
      refine C.ald 0 rfl gx13 (by decide +kernel) rfl ?_
      refine C.seg (pe := 37) (lv' := [(0, .ref a0), (1, .int p1), (2, .int p2), (3, .int p3)]) (st' := [.int (x13 ||| (1 <<< (p1 &&& 31))), .int p2, .ref a12]) [(.iconst 1, 1, 1), (.iload_n 1, 1, 0), (.ishl, 1, 0), (.ior, 1, 0)] (by decide +kernel) rfl ?_
      obtain ⟨h14, gh14, hf⟩ := Option.bind_eq_some_iff.mp hf
      refine C.ast gh14 (by decide +kernel) rfl ?_
      refine C.goto (off := 31) (tgt := 69) (by decide +kernel) (by decide) ?_
      refine Vsub [] rfl ?_
      exact l_X9_setBeside_69 C C2 h14 hf
  · replace hf := ifp c16 hf
    cases hf
    exact C.retV rfl (by decide +kernel) ⟨rfl, rfl⟩
theorem o_X9_setBeside {a0 : Nat} {p1 : Int32} {p2 : Int32} {p3 : Int32} {h : AH} {hr : AH} (hf : f_X9_setBeside a0 p1 p2 p3 h = some hr) : isO 9 h a0 = true := by
  unfold f_X9_setBeside at hf
  exact (ifO hf).1
/-! WallHouse$Walls.setWay(III)V -/
def f_X9_setWay_33 (h : AH) : Option (AH) :=
  some h
set_option maxRecDepth 100000 in
set_option maxHeartbeats 4000000 in
theorem l_X9_setWay_33 {X : MX} {l : Launch} {G : GX} {h0 : AH} {hr : AH} (C : Cx X G RX9 cX9_setWay 4 none 2 43 h0) (C2 : Cy X l "setWay" []) (h : AH) (hf : f_X9_setWay_33 h = some hr) : V X G h0 (QV hr) 33 [] [] h := by
  unfold f_X9_setWay_33 at hf
  cases hf
  exact C.retV rfl (by decide +kernel) ⟨rfl, rfl⟩
def f_X9_setWay (a0 : Nat) (p1 : Int32) (p2 : Int32) (p3 : Int32) (h : AH) : Option (AH) :=
  if isO 9 h a0 = true then
    b2 (f_X9_arePair a0 p1 p2 h) fun x1 h2 =>
    if x1 = 0 then
      f_X9_setWay_33 h2
    else
      (gA 9 h2 a0 3).bind fun a3 =>
      (sI 0 h2 a3 ((p1 * 16) + p2) p3).bind fun h4 =>
      (gA 9 h4 a0 3).bind fun a5 =>
      (sI 0 h4 a5 ((p2 * 16) + p1) p3).bind fun h6 =>
      f_X9_setWay_33 h6
  else none
set_option maxRecDepth 100000 in
set_option maxHeartbeats 4000000 in
theorem w_X9_setWay {l : Launch} {G : GX} {a0 : Nat} {p1 : Int32} {p2 : Int32} {p3 : Int32} {h : AH} {hr : AH} (hf : f_X9_setWay a0 p1 p2 p3 h = some hr) : Ct l G yX9_setWay 2 43 [.ref a0, .int p1, .int p2, .int p3] h (QV hr) := by
  unfold f_X9_setWay at hf
  obtain ⟨ho, hf⟩ := ifO hf
  refine Ct_of (own := RX9) (cc := cX9_setWay) (nL := 4) (ret := none) rfl rfl k_802 (Nat.le_of_ble_eq_true rfl) (fun X C2 C => ?_)
  show V X G h (QV hr) 0 [(0, .ref a0), (1, .int p1), (2, .int p2), (3, .int p3)] [] h
  refine C.seg (pe := 3) (lv' := [(0, .ref a0), (1, .int p1), (2, .int p2), (3, .int p3)]) (st' := [.int p2, .int p1, .ref a0]) [(.aload_n 0, 1, 0), (.iload_n 1, 1, 0), (.iload_n 2, 1, 0)] (by decide +kernel) rfl ?_
  obtain ⟨x1, h2, gx1, hf⟩ := b2_some hf
  refine C.callVr C2 [.int p1, .int p2] [] mv_794 rfl (o_X9_arePair gx1) (w_X9_arePair gx1) (by omega) (by omega) (Nat.le_of_ble_eq_true rfl) (by decide +kernel) rfl ?_
  refine C.if_eq (off := 27) (tgt := 33) (pf := 9) (by decide +kernel) (by decide) rfl (fun c7 => ?_) (fun c7 => ?_)
  · replace hf := ifp c7 hf
    refine Vsub [] rfl ?_
    exact l_X9_setWay_33 C C2 h2 hf
  · replace hf := ifn c7 hf
    refine C.seg (pe := 10) (lv' := [(0, .ref a0), (1, .int p1), (2, .int p2), (3, .int p3)]) (st' := [.ref a0]) [(.aload_n 0, 1, 0)] (by decide +kernel) rfl ?_
    obtain ⟨a3, ga3, hf⟩ := Option.bind_eq_some_iff.mp hf
    refine C.rdA fr_170 ga3 (by decide +kernel) rfl ?_
    refine C.seg (pe := 20) (lv' := [(0, .ref a0), (1, .int p1), (2, .int p2), (3, .int p3)]) (st' := [.int p3, .int ((p1 * 16) + p2), .ref a3]) [(.iload_n 1, 1, 0), (.bipush 16, 2, 16), (.imul, 1, 0), (.iload_n 2, 1, 0), (.iadd, 1, 0), (.iload_n 3, 1, 0)] (by decide +kernel) rfl ?_
    obtain ⟨h4, gh4, hf⟩ := Option.bind_eq_some_iff.mp hf
    refine C.ast gh4 (by decide +kernel) rfl ?_
    refine C.seg (pe := 22) (lv' := [(0, .ref a0), (1, .int p1), (2, .int p2), (3, .int p3)]) (st' := [.ref a0]) [(.aload_n 0, 1, 0)] (by decide +kernel) rfl ?_
    obtain ⟨a5, ga5, hf⟩ := Option.bind_eq_some_iff.mp hf
    refine C.rdA fr_170 ga5 (by decide +kernel) rfl ?_
    refine C.seg (pe := 32) (lv' := [(0, .ref a0), (1, .int p1), (2, .int p2), (3, .int p3)]) (st' := [.int p3, .int ((p2 * 16) + p1), .ref a5]) [(.iload_n 2, 1, 0), (.bipush 16, 2, 16), (.imul, 1, 0), (.iload_n 1, 1, 0), (.iadd, 1, 0), (.iload_n 3, 1, 0)] (by decide +kernel) rfl ?_
    obtain ⟨h6, gh6, hf⟩ := Option.bind_eq_some_iff.mp hf
    refine C.ast gh6 (by decide +kernel) rfl ?_
    refine Vsub [] rfl ?_
    exact l_X9_setWay_33 C C2 h6 hf
theorem o_X9_setWay {a0 : Nat} {p1 : Int32} {p2 : Int32} {p3 : Int32} {h : AH} {hr : AH} (hf : f_X9_setWay a0 p1 p2 p3 h = some hr) : isO 9 h a0 = true := by
  unfold f_X9_setWay at hf
  exact (ifO hf).1
/-! WallHouse$Walls.areBeside(II)Z -/
def f_X9_areBeside_28 (si0 : Int32) (h : AH) : Option (Int32 × AH) :=
  (ckZ si0).bind fun x1 =>
  some (x1, h)
set_option maxRecDepth 100000 in
set_option maxHeartbeats 4000000 in
theorem l_X9_areBeside_28 {X : MX} {l : Launch} {G : GX} {h0 : AH} {rr : Int32} {hr : AH} (C : Cx X G RX9 cX9_areBeside 3 (some .boolean) 2 43 h0) (C2 : Cy X l "areBeside" []) (si0 : Int32) (h : AH) (hf : f_X9_areBeside_28 si0 h = some (rr, hr)) : V X G h0 (QI rr hr) 28 [] [.int si0] h := by
  unfold f_X9_areBeside_28 at hf
  obtain ⟨x1, gx1, hf⟩ := Option.bind_eq_some_iff.mp hf
  have ex1 := ckZ_eq gx1
  subst ex1
  cases hf
  exact C.retZ rfl gx1 (by decide +kernel) ⟨rfl, rfl⟩
def f_X9_areBeside_27 (h : AH) : Option (Int32 × AH) :=
  f_X9_areBeside_28 0 h
set_option maxRecDepth 100000 in
set_option maxHeartbeats 4000000 in
theorem l_X9_areBeside_27 {X : MX} {l : Launch} {G : GX} {h0 : AH} {rr : Int32} {hr : AH} (C : Cx X G RX9 cX9_areBeside 3 (some .boolean) 2 43 h0) (C2 : Cy X l "areBeside" []) (h : AH) (hf : f_X9_areBeside_27 h = some (rr, hr)) : V X G h0 (QI rr hr) 27 [] [] h := by
  unfold f_X9_areBeside_27 at hf
  refine C.seg (pe := 28) (lv' := []) (st' := [.int 0]) [(.iconst 0, 1, 0)] (by decide +kernel) rfl ?_
  exact l_X9_areBeside_28 C C2 0 h hf
def f_X9_areBeside (a0 : Nat) (p1 : Int32) (p2 : Int32) (h : AH) : Option (Int32 × AH) :=
  if isO 9 h a0 = true then
    b2 (f_X9_arePair a0 p1 p2 h) fun x1 h2 =>
    if x1 = 0 then
      f_X9_areBeside_27 h2
    else
      (gA 9 h2 a0 2).bind fun a3 =>
      (aI 0 h2 a3 p1).bind fun x4 =>
      if (x4 >>> (p2 &&& 31)) &&& 1 = 1 then
        f_X9_areBeside_28 1 h2
      else
        f_X9_areBeside_27 h2
  else none
set_option maxRecDepth 100000 in
set_option maxHeartbeats 4000000 in
theorem w_X9_areBeside {l : Launch} {G : GX} {a0 : Nat} {p1 : Int32} {p2 : Int32} {h : AH} {rr : Int32} {hr : AH} (hf : f_X9_areBeside a0 p1 p2 h = some (rr, hr)) : Ct l G yX9_areBeside 2 43 [.ref a0, .int p1, .int p2] h (QI rr hr) := by
  unfold f_X9_areBeside at hf
  obtain ⟨ho, hf⟩ := ifO hf
  refine Ct_of (own := RX9) (cc := cX9_areBeside) (nL := 3) (ret := (some .boolean)) rfl rfl k_1330 (Nat.le_of_ble_eq_true rfl) (fun X C2 C => ?_)
  show V X G h (QI rr hr) 0 [(0, .ref a0), (1, .int p1), (2, .int p2)] [] h
  refine C.seg (pe := 3) (lv' := [(0, .ref a0), (1, .int p1), (2, .int p2)]) (st' := [.int p2, .int p1, .ref a0]) [(.aload_n 0, 1, 0), (.iload_n 1, 1, 0), (.iload_n 2, 1, 0)] (by decide +kernel) rfl ?_
  obtain ⟨x1, h2, gx1, hf⟩ := b2_some hf
  refine C.callVr C2 [.int p1, .int p2] [] mv_794 rfl (o_X9_arePair gx1) (w_X9_arePair gx1) (by omega) (by omega) (Nat.le_of_ble_eq_true rfl) (by decide +kernel) rfl ?_
  refine C.if_eq (off := 21) (tgt := 27) (pf := 9) (by decide +kernel) (by decide) rfl (fun c6 => ?_) (fun c6 => ?_)
  · replace hf := ifp c6 hf
    refine Vsub [] rfl ?_
    exact l_X9_areBeside_27 C C2 h2 hf
  · replace hf := ifn c6 hf
    refine C.seg (pe := 10) (lv' := [(0, .ref a0), (1, .int p1), (2, .int p2)]) (st' := [.ref a0]) [(.aload_n 0, 1, 0)] (by decide +kernel) rfl ?_
    obtain ⟨a3, ga3, hf⟩ := Option.bind_eq_some_iff.mp hf
    refine C.rdA fr_169 ga3 (by decide +kernel) rfl ?_
    refine C.seg (pe := 14) (lv' := [(0, .ref a0), (1, .int p1), (2, .int p2)]) (st' := [.int p1, .ref a3]) [(.iload_n 1, 1, 0)] (by decide +kernel) rfl ?_
    obtain ⟨x4, gx4, hf⟩ := Option.bind_eq_some_iff.mp hf
    refine C.ald 0 rfl gx4 (by decide +kernel) rfl ?_
    refine C.seg (pe := 20) (lv' := [(0, .ref a0), (1, .int p1), (2, .int p2)]) (st' := [.int 1, .int ((x4 >>> (p2 &&& 31)) &&& 1)]) [(.iload_n 2, 1, 0), (.ishr, 1, 0), (.iconst 1, 1, 1), (.iand, 1, 0), (.iconst 1, 1, 1)] (by decide +kernel) rfl ?_
    refine C.icmp_ne (off := 7) (tgt := 27) (pf := 23) (by decide +kernel) (by decide) rfl (fun c5 => ?_) (fun c5 => ?_)
    · replace hf := ifn c5 hf
      refine Vsub [] rfl ?_
      exact l_X9_areBeside_27 C C2 h2 hf
    · replace hf := ifp c5 hf
      refine C.seg (pe := 24) (lv' := [(0, .ref a0), (1, .int p1), (2, .int p2)]) (st' := [.int 1]) [(.iconst 1, 1, 1)] (by decide +kernel) rfl ?_
      refine C.goto (off := 4) (tgt := 28) (by decide +kernel) (by decide) ?_
      refine Vsub [] rfl ?_
      exact l_X9_areBeside_28 C C2 1 h2 hf
theorem o_X9_areBeside {a0 : Nat} {p1 : Int32} {p2 : Int32} {h : AH} {rr : Int32} {hr : AH} (hf : f_X9_areBeside a0 p1 p2 h = some (rr, hr)) : isO 9 h a0 = true := by
  unfold f_X9_areBeside at hf
  exact (ifO hf).1
/-! WallHouse$Walls.way(II)I -/
def f_X9_way_24 (si0 : Int32) (h : AH) : Option (Int32 × AH) :=
  some (si0, h)
set_option maxRecDepth 100000 in
set_option maxHeartbeats 4000000 in
theorem l_X9_way_24 {X : MX} {l : Launch} {G : GX} {h0 : AH} {rr : Int32} {hr : AH} (C : Cx X G RX9 cX9_way 3 (some .int) 2 43 h0) (C2 : Cy X l "way" []) (si0 : Int32) (h : AH) (hf : f_X9_way_24 si0 h = some (rr, hr)) : V X G h0 (QI rr hr) 24 [] [.int si0] h := by
  unfold f_X9_way_24 at hf
  cases hf
  exact C.retI rfl (by decide +kernel) ⟨rfl, rfl⟩
def f_X9_way (a0 : Nat) (p1 : Int32) (p2 : Int32) (h : AH) : Option (Int32 × AH) :=
  if isO 9 h a0 = true then
    b2 (f_X9_arePair a0 p1 p2 h) fun x1 h2 =>
    if x1 = 0 then
      f_X9_way_24 0 h2
    else
      (gA 9 h2 a0 3).bind fun a3 =>
      (aI 0 h2 a3 ((p1 * 16) + p2)).bind fun x4 =>
      f_X9_way_24 x4 h2
  else none
set_option maxRecDepth 100000 in
set_option maxHeartbeats 4000000 in
theorem w_X9_way {l : Launch} {G : GX} {a0 : Nat} {p1 : Int32} {p2 : Int32} {h : AH} {rr : Int32} {hr : AH} (hf : f_X9_way a0 p1 p2 h = some (rr, hr)) : Ct l G yX9_way 2 43 [.ref a0, .int p1, .int p2] h (QI rr hr) := by
  unfold f_X9_way at hf
  obtain ⟨ho, hf⟩ := ifO hf
  refine Ct_of (own := RX9) (cc := cX9_way) (nL := 3) (ret := (some .int)) rfl rfl k_1545 (Nat.le_of_ble_eq_true rfl) (fun X C2 C => ?_)
  show V X G h (QI rr hr) 0 [(0, .ref a0), (1, .int p1), (2, .int p2)] [] h
  refine C.seg (pe := 3) (lv' := [(0, .ref a0), (1, .int p1), (2, .int p2)]) (st' := [.int p2, .int p1, .ref a0]) [(.aload_n 0, 1, 0), (.iload_n 1, 1, 0), (.iload_n 2, 1, 0)] (by decide +kernel) rfl ?_
  obtain ⟨x1, h2, gx1, hf⟩ := b2_some hf
  refine C.callVr C2 [.int p1, .int p2] [] mv_794 rfl (o_X9_arePair gx1) (w_X9_arePair gx1) (by omega) (by omega) (Nat.le_of_ble_eq_true rfl) (by decide +kernel) rfl ?_
  refine C.if_eq (off := 17) (tgt := 23) (pf := 9) (by decide +kernel) (by decide) rfl (fun c5 => ?_) (fun c5 => ?_)
  · replace hf := ifp c5 hf
    refine C.seg (pe := 24) (lv' := [(0, .ref a0), (1, .int p1), (2, .int p2)]) (st' := [.int 0]) [(.iconst 0, 1, 0)] (by decide +kernel) rfl ?_
    refine Vsub [] rfl ?_
    exact l_X9_way_24 C C2 0 h2 hf
  · replace hf := ifn c5 hf
    refine C.seg (pe := 10) (lv' := [(0, .ref a0), (1, .int p1), (2, .int p2)]) (st' := [.ref a0]) [(.aload_n 0, 1, 0)] (by decide +kernel) rfl ?_
    obtain ⟨a3, ga3, hf⟩ := Option.bind_eq_some_iff.mp hf
    refine C.rdA fr_170 ga3 (by decide +kernel) rfl ?_
    refine C.seg (pe := 19) (lv' := [(0, .ref a0), (1, .int p1), (2, .int p2)]) (st' := [.int ((p1 * 16) + p2), .ref a3]) [(.iload_n 1, 1, 0), (.bipush 16, 2, 16), (.imul, 1, 0), (.iload_n 2, 1, 0), (.iadd, 1, 0)] (by decide +kernel) rfl ?_
    obtain ⟨x4, gx4, hf⟩ := Option.bind_eq_some_iff.mp hf
    refine C.ald 0 rfl gx4 (by decide +kernel) rfl ?_
    refine C.goto (off := 4) (tgt := 24) (by decide +kernel) (by decide) ?_
    refine Vsub [] rfl ?_
    exact l_X9_way_24 C C2 x4 h2 hf
theorem o_X9_way {a0 : Nat} {p1 : Int32} {p2 : Int32} {h : AH} {rr : Int32} {hr : AH} (hf : f_X9_way a0 p1 p2 h = some (rr, hr)) : isO 9 h a0 = true := by
  unfold f_X9_way at hf
  exact (ifO hf).1
